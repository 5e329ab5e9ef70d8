section
variable {g : pm_Gl} {X : pm_X} {S : List sF}
def b_X5_countPairs_12 (v1 : Int32) (v3 : Int32) (s : Int32 × Int32 × me) : Option ((Int32 × Int32 × me) ⊕ (Int32 × Int32 × me)) :=
  if v3 ≤ s.2.1 then
    some (.inr (s.1, s.2.1, s.2.2))
  else
    bd (f_X5_areJoined s.2.1 v3 s.2.2) (fun r3 =>
    if r3.1 = 0 then
      lt (s.2.1 + 1) (fun w5 =>
      some (.inl (s.1, w5, r3.2)))
    else
      lt (s.1 + 1) (fun w6 =>
      lt (s.2.1 + 1) (fun w7 =>
      some (.inl (w6, w7, r3.2)))))
def b_X5_countPairs_4 (v1 : Int32) (s : Int32 × Int32 × me) : Option ((Int32 × Int32 × me) ⊕ (Int32 × Int32 × me)) :=
  if v1 ≤ s.2.1 then
    some (.inr (s.1, s.2.1, s.2.2))
  else
    bd (lo (b_X5_countPairs_12 v1 s.2.1) 2048 (s.1, 0, s.2.2)) (fun s8 =>
    lt (s.2.1 + 1) (fun w9 =>
    some (.inl (s8.1, w9, s8.2.2))))
def f_X5_countPairs (v1 : Int32) (m0 : me) : Option (Int32 × me) :=
  bd (lo (b_X5_countPairs_4 v1) 2048 (0, 0, m0)) (fun s10 =>
  some ((s10.1, s10.2.2)))
set_option maxRecDepth 20000 in
set_option maxHeartbeats 4000000 in
theorem lb_X5_countPairs_12 (hfl : g.1.stackTraces = false) (hS : pS 0 138 S) {v1 : Int32} {v3 : Int32} {s : Int32 × Int32 × me} {r : (Int32 × Int32 × me) ⊕ (Int32 × Int32 × me)} (h : b_X5_countPairs_12 v1 v3 s = some r) (hN : ∀ s', r = .inl s' → (fun z9 : Int32 × Int32 × me => pm_G g mX5_countPairs X 12 [some (.ref 126), some (.int v1), some (.int z9.1), some (.int v3), some (.int z9.2.1)] [] (en S z9.2.2) 0 0) s') (hT : ∀ t, r = .inr t → (fun z9 : Int32 × Int32 × me => pm_G g mX5_countPairs X 37 [some (.ref 126), some (.int v1), some (.int z9.1), some (.int v3), some (.int z9.2.1)] [] (en S z9.2.2) 0 0) t) : (fun z9 : Int32 × Int32 × me => pm_G g mX5_countPairs X 12 [some (.ref 126), some (.int v1), some (.int z9.1), some (.int v3), some (.int z9.2.1)] [] (en S z9.2.2) 0 0) s := by
  unfold b_X5_countPairs_12 at h
  show pm_G g mX5_countPairs X 12 [some (.ref 126), some (.int v1), some (.int s.1), some (.int v3), some (.int s.2.1)] [] (en S s.2.2) 0 0
  refine pg_iload dX5_countPairs_12 rfl ?_
  refine pg_iload_n dX5_countPairs_14 rfl ?_
  refine pg_icmp_ge 37 dX5_countPairs_15 (by decide) (fun c2 => ?_) (fun c2 => ?_)
  · rw [if_pos c2] at h
    obtain rfl := Option.some.inj h
    exact hT _ rfl
  · rw [if_neg c2] at h
    refine pg_aload_n dX5_countPairs_18 rfl ?_
    refine pg_iload dX5_countPairs_19 rfl ?_
    refine pg_iload_n dX5_countPairs_21 rfl ?_
    obtain ⟨r3, h_r3, h⟩ := bd_at h
    refine eg_cVi (C := mX5_areJoined) (as := [(.int s.2.1), (.int v3)]) dX5_countPairs_22 mw637 cv_X5_areJoined hS sp126 (Nat.le_of_ble_eq_true rfl) (Nat.le_of_ble_eq_true rfl) rfl rfl rfl (Nat.le_of_ble_eq_true rfl) rfl ⟨(Nat.le_of_ble_eq_true rfl), (Nat.le_of_ble_eq_true rfl)⟩ (ct_X5_areJoined hfl (hS.sub (Nat.le_of_ble_eq_true rfl) (Nat.le_of_ble_eq_true rfl)) h_r3) ?_
    refine pg_if_eq 31 dX5_countPairs_25 (by decide) (fun c4 => ?_) (fun c4 => ?_)
    · rw [if_pos c4] at h
      obtain ⟨w5, e_w5⟩ : ∃ z : Int32, z = s.2.1 + 1 := ⟨_, rfl⟩
      replace h := lt_at h e_w5
      refine eg_iinc [some (.ref 126), some (.int v1), some (.int s.1), some (.int v3), some (.int w5)] w5 1 dX5_countPairs_31 rfl rfl e_w5 rfl ?_
      refine pg_goto 12 dX5_countPairs_34 (by decide) ?_
      obtain rfl := Option.some.inj h
      exact hN _ rfl
    · rw [if_neg c4] at h
      obtain ⟨w6, e_w6⟩ : ∃ z : Int32, z = s.1 + 1 := ⟨_, rfl⟩
      replace h := lt_at h e_w6
      refine eg_iinc [some (.ref 126), some (.int v1), some (.int w6), some (.int v3), some (.int s.2.1)] w6 1 dX5_countPairs_28 rfl rfl e_w6 rfl ?_
      obtain ⟨w7, e_w7⟩ : ∃ z : Int32, z = s.2.1 + 1 := ⟨_, rfl⟩
      replace h := lt_at h e_w7
      refine eg_iinc [some (.ref 126), some (.int v1), some (.int w6), some (.int v3), some (.int w7)] w7 1 dX5_countPairs_31 rfl rfl e_w7 rfl ?_
      refine pg_goto 12 dX5_countPairs_34 (by decide) ?_
      obtain rfl := Option.some.inj h
      exact hN _ rfl
set_option maxRecDepth 20000 in
set_option maxHeartbeats 4000000 in
theorem lb_X5_countPairs_4 (hfl : g.1.stackTraces = false) (hS : pS 0 138 S) {v1 : Int32} {s : Int32 × Int32 × me} {r : (Int32 × Int32 × me) ⊕ (Int32 × Int32 × me)} (h : b_X5_countPairs_4 v1 s = some r) (hN : ∀ s', r = .inl s' → (fun z9 : Int32 × Int32 × me => pm_G g mX5_countPairs X 4 [some (.ref 126), some (.int v1), some (.int z9.1), some (.int z9.2.1), none] [] (en S z9.2.2) 0 0) s') (hT : ∀ t, r = .inr t → (fun z9 : Int32 × Int32 × me => pm_G g mX5_countPairs X 43 [some (.ref 126), some (.int v1), some (.int z9.1), some (.int z9.2.1), none] [] (en S z9.2.2) 0 0) t) : (fun z9 : Int32 × Int32 × me => pm_G g mX5_countPairs X 4 [some (.ref 126), some (.int v1), some (.int z9.1), some (.int z9.2.1), none] [] (en S z9.2.2) 0 0) s := by
  unfold b_X5_countPairs_4 at h
  show pm_G g mX5_countPairs X 4 [some (.ref 126), some (.int v1), some (.int s.1), some (.int s.2.1), none] [] (en S s.2.2) 0 0
  refine pg_iload_n dX5_countPairs_4 rfl ?_
  refine pg_iload_n dX5_countPairs_5 rfl ?_
  refine pg_icmp_ge 43 dX5_countPairs_6 (by decide) (fun c1 => ?_) (fun c1 => ?_)
  · rw [if_pos c1] at h
    obtain rfl := Option.some.inj h
    exact hT _ rfl
  · rw [if_neg c1] at h
    refine pg_iconst 0 dX5_countPairs_9 rfl ?_
    refine eg_istore [some (.ref 126), some (.int v1), some (.int s.1), some (.int s.2.1), some (.int 0)] 0 dX5_countPairs_10 rfl (Nat.le_of_ble_eq_true rfl) rfl ?_
    obtain ⟨s8, h_s8, h⟩ := bd_at h
    refine lo_at (b := b_X5_countPairs_12 v1 s.2.1) (G := (fun z9 : Int32 × Int32 × me => pm_G g mX5_countPairs X 12 [some (.ref 126), some (.int v1), some (.int z9.1), some (.int s.2.1), some (.int z9.2.1)] [] (en S z9.2.2) 0 0)) (T := (fun z9 : Int32 × Int32 × me => pm_G g mX5_countPairs X 37 [some (.ref 126), some (.int v1), some (.int z9.1), some (.int s.2.1), some (.int z9.2.1)] [] (en S z9.2.2) 0 0)) (fun q9 r9 h1 h2 h3 => lb_X5_countPairs_12 hfl hS h1 h2 h3) 2048 (s.1, 0, s.2.2) s8 h_s8 ?_
    show pm_G g mX5_countPairs X 37 [some (.ref 126), some (.int v1), some (.int s8.1), some (.int s.2.1), some (.int s8.2.1)] [] (en S s8.2.2) 0 0
    obtain ⟨w9, e_w9⟩ : ∃ z : Int32, z = s.2.1 + 1 := ⟨_, rfl⟩
    replace h := lt_at h e_w9
    refine eg_iinc [some (.ref 126), some (.int v1), some (.int s8.1), some (.int w9), some (.int s8.2.1)] w9 1 dX5_countPairs_37 rfl rfl e_w9 rfl ?_
    refine pg_goto 4 dX5_countPairs_40 (by decide) ?_
    obtain rfl := Option.some.inj h
    refine eg_forget [some (.ref 126), some (.int v1), some (.int s8.1), some (.int w9), none] (show pm_sub _ _ from ⟨rfl, ⟨rfl, ⟨rfl, ⟨rfl, trivial⟩⟩⟩⟩) ?_
    exact hN _ rfl
set_option maxRecDepth 20000 in
set_option maxHeartbeats 4000000 in
theorem ct_X5_countPairs (hfl : g.1.stackTraces = false) (hS : pS 0 138 S) {v1 : Int32} {m0 : me} {x : (Int32 × me)} (h : f_X5_countPairs v1 m0 = some x) : pm_Ct g mX5_countPairs [.ref 126, .int v1] (en S m0) 0 0 (qI S x) qF := by
  refine pm_of (by decide +kernel) rfl hfl (Nat.le_of_ble_eq_true rfl) (fun X hE => ?_)
  show pm_G g mX5_countPairs X 0 [some (.ref 126), some (.int v1), none, none, none] [] (en S m0) 0 0
  unfold f_X5_countPairs at h
  refine pg_iconst 0 dX5_countPairs_0 rfl ?_
  refine eg_istore_n [some (.ref 126), some (.int v1), some (.int 0), none, none] 0 dX5_countPairs_1 rfl (Nat.le_of_ble_eq_true rfl) rfl ?_
  refine pg_iconst 0 dX5_countPairs_2 rfl ?_
  refine eg_istore_n [some (.ref 126), some (.int v1), some (.int 0), some (.int 0), none] 0 dX5_countPairs_3 rfl (Nat.le_of_ble_eq_true rfl) rfl ?_
  obtain ⟨s10, h_s10, h⟩ := bd_at h
  refine lo_at (b := b_X5_countPairs_4 v1) (G := (fun z9 : Int32 × Int32 × me => pm_G g mX5_countPairs X 4 [some (.ref 126), some (.int v1), some (.int z9.1), some (.int z9.2.1), none] [] (en S z9.2.2) 0 0)) (T := (fun z9 : Int32 × Int32 × me => pm_G g mX5_countPairs X 43 [some (.ref 126), some (.int v1), some (.int z9.1), some (.int z9.2.1), none] [] (en S z9.2.2) 0 0)) (fun q9 r9 h1 h2 h3 => lb_X5_countPairs_4 hfl hS h1 h2 h3) 2048 (0, 0, m0) s10 h_s10 ?_
  show pm_G g mX5_countPairs X 43 [some (.ref 126), some (.int v1), some (.int s10.1), some (.int s10.2.1), none] [] (en S s10.2.2) 0 0
  refine pg_iload_n dX5_countPairs_43 rfl ?_
  obtain rfl := Option.some.inj h
  exact hE.2.1 _ _ _ _ _ _ .int dX5_countPairs_44 rfl rfl (Nat.zero_le _) (Nat.zero_le _) ⟨rfl, rfl⟩
def f_X11_count (v1 : Int32) (m0 : me) : Option ((Int32 ⊕ Nat) × me) :=
  bd (f_X11_isOutside v1 0 6 m0) (fun r1 =>
  if r1.1 = 0 then
    if v1 = 0 then
      some ((.inl (r1.2.1 1 5), r1.2))
    else
      if v1 = 1 then
        some ((.inl (r1.2.1 1 6), r1.2))
      else
        if v1 = 2 then
          some ((.inl (r1.2.1 1 7), r1.2))
        else
          if v1 = 3 then
            some ((.inl (r1.2.1 1 8), r1.2))
          else
            if v1 = 4 then
              some ((.inl (r1.2.1 1 9), r1.2))
            else
              if v1 = 5 then
                bd (f_X3_countCarrying r1.2) (fun r9 =>
                some ((.inl r9.1, r9.2)))
              else
                bd (f_X5_findGroups r1.2) (fun r10 =>
                bd (f_X5_countPairs (r10.2.1 1 0) r10.2) (fun r11 =>
                some ((.inl r11.1, r11.2))))
  else
    some ((.inr 1, r1.2)))
set_option maxRecDepth 20000 in
set_option maxHeartbeats 4000000 in
theorem ct_X11_count (hfl : g.1.stackTraces = false) (hS : pS 0 138 S) {v1 : Int32} {m0 : me} {x : ((Int32 ⊕ Nat) × me)} (h : f_X11_count v1 m0 = some x) : pm_Ct g mX11_count [.ref 0, .int v1] (en S m0) (kC x) (nC x) (qTI S x) (qX S x) := by
  refine pm_of (by decide +kernel) rfl hfl (Nat.le_of_ble_eq_true rfl) (fun X hE => ?_)
  show pm_G g mX11_count X 0 [some (.ref 0), some (.int v1)] [] (en S m0) 0 0
  unfold f_X11_count at h
  refine pg_iload_n dX11_count_0 rfl ?_
  refine pg_iconst 0 dX11_count_1 rfl ?_
  refine pg_bipush 6 dX11_count_2 rfl ?_
  obtain ⟨r1, h_r1, h⟩ := bd_at h
  refine eg_cSi (C := mX11_isOutside) (as := [(.int v1), (.int 0), (.int 6)]) dX11_count_4 mw390 cs_X11_isOutside rfl rfl (Nat.le_of_ble_eq_true rfl) rfl ⟨(Nat.le_of_ble_eq_true rfl), (Nat.le_of_ble_eq_true rfl)⟩ (ct_X11_isOutside hfl h_r1) ?_
  refine pg_if_eq 20 dX11_count_7 (by decide) (fun c2 => ?_) (fun c2 => ?_)
  · rw [if_pos c2] at h
    refine pg_iload_n dX11_count_20 rfl ?_
    by_cases c3 : v1 = 0
    · rw [if_pos c3] at h
      refine pg_tabIn (off := 39) 60 dX11_count_21 (by rw [c3]; decide) (by rw [c3]; decide) (by rw [c3]; decide) (by decide) ?_
      refine pg_aload_n dX11_count_60 rfl ?_
      refine eg_get dX11_count_61 fa_X11_12 hS sp0 (Nat.le_of_ble_eq_true rfl) (Nat.le_of_ble_eq_true rfl) rfl rfl ?_
      refine eg_get dX11_count_64 fa_X11_225 hS sp1 (Nat.le_of_ble_eq_true rfl) (Nat.le_of_ble_eq_true rfl) rfl rfl ?_
      obtain rfl := Option.some.inj h
      exact hE.2.1 _ _ _ _ _ _ .int dX11_count_67 rfl rfl (Nat.zero_le _) (Nat.zero_le _) ⟨_, rfl, rfl, rfl⟩
    · rw [if_neg c3] at h
      by_cases c4 : v1 = 1
      · rw [if_pos c4] at h
        refine pg_tabIn (off := 47) 68 dX11_count_21 (by rw [c4]; decide) (by rw [c4]; decide) (by rw [c4]; decide) (by decide) ?_
        refine pg_aload_n dX11_count_68 rfl ?_
        refine eg_get dX11_count_69 fa_X11_12 hS sp0 (Nat.le_of_ble_eq_true rfl) (Nat.le_of_ble_eq_true rfl) rfl rfl ?_
        refine eg_get dX11_count_72 fa_X11_228 hS sp1 (Nat.le_of_ble_eq_true rfl) (Nat.le_of_ble_eq_true rfl) rfl rfl ?_
        obtain rfl := Option.some.inj h
        exact hE.2.1 _ _ _ _ _ _ .int dX11_count_75 rfl rfl (Nat.zero_le _) (Nat.zero_le _) ⟨_, rfl, rfl, rfl⟩
      · rw [if_neg c4] at h
        by_cases c5 : v1 = 2
        · rw [if_pos c5] at h
          refine pg_tabIn (off := 55) 76 dX11_count_21 (by rw [c5]; decide) (by rw [c5]; decide) (by rw [c5]; decide) (by decide) ?_
          refine pg_aload_n dX11_count_76 rfl ?_
          refine eg_get dX11_count_77 fa_X11_12 hS sp0 (Nat.le_of_ble_eq_true rfl) (Nat.le_of_ble_eq_true rfl) rfl rfl ?_
          refine eg_get dX11_count_80 fa_X11_231 hS sp1 (Nat.le_of_ble_eq_true rfl) (Nat.le_of_ble_eq_true rfl) rfl rfl ?_
          obtain rfl := Option.some.inj h
          exact hE.2.1 _ _ _ _ _ _ .int dX11_count_83 rfl rfl (Nat.zero_le _) (Nat.zero_le _) ⟨_, rfl, rfl, rfl⟩
        · rw [if_neg c5] at h
          by_cases c6 : v1 = 3
          · rw [if_pos c6] at h
            refine pg_tabIn (off := 63) 84 dX11_count_21 (by rw [c6]; decide) (by rw [c6]; decide) (by rw [c6]; decide) (by decide) ?_
            refine pg_aload_n dX11_count_84 rfl ?_
            refine eg_get dX11_count_85 fa_X11_12 hS sp0 (Nat.le_of_ble_eq_true rfl) (Nat.le_of_ble_eq_true rfl) rfl rfl ?_
            refine eg_get dX11_count_88 fa_X11_234 hS sp1 (Nat.le_of_ble_eq_true rfl) (Nat.le_of_ble_eq_true rfl) rfl rfl ?_
            obtain rfl := Option.some.inj h
            exact hE.2.1 _ _ _ _ _ _ .int dX11_count_91 rfl rfl (Nat.zero_le _) (Nat.zero_le _) ⟨_, rfl, rfl, rfl⟩
          · rw [if_neg c6] at h
            by_cases c7 : v1 = 4
            · rw [if_pos c7] at h
              refine pg_tabIn (off := 71) 92 dX11_count_21 (by rw [c7]; decide) (by rw [c7]; decide) (by rw [c7]; decide) (by decide) ?_
              refine pg_aload_n dX11_count_92 rfl ?_
              refine eg_get dX11_count_93 fa_X11_12 hS sp0 (Nat.le_of_ble_eq_true rfl) (Nat.le_of_ble_eq_true rfl) rfl rfl ?_
              refine eg_get dX11_count_96 fa_X11_237 hS sp1 (Nat.le_of_ble_eq_true rfl) (Nat.le_of_ble_eq_true rfl) rfl rfl ?_
              obtain rfl := Option.some.inj h
              exact hE.2.1 _ _ _ _ _ _ .int dX11_count_99 rfl rfl (Nat.zero_le _) (Nat.zero_le _) ⟨_, rfl, rfl, rfl⟩
            · rw [if_neg c7] at h
              by_cases c8 : v1 = 5
              · rw [if_pos c8] at h
                refine pg_tabIn (off := 79) 100 dX11_count_21 (by rw [c8]; decide) (by rw [c8]; decide) (by rw [c8]; decide) (by decide) ?_
                refine pg_aload_n dX11_count_100 rfl ?_
                refine eg_get dX11_count_101 fa_X11_12 hS sp0 (Nat.le_of_ble_eq_true rfl) (Nat.le_of_ble_eq_true rfl) rfl rfl ?_
                refine eg_get dX11_count_104 fa_X11_112 hS sp1 (Nat.le_of_ble_eq_true rfl) (Nat.le_of_ble_eq_true rfl) rfl rfl ?_
                obtain ⟨r9, h_r9, h⟩ := bd_at h
                refine eg_cVi (C := mX3_countCarrying) (as := []) dX11_count_107 mw627 cv_X3_countCarrying hS sp11 (Nat.le_of_ble_eq_true rfl) (Nat.le_of_ble_eq_true rfl) rfl rfl rfl (Nat.le_of_ble_eq_true rfl) rfl ⟨(Nat.le_of_ble_eq_true rfl), (Nat.le_of_ble_eq_true rfl)⟩ (ct_X3_countCarrying hfl (hS.sub (Nat.le_of_ble_eq_true rfl) (Nat.le_of_ble_eq_true rfl)) h_r9) ?_
                obtain rfl := Option.some.inj h
                exact hE.2.1 _ _ _ _ _ _ .int dX11_count_110 rfl rfl (Nat.zero_le _) (Nat.zero_le _) ⟨_, rfl, rfl, rfl⟩
              · rw [if_neg c8] at h
                have k_c3 := lv_neT c3 (show (0 : Int32).toInt = 0 from rfl)
                have k_c4 := lv_neT c4 (show (1 : Int32).toInt = 1 from rfl)
                have k_c5 := lv_neT c5 (show (2 : Int32).toInt = 2 from rfl)
                have k_c6 := lv_neT c6 (show (3 : Int32).toInt = 3 from rfl)
                have k_c7 := lv_neT c7 (show (4 : Int32).toInt = 4 from rfl)
                have k_c8 := lv_neT c8 (show (5 : Int32).toInt = 5 from rfl)
                refine pg_tabOut 111 dX11_count_21 (by omega) (by decide) ?_
                refine pg_aload_n dX11_count_111 rfl ?_
                refine eg_get dX11_count_112 fa_X11_58 hS sp0 (Nat.le_of_ble_eq_true rfl) (Nat.le_of_ble_eq_true rfl) rfl rfl ?_
                refine pg_aload_n dX11_count_115 rfl ?_
                refine eg_get dX11_count_116 fa_X11_12 hS sp0 (Nat.le_of_ble_eq_true rfl) (Nat.le_of_ble_eq_true rfl) rfl rfl ?_
                obtain ⟨r10, h_r10, h⟩ := bd_at h
                refine eg_cVi (C := mX5_findGroups) (as := [(.ref 1)]) dX11_count_119 mw182 cv_X5_findGroups hS sp126 (Nat.le_of_ble_eq_true rfl) (Nat.le_of_ble_eq_true rfl) rfl rfl rfl (Nat.le_of_ble_eq_true rfl) rfl ⟨(Nat.le_of_ble_eq_true rfl), (Nat.le_of_ble_eq_true rfl)⟩ (ct_X5_findGroups hfl (hS.sub (Nat.le_of_ble_eq_true rfl) (Nat.le_of_ble_eq_true rfl)) h_r10) ?_
                refine pg_pop dX11_count_122 rfl ?_
                refine pg_aload_n dX11_count_123 rfl ?_
                refine eg_get dX11_count_124 fa_X11_58 hS sp0 (Nat.le_of_ble_eq_true rfl) (Nat.le_of_ble_eq_true rfl) rfl rfl ?_
                refine pg_aload_n dX11_count_127 rfl ?_
                refine eg_get dX11_count_128 fa_X11_12 hS sp0 (Nat.le_of_ble_eq_true rfl) (Nat.le_of_ble_eq_true rfl) rfl rfl ?_
                refine eg_get dX11_count_131 fa_X11_77 hS sp1 (Nat.le_of_ble_eq_true rfl) (Nat.le_of_ble_eq_true rfl) rfl rfl ?_
                obtain ⟨r11, h_r11, h⟩ := bd_at h
                refine eg_cVi (C := mX5_countPairs) (as := [(.int (r10.2.1 1 0))]) dX11_count_134 mw632 cv_X5_countPairs hS sp126 (Nat.le_of_ble_eq_true rfl) (Nat.le_of_ble_eq_true rfl) rfl rfl rfl (Nat.le_of_ble_eq_true rfl) rfl ⟨(Nat.le_of_ble_eq_true rfl), (Nat.le_of_ble_eq_true rfl)⟩ (ct_X5_countPairs hfl (hS.sub (Nat.le_of_ble_eq_true rfl) (Nat.le_of_ble_eq_true rfl)) h_r11) ?_
                obtain rfl := Option.some.inj h
                exact hE.2.1 _ _ _ _ _ _ .int dX11_count_137 rfl rfl (Nat.zero_le _) (Nat.zero_le _) ⟨_, rfl, rfl, rfl⟩
  · rw [if_neg c2] at h
    obtain rfl := Option.some.inj h
    exact hE.2.2.2.2.2.1 _ _ _ _ _ _ _ _ _ _ _ th0 rfl rfl dX11_count_10 dX11_count_13 dX11_count_14 dX11_count_16 dX11_count_19 rfl (Nat.le_of_ble_eq_true rfl) (Nat.le_of_ble_eq_true rfl) (Nat.le_of_ble_eq_true rfl) (Nat.le_of_ble_eq_true rfl) ⟨_, rfl, rfl, rfl⟩
def b_X11_digest_117 (v3 : Int32) (s : Int64 × Int32 × me) : Option ((Int64 × Int32 × me) ⊕ ((Int64 × Int32 × me) ⊕ ((Int64 ⊕ Nat) × me))) :=
  if 4 ≤ s.2.1 then
    some (.inr (.inl (s.1, s.2.1, s.2.2)))
  else
    bd (f_X11_tenant v3 s.2.1 s.2.2) (fun r16 =>
    tr r16.1 (fun w17 =>
      bd (f_X11_mix s.1 w17.toInt64 r16.2) (fun r19 =>
      lt (s.2.1 + 1) (fun w20 =>
      some (.inl (r19.1, w20, r19.2))))) (fun e18 => some (.inr (.inr ((.inr e18, r16.2))))))
def b_X11_digest_109 (s : Int64 × Int32 × me) : Option ((Int64 × Int32 × me) ⊕ ((Int64 × Int32 × me) ⊕ ((Int64 ⊕ Nat) × me))) :=
  if 4 ≤ s.2.1 then
    some (.inr (.inl (s.1, s.2.1, s.2.2)))
  else
    bd (lo (b_X11_digest_117 s.2.1) 2048 (s.1, 0, s.2.2)) (fun s21 =>
    sm s21 (fun s22 =>
      lt (s.2.1 + 1) (fun w24 =>
      some (.inl (s22.1, w24, s22.2.2)))) (fun x23 => some (.inr (.inr x23))))
def b_X11_digest_150 (s : Int64 × Int32 × me) : Option ((Int64 × Int32 × me) ⊕ ((Int64 × Int32 × me) ⊕ ((Int64 ⊕ Nat) × me))) :=
  if 7 ≤ s.2.1 then
    some (.inr (.inl (s.1, s.2.1, s.2.2)))
  else
    bd (f_X11_count s.2.1 s.2.2) (fun r29 =>
    tr r29.1 (fun w30 =>
      bd (f_X11_mix s.1 w30.toInt64 r29.2) (fun r32 =>
      lt (s.2.1 + 1) (fun w33 =>
      some (.inl (r32.1, w33, r32.2))))) (fun e31 => some (.inr (.inr ((.inr e31, r29.2))))))
def j_X11_digest_186 (u0 : Int64) (u1 : Int64) (m0 : me) : Option ((Int64 ⊕ Nat) × me) :=
  bd (f_X11_mix u0 u1 m0) (fun r39 =>
  some ((.inl r39.1, r39.2)))
def f_X11_digest (m0 : me) : Option ((Int64 ⊕ Nat) × me) :=
  bd (f_X11_mix 18498 ((m0.1 28 1).toInt64) m0) (fun r1 =>
  bd (f_X11_mix r1.1 ((r1.2.1 111 0).toInt64) r1.2) (fun r2 =>
  bd (f_X11_mix r2.1 ((r2.2.1 1 0).toInt64) r2.2) (fun r3 =>
  bd (f_X11_mix r3.1 ((r3.2.1 1 1).toInt64) r3.2) (fun r4 =>
  bd (f_X11_mix r4.1 ((r4.2.1 1 2).toInt64) r4.2) (fun r5 =>
  bd (f_X11_mix r5.1 ((r5.2.1 1 3).toInt64) r5.2) (fun r6 =>
  bd (f_X11_mix r6.1 ((r6.2.1 1 4).toInt64) r6.2) (fun r7 =>
  bd (f_X11_mixBridges r7.1 r7.2) (fun r8 =>
  tr r8.1 (fun w9 =>
    bd (f_X11_mixLinks w9 r8.2) (fun r11 =>
    tr r11.1 (fun w12 =>
      bd (lo (b_X11_digest_109) 2048 (w12, 0, r11.2)) (fun s25 =>
      sm s25 (fun s26 =>
        bd (lo (b_X11_digest_150) 2048 (s26.1, 0, s26.2.2)) (fun s34 =>
        sm s34 (fun s35 =>
          bd (f_X11_isForest s35.2.2) (fun r37 =>
          if r37.1 = 0 then
            j_X11_digest_186 s35.1 0 r37.2
          else
            j_X11_digest_186 s35.1 1 r37.2)) (fun x36 => some x36))) (fun x27 => some x27))) (fun e13 => some ((.inr e13, r11.2))))) (fun e10 => some ((.inr e10, r8.2)))))))))))
set_option maxRecDepth 20000 in
set_option maxHeartbeats 4000000 in
theorem lb_X11_digest_117 (hfl : g.1.stackTraces = false) (hS : pS 0 138 S) {v3 : Int32} {s : Int64 × Int32 × me} {r : (Int64 × Int32 × me) ⊕ ((Int64 × Int32 × me) ⊕ ((Int64 ⊕ Nat) × me))} (h : b_X11_digest_117 v3 s = some r) (hN : ∀ s', r = .inl s' → (fun z9 : Int64 × Int32 × me => pm_G g mX11_digest X 117 [some (.ref 0), some (.long z9.1), none, some (.int v3), some (.int z9.2.1)] [] (en S z9.2.2) 0 0) s') (hT : ∀ t, r = .inr t → (fun z8 : ((Int64 × Int32 × me) ⊕ ((Int64 ⊕ Nat) × me)) => (∀ z9, z8 = .inl z9 → pm_G g mX11_digest X 142 [some (.ref 0), some (.long z9.1), none, some (.int v3), some (.int z9.2.1)] [] (en S z9.2.2) 0 0) ∧ (∀ x9, z8 = .inr x9 → pm_End g mX11_digest X (kC x9) (nC x9) (qTJ S x9) (qX S x9))) t) : (fun z9 : Int64 × Int32 × me => pm_G g mX11_digest X 117 [some (.ref 0), some (.long z9.1), none, some (.int v3), some (.int z9.2.1)] [] (en S z9.2.2) 0 0) s := by
  unfold b_X11_digest_117 at h
  show pm_G g mX11_digest X 117 [some (.ref 0), some (.long s.1), none, some (.int v3), some (.int s.2.1)] [] (en S s.2.2) 0 0
  refine pg_iload dX11_digest_117 rfl ?_
  refine pg_iconst 4 dX11_digest_119 rfl ?_
  refine pg_icmp_ge 142 dX11_digest_120 (by decide) (fun c15 => ?_) (fun c15 => ?_)
  · rw [if_pos c15] at h
    obtain rfl := Option.some.inj h
    exact (hT _ rfl).1 _ rfl
  · rw [if_neg c15] at h
    refine pg_lload_n dX11_digest_123 rfl ?_
    refine pg_aload_n dX11_digest_124 rfl ?_
    refine pg_iload_n dX11_digest_125 rfl ?_
    refine pg_iload dX11_digest_126 rfl ?_
    obtain ⟨r16, h_r16, h⟩ := bd_at h
    refine eg_tVi (C := mX11_tenant) (as := [(.int v3), (.int s.2.1)]) dX11_digest_128 mw539 cv_X11_tenant hS sp0 (Nat.le_of_ble_eq_true rfl) (Nat.le_of_ble_eq_true rfl) rfl rfl rfl (Nat.le_of_ble_eq_true rfl) rfl ⟨(Nat.le_of_ble_eq_true rfl), (Nat.le_of_ble_eq_true rfl)⟩ (ct_X11_tenant hfl (hS.sub (Nat.le_of_ble_eq_true rfl) (Nat.le_of_ble_eq_true rfl)) h_r16) (fun w17 k_w17 => ?_) (fun e18 k_e18 => ?_)
    · rw [k_w17] at h
      replace h := tr_l h
      refine pg_i2l dX11_digest_131 ?_
      obtain ⟨r19, h_r19, h⟩ := bd_at h
      refine eg_cSj (C := mX11_mix) (as := [(.long s.1), (.long w17.toInt64)]) dX11_digest_132 mw521 cs_X11_mix rfl rfl (Nat.le_of_ble_eq_true rfl) rfl ⟨(Nat.le_of_ble_eq_true rfl), (Nat.le_of_ble_eq_true rfl)⟩ (ct_X11_mix hfl h_r19) ?_
      refine eg_lstore_n [some (.ref 0), some (.long r19.1), none, some (.int v3), some (.int s.2.1)] r19.1 dX11_digest_135 rfl (Nat.le_of_ble_eq_true rfl) rfl ?_
      obtain ⟨w20, e_w20⟩ : ∃ z : Int32, z = s.2.1 + 1 := ⟨_, rfl⟩
      replace h := lt_at h e_w20
      refine eg_iinc [some (.ref 0), some (.long r19.1), none, some (.int v3), some (.int w20)] w20 1 dX11_digest_136 rfl rfl e_w20 rfl ?_
      refine pg_goto 117 dX11_digest_139 (by decide) ?_
      obtain rfl := Option.some.inj h
      exact hN _ rfl
    · rw [k_e18] at h
      replace h := tr_r h
      obtain rfl := Option.some.inj h
      exact ⟨by rw [((hT _ rfl).2 _ rfl).1.1, ((hT _ rfl).2 _ rfl).1.2]; exact ⟨(Nat.le_of_ble_eq_true rfl), (Nat.le_of_ble_eq_true rfl)⟩, ((hT _ rfl).2 _ rfl).2.2.2.2.1 _ _ _ _ _ _ _ rfl (Nat.le_of_ble_eq_true rfl) (Nat.le_of_ble_eq_true rfl) ⟨_, rfl, rfl, rfl⟩⟩
set_option maxRecDepth 20000 in
set_option maxHeartbeats 4000000 in
theorem lb_X11_digest_109 (hfl : g.1.stackTraces = false) (hS : pS 0 138 S) {s : Int64 × Int32 × me} {r : (Int64 × Int32 × me) ⊕ ((Int64 × Int32 × me) ⊕ ((Int64 ⊕ Nat) × me))} (h : b_X11_digest_109 s = some r) (hN : ∀ s', r = .inl s' → (fun z9 : Int64 × Int32 × me => pm_G g mX11_digest X 109 [some (.ref 0), some (.long z9.1), none, some (.int z9.2.1), none] [] (en S z9.2.2) 0 0) s') (hT : ∀ t, r = .inr t → (fun z8 : ((Int64 × Int32 × me) ⊕ ((Int64 ⊕ Nat) × me)) => (∀ z9, z8 = .inl z9 → pm_G g mX11_digest X 148 [some (.ref 0), some (.long z9.1), none, some (.int z9.2.1), none] [] (en S z9.2.2) 0 0) ∧ (∀ x9, z8 = .inr x9 → pm_End g mX11_digest X (kC x9) (nC x9) (qTJ S x9) (qX S x9))) t) : (fun z9 : Int64 × Int32 × me => pm_G g mX11_digest X 109 [some (.ref 0), some (.long z9.1), none, some (.int z9.2.1), none] [] (en S z9.2.2) 0 0) s := by
  unfold b_X11_digest_109 at h
  show pm_G g mX11_digest X 109 [some (.ref 0), some (.long s.1), none, some (.int s.2.1), none] [] (en S s.2.2) 0 0
  refine pg_iload_n dX11_digest_109 rfl ?_
  refine pg_iconst 4 dX11_digest_110 rfl ?_
  refine pg_icmp_ge 148 dX11_digest_111 (by decide) (fun c14 => ?_) (fun c14 => ?_)
  · rw [if_pos c14] at h
    obtain rfl := Option.some.inj h
    exact (hT _ rfl).1 _ rfl
  · rw [if_neg c14] at h
    refine pg_iconst 0 dX11_digest_114 rfl ?_
    refine eg_istore [some (.ref 0), some (.long s.1), none, some (.int s.2.1), some (.int 0)] 0 dX11_digest_115 rfl (Nat.le_of_ble_eq_true rfl) rfl ?_
    obtain ⟨s21, h_s21, h⟩ := bd_at h
    refine lo_at (b := b_X11_digest_117 s.2.1) (G := (fun z9 : Int64 × Int32 × me => pm_G g mX11_digest X 117 [some (.ref 0), some (.long z9.1), none, some (.int s.2.1), some (.int z9.2.1)] [] (en S z9.2.2) 0 0)) (T := (fun z8 : ((Int64 × Int32 × me) ⊕ ((Int64 ⊕ Nat) × me)) => (∀ z9, z8 = .inl z9 → pm_G g mX11_digest X 142 [some (.ref 0), some (.long z9.1), none, some (.int s.2.1), some (.int z9.2.1)] [] (en S z9.2.2) 0 0) ∧ (∀ x9, z8 = .inr x9 → pm_End g mX11_digest X (kC x9) (nC x9) (qTJ S x9) (qX S x9)))) (fun q9 r9 h1 h2 h3 => lb_X11_digest_117 hfl hS h1 h2 h3) 2048 (s.1, 0, s.2.2) s21 h_s21 ⟨fun s22 k_s22 => ?_, fun x23 k_x23 => ?_⟩
    · rw [k_s22] at h
      replace h := sm_l h
      show pm_G g mX11_digest X 142 [some (.ref 0), some (.long s22.1), none, some (.int s.2.1), some (.int s22.2.1)] [] (en S s22.2.2) 0 0
      obtain ⟨w24, e_w24⟩ : ∃ z : Int32, z = s.2.1 + 1 := ⟨_, rfl⟩
      replace h := lt_at h e_w24
      refine eg_iinc [some (.ref 0), some (.long s22.1), none, some (.int w24), some (.int s22.2.1)] w24 1 dX11_digest_142 rfl rfl e_w24 rfl ?_
      refine pg_goto 109 dX11_digest_145 (by decide) ?_
      obtain rfl := Option.some.inj h
      refine eg_forget [some (.ref 0), some (.long s22.1), none, some (.int w24), none] (show pm_sub _ _ from ⟨rfl, ⟨rfl, ⟨rfl, trivial⟩⟩⟩) ?_
      exact hN _ rfl
    · rw [k_x23] at h
      replace h := sm_r h
      obtain rfl := Option.some.inj h
      exact (hT _ rfl).2 _ rfl
set_option maxRecDepth 20000 in
set_option maxHeartbeats 4000000 in
theorem lb_X11_digest_150 (hfl : g.1.stackTraces = false) (hS : pS 0 138 S) {s : Int64 × Int32 × me} {r : (Int64 × Int32 × me) ⊕ ((Int64 × Int32 × me) ⊕ ((Int64 ⊕ Nat) × me))} (h : b_X11_digest_150 s = some r) (hN : ∀ s', r = .inl s' → (fun z9 : Int64 × Int32 × me => pm_G g mX11_digest X 150 [some (.ref 0), some (.long z9.1), none, some (.int z9.2.1), none] [] (en S z9.2.2) 0 0) s') (hT : ∀ t, r = .inr t → (fun z8 : ((Int64 × Int32 × me) ⊕ ((Int64 ⊕ Nat) × me)) => (∀ z9, z8 = .inl z9 → pm_G g mX11_digest X 173 [some (.ref 0), some (.long z9.1), none, some (.int z9.2.1), none] [] (en S z9.2.2) 0 0) ∧ (∀ x9, z8 = .inr x9 → pm_End g mX11_digest X (kC x9) (nC x9) (qTJ S x9) (qX S x9))) t) : (fun z9 : Int64 × Int32 × me => pm_G g mX11_digest X 150 [some (.ref 0), some (.long z9.1), none, some (.int z9.2.1), none] [] (en S z9.2.2) 0 0) s := by
  unfold b_X11_digest_150 at h
  show pm_G g mX11_digest X 150 [some (.ref 0), some (.long s.1), none, some (.int s.2.1), none] [] (en S s.2.2) 0 0
  refine pg_iload_n dX11_digest_150 rfl ?_
  refine pg_bipush 7 dX11_digest_151 rfl ?_
  refine pg_icmp_ge 173 dX11_digest_153 (by decide) (fun c28 => ?_) (fun c28 => ?_)
  · rw [if_pos c28] at h
    obtain rfl := Option.some.inj h
    exact (hT _ rfl).1 _ rfl
  · rw [if_neg c28] at h
    refine pg_lload_n dX11_digest_156 rfl ?_
    refine pg_aload_n dX11_digest_157 rfl ?_
    refine pg_iload_n dX11_digest_158 rfl ?_
    obtain ⟨r29, h_r29, h⟩ := bd_at h
    refine eg_tVi (C := mX11_count) (as := [(.int s.2.1)]) dX11_digest_159 mw544 cv_X11_count hS sp0 (Nat.le_of_ble_eq_true rfl) (Nat.le_of_ble_eq_true rfl) rfl rfl rfl (Nat.le_of_ble_eq_true rfl) rfl ⟨(Nat.le_of_ble_eq_true rfl), (Nat.le_of_ble_eq_true rfl)⟩ (ct_X11_count hfl (hS.sub (Nat.le_of_ble_eq_true rfl) (Nat.le_of_ble_eq_true rfl)) h_r29) (fun w30 k_w30 => ?_) (fun e31 k_e31 => ?_)
    · rw [k_w30] at h
      replace h := tr_l h
      refine pg_i2l dX11_digest_162 ?_
      obtain ⟨r32, h_r32, h⟩ := bd_at h
      refine eg_cSj (C := mX11_mix) (as := [(.long s.1), (.long w30.toInt64)]) dX11_digest_163 mw521 cs_X11_mix rfl rfl (Nat.le_of_ble_eq_true rfl) rfl ⟨(Nat.le_of_ble_eq_true rfl), (Nat.le_of_ble_eq_true rfl)⟩ (ct_X11_mix hfl h_r32) ?_
      refine eg_lstore_n [some (.ref 0), some (.long r32.1), none, some (.int s.2.1), none] r32.1 dX11_digest_166 rfl (Nat.le_of_ble_eq_true rfl) rfl ?_
      obtain ⟨w33, e_w33⟩ : ∃ z : Int32, z = s.2.1 + 1 := ⟨_, rfl⟩
      replace h := lt_at h e_w33
      refine eg_iinc [some (.ref 0), some (.long r32.1), none, some (.int w33), none] w33 1 dX11_digest_167 rfl rfl e_w33 rfl ?_
      refine pg_goto 150 dX11_digest_170 (by decide) ?_
      obtain rfl := Option.some.inj h
      exact hN _ rfl
    · rw [k_e31] at h
      replace h := tr_r h
      obtain rfl := Option.some.inj h
      exact ⟨by rw [((hT _ rfl).2 _ rfl).1.1, ((hT _ rfl).2 _ rfl).1.2]; exact ⟨(Nat.le_of_ble_eq_true rfl), (Nat.le_of_ble_eq_true rfl)⟩, ((hT _ rfl).2 _ rfl).2.2.2.2.1 _ _ _ _ _ _ _ rfl (Nat.le_of_ble_eq_true rfl) (Nat.le_of_ble_eq_true rfl) ⟨_, rfl, rfl, rfl⟩⟩
set_option maxRecDepth 20000 in
set_option maxHeartbeats 4000000 in
theorem lj_X11_digest_186 (hfl : g.1.stackTraces = false) (hS : pS 0 138 S) {u0 : Int64} {u1 : Int64} {m0 : me} {r : ((Int64 ⊕ Nat) × me)} (h : j_X11_digest_186 u0 u1 m0 = some r) (hE : pm_End g mX11_digest X (kC r) (nC r) (qTJ S r) (qX S r)) : pm_G g mX11_digest X 186 [some (.ref 0), none, none, none, none] [(.long u1), (.long u0)] (en S m0) 0 0 := by
  unfold j_X11_digest_186 at h
  obtain ⟨r39, h_r39, h⟩ := bd_at h
  refine eg_cSj (C := mX11_mix) (as := [(.long u0), (.long u1)]) dX11_digest_186 mw521 cs_X11_mix rfl rfl (Nat.le_of_ble_eq_true rfl) rfl ⟨(Nat.le_of_ble_eq_true rfl), (Nat.le_of_ble_eq_true rfl)⟩ (ct_X11_mix hfl h_r39) ?_
  obtain rfl := Option.some.inj h
  exact hE.2.2.2.1 _ _ _ _ _ _ dX11_digest_189 rfl (Nat.zero_le _) (Nat.zero_le _) ⟨_, rfl, rfl, rfl⟩
set_option maxRecDepth 20000 in
set_option maxHeartbeats 4000000 in
theorem ct_X11_digest (hfl : g.1.stackTraces = false) (hS : pS 0 138 S) {m0 : me} {x : ((Int64 ⊕ Nat) × me)} (h : f_X11_digest m0 = some x) : pm_Ct g mX11_digest [.ref 0] (en S m0) (kC x) (nC x) (qTJ S x) (qX S x) := by
  refine pm_of (by decide +kernel) rfl hfl (Nat.le_of_ble_eq_true rfl) (fun X hE => ?_)
  show pm_G g mX11_digest X 0 [some (.ref 0), none, none, none, none] [] (en S m0) 0 0
  unfold f_X11_digest at h
  refine pg_ldc2 dX11_digest_0 mw519 ?_
  refine eg_lstore_n [some (.ref 0), some (.long 18498), none, none, none] 18498 dX11_digest_3 rfl (Nat.le_of_ble_eq_true rfl) rfl ?_
  refine pg_lload_n dX11_digest_4 rfl ?_
  refine pg_aload_n dX11_digest_5 rfl ?_
  refine eg_get dX11_digest_6 fa_X11_23 hS sp0 (Nat.le_of_ble_eq_true rfl) (Nat.le_of_ble_eq_true rfl) rfl rfl ?_
  refine eg_get dX11_digest_9 fa_X11_276 hS sp28 (Nat.le_of_ble_eq_true rfl) (Nat.le_of_ble_eq_true rfl) rfl rfl ?_
  refine pg_i2l dX11_digest_12 ?_
  obtain ⟨r1, h_r1, h⟩ := bd_at h
  refine eg_cSj (C := mX11_mix) (as := [(.long 18498), (.long ((m0.1 28 1).toInt64))]) dX11_digest_13 mw521 cs_X11_mix rfl rfl (Nat.le_of_ble_eq_true rfl) rfl ⟨(Nat.le_of_ble_eq_true rfl), (Nat.le_of_ble_eq_true rfl)⟩ (ct_X11_mix hfl h_r1) ?_
  refine eg_lstore_n [some (.ref 0), some (.long r1.1), none, none, none] r1.1 dX11_digest_16 rfl (Nat.le_of_ble_eq_true rfl) rfl ?_
  refine pg_lload_n dX11_digest_17 rfl ?_
  refine pg_aload_n dX11_digest_18 rfl ?_
  refine eg_get dX11_digest_19 fa_X11_30 hS sp0 (Nat.le_of_ble_eq_true rfl) (Nat.le_of_ble_eq_true rfl) rfl rfl ?_
  refine eg_get dX11_digest_22 fa_X11_261 hS sp111 (Nat.le_of_ble_eq_true rfl) (Nat.le_of_ble_eq_true rfl) rfl rfl ?_
  refine pg_i2l dX11_digest_25 ?_
  obtain ⟨r2, h_r2, h⟩ := bd_at h
  refine eg_cSj (C := mX11_mix) (as := [(.long r1.1), (.long ((r1.2.1 111 0).toInt64))]) dX11_digest_26 mw521 cs_X11_mix rfl rfl (Nat.le_of_ble_eq_true rfl) rfl ⟨(Nat.le_of_ble_eq_true rfl), (Nat.le_of_ble_eq_true rfl)⟩ (ct_X11_mix hfl h_r2) ?_
  refine eg_lstore_n [some (.ref 0), some (.long r2.1), none, none, none] r2.1 dX11_digest_29 rfl (Nat.le_of_ble_eq_true rfl) rfl ?_
  refine pg_lload_n dX11_digest_30 rfl ?_
  refine pg_aload_n dX11_digest_31 rfl ?_
  refine eg_get dX11_digest_32 fa_X11_12 hS sp0 (Nat.le_of_ble_eq_true rfl) (Nat.le_of_ble_eq_true rfl) rfl rfl ?_
  refine eg_get dX11_digest_35 fa_X11_77 hS sp1 (Nat.le_of_ble_eq_true rfl) (Nat.le_of_ble_eq_true rfl) rfl rfl ?_
  refine pg_i2l dX11_digest_38 ?_
  obtain ⟨r3, h_r3, h⟩ := bd_at h
  refine eg_cSj (C := mX11_mix) (as := [(.long r2.1), (.long ((r2.2.1 1 0).toInt64))]) dX11_digest_39 mw521 cs_X11_mix rfl rfl (Nat.le_of_ble_eq_true rfl) rfl ⟨(Nat.le_of_ble_eq_true rfl), (Nat.le_of_ble_eq_true rfl)⟩ (ct_X11_mix hfl h_r3) ?_
  refine eg_lstore_n [some (.ref 0), some (.long r3.1), none, none, none] r3.1 dX11_digest_42 rfl (Nat.le_of_ble_eq_true rfl) rfl ?_
  refine pg_lload_n dX11_digest_43 rfl ?_
  refine pg_aload_n dX11_digest_44 rfl ?_
  refine eg_get dX11_digest_45 fa_X11_12 hS sp0 (Nat.le_of_ble_eq_true rfl) (Nat.le_of_ble_eq_true rfl) rfl rfl ?_
  refine eg_get dX11_digest_48 fa_X11_173 hS sp1 (Nat.le_of_ble_eq_true rfl) (Nat.le_of_ble_eq_true rfl) rfl rfl ?_
  refine pg_i2l dX11_digest_51 ?_
  obtain ⟨r4, h_r4, h⟩ := bd_at h
  refine eg_cSj (C := mX11_mix) (as := [(.long r3.1), (.long ((r3.2.1 1 1).toInt64))]) dX11_digest_52 mw521 cs_X11_mix rfl rfl (Nat.le_of_ble_eq_true rfl) rfl ⟨(Nat.le_of_ble_eq_true rfl), (Nat.le_of_ble_eq_true rfl)⟩ (ct_X11_mix hfl h_r4) ?_
  refine eg_lstore_n [some (.ref 0), some (.long r4.1), none, none, none] r4.1 dX11_digest_55 rfl (Nat.le_of_ble_eq_true rfl) rfl ?_
  refine pg_lload_n dX11_digest_56 rfl ?_
  refine pg_aload_n dX11_digest_57 rfl ?_
  refine eg_get dX11_digest_58 fa_X11_12 hS sp0 (Nat.le_of_ble_eq_true rfl) (Nat.le_of_ble_eq_true rfl) rfl rfl ?_
  refine eg_get dX11_digest_61 fa_X11_86 hS sp1 (Nat.le_of_ble_eq_true rfl) (Nat.le_of_ble_eq_true rfl) rfl rfl ?_
  refine pg_i2l dX11_digest_64 ?_
  obtain ⟨r5, h_r5, h⟩ := bd_at h
  refine eg_cSj (C := mX11_mix) (as := [(.long r4.1), (.long ((r4.2.1 1 2).toInt64))]) dX11_digest_65 mw521 cs_X11_mix rfl rfl (Nat.le_of_ble_eq_true rfl) rfl ⟨(Nat.le_of_ble_eq_true rfl), (Nat.le_of_ble_eq_true rfl)⟩ (ct_X11_mix hfl h_r5) ?_
  refine eg_lstore_n [some (.ref 0), some (.long r5.1), none, none, none] r5.1 dX11_digest_68 rfl (Nat.le_of_ble_eq_true rfl) rfl ?_
  refine pg_lload_n dX11_digest_69 rfl ?_
  refine pg_aload_n dX11_digest_70 rfl ?_
  refine eg_get dX11_digest_71 fa_X11_12 hS sp0 (Nat.le_of_ble_eq_true rfl) (Nat.le_of_ble_eq_true rfl) rfl rfl ?_
  refine eg_get dX11_digest_74 fa_X11_83 hS sp1 (Nat.le_of_ble_eq_true rfl) (Nat.le_of_ble_eq_true rfl) rfl rfl ?_
  refine pg_i2l dX11_digest_77 ?_
  obtain ⟨r6, h_r6, h⟩ := bd_at h
  refine eg_cSj (C := mX11_mix) (as := [(.long r5.1), (.long ((r5.2.1 1 3).toInt64))]) dX11_digest_78 mw521 cs_X11_mix rfl rfl (Nat.le_of_ble_eq_true rfl) rfl ⟨(Nat.le_of_ble_eq_true rfl), (Nat.le_of_ble_eq_true rfl)⟩ (ct_X11_mix hfl h_r6) ?_
  refine eg_lstore_n [some (.ref 0), some (.long r6.1), none, none, none] r6.1 dX11_digest_81 rfl (Nat.le_of_ble_eq_true rfl) rfl ?_
  refine pg_lload_n dX11_digest_82 rfl ?_
  refine pg_aload_n dX11_digest_83 rfl ?_
  refine eg_get dX11_digest_84 fa_X11_12 hS sp0 (Nat.le_of_ble_eq_true rfl) (Nat.le_of_ble_eq_true rfl) rfl rfl ?_
  refine eg_get dX11_digest_87 fa_X11_89 hS sp1 (Nat.le_of_ble_eq_true rfl) (Nat.le_of_ble_eq_true rfl) rfl rfl ?_
  refine pg_i2l dX11_digest_90 ?_
  obtain ⟨r7, h_r7, h⟩ := bd_at h
  refine eg_cSj (C := mX11_mix) (as := [(.long r6.1), (.long ((r6.2.1 1 4).toInt64))]) dX11_digest_91 mw521 cs_X11_mix rfl rfl (Nat.le_of_ble_eq_true rfl) rfl ⟨(Nat.le_of_ble_eq_true rfl), (Nat.le_of_ble_eq_true rfl)⟩ (ct_X11_mix hfl h_r7) ?_
  refine eg_lstore_n [some (.ref 0), some (.long r7.1), none, none, none] r7.1 dX11_digest_94 rfl (Nat.le_of_ble_eq_true rfl) rfl ?_
  refine pg_aload_n dX11_digest_95 rfl ?_
  refine pg_lload_n dX11_digest_96 rfl ?_
  obtain ⟨r8, h_r8, h⟩ := bd_at h
  refine eg_tVj (C := mX11_mixBridges) (as := [(.long r7.1)]) dX11_digest_97 mw529 cv_X11_mixBridges hS sp0 (Nat.le_of_ble_eq_true rfl) (Nat.le_of_ble_eq_true rfl) rfl rfl rfl (Nat.le_of_ble_eq_true rfl) rfl ⟨(Nat.le_of_ble_eq_true rfl), (Nat.le_of_ble_eq_true rfl)⟩ (ct_X11_mixBridges hfl (hS.sub (Nat.le_of_ble_eq_true rfl) (Nat.le_of_ble_eq_true rfl)) h_r8) (fun w9 k_w9 => ?_) (fun e10 k_e10 => ?_)
  · rw [k_w9] at h
    replace h := tr_l h
    refine eg_lstore_n [some (.ref 0), some (.long w9), none, none, none] w9 dX11_digest_100 rfl (Nat.le_of_ble_eq_true rfl) rfl ?_
    refine pg_aload_n dX11_digest_101 rfl ?_
    refine pg_lload_n dX11_digest_102 rfl ?_
    obtain ⟨r11, h_r11, h⟩ := bd_at h
    refine eg_tVj (C := mX11_mixLinks) (as := [(.long w9)]) dX11_digest_103 mw534 cv_X11_mixLinks hS sp0 (Nat.le_of_ble_eq_true rfl) (Nat.le_of_ble_eq_true rfl) rfl rfl rfl (Nat.le_of_ble_eq_true rfl) rfl ⟨(Nat.le_of_ble_eq_true rfl), (Nat.le_of_ble_eq_true rfl)⟩ (ct_X11_mixLinks hfl (hS.sub (Nat.le_of_ble_eq_true rfl) (Nat.le_of_ble_eq_true rfl)) h_r11) (fun w12 k_w12 => ?_) (fun e13 k_e13 => ?_)
    · rw [k_w12] at h
      replace h := tr_l h
      refine eg_lstore_n [some (.ref 0), some (.long w12), none, none, none] w12 dX11_digest_106 rfl (Nat.le_of_ble_eq_true rfl) rfl ?_
      refine pg_iconst 0 dX11_digest_107 rfl ?_
      refine eg_istore_n [some (.ref 0), some (.long w12), none, some (.int 0), none] 0 dX11_digest_108 rfl (Nat.le_of_ble_eq_true rfl) rfl ?_
      obtain ⟨s25, h_s25, h⟩ := bd_at h
      refine lo_at (b := b_X11_digest_109) (G := (fun z9 : Int64 × Int32 × me => pm_G g mX11_digest X 109 [some (.ref 0), some (.long z9.1), none, some (.int z9.2.1), none] [] (en S z9.2.2) 0 0)) (T := (fun z8 : ((Int64 × Int32 × me) ⊕ ((Int64 ⊕ Nat) × me)) => (∀ z9, z8 = .inl z9 → pm_G g mX11_digest X 148 [some (.ref 0), some (.long z9.1), none, some (.int z9.2.1), none] [] (en S z9.2.2) 0 0) ∧ (∀ x9, z8 = .inr x9 → pm_End g mX11_digest X (kC x9) (nC x9) (qTJ S x9) (qX S x9)))) (fun q9 r9 h1 h2 h3 => lb_X11_digest_109 hfl hS h1 h2 h3) 2048 (w12, 0, r11.2) s25 h_s25 ⟨fun s26 k_s26 => ?_, fun x27 k_x27 => ?_⟩
      · rw [k_s26] at h
        replace h := sm_l h
        show pm_G g mX11_digest X 148 [some (.ref 0), some (.long s26.1), none, some (.int s26.2.1), none] [] (en S s26.2.2) 0 0
        refine pg_iconst 0 dX11_digest_148 rfl ?_
        refine eg_istore_n [some (.ref 0), some (.long s26.1), none, some (.int 0), none] 0 dX11_digest_149 rfl (Nat.le_of_ble_eq_true rfl) rfl ?_
        obtain ⟨s34, h_s34, h⟩ := bd_at h
        refine lo_at (b := b_X11_digest_150) (G := (fun z9 : Int64 × Int32 × me => pm_G g mX11_digest X 150 [some (.ref 0), some (.long z9.1), none, some (.int z9.2.1), none] [] (en S z9.2.2) 0 0)) (T := (fun z8 : ((Int64 × Int32 × me) ⊕ ((Int64 ⊕ Nat) × me)) => (∀ z9, z8 = .inl z9 → pm_G g mX11_digest X 173 [some (.ref 0), some (.long z9.1), none, some (.int z9.2.1), none] [] (en S z9.2.2) 0 0) ∧ (∀ x9, z8 = .inr x9 → pm_End g mX11_digest X (kC x9) (nC x9) (qTJ S x9) (qX S x9)))) (fun q9 r9 h1 h2 h3 => lb_X11_digest_150 hfl hS h1 h2 h3) 2048 (s26.1, 0, s26.2.2) s34 h_s34 ⟨fun s35 k_s35 => ?_, fun x36 k_x36 => ?_⟩
        · rw [k_s35] at h
          replace h := sm_l h
          show pm_G g mX11_digest X 173 [some (.ref 0), some (.long s35.1), none, some (.int s35.2.1), none] [] (en S s35.2.2) 0 0
          refine pg_lload_n dX11_digest_173 rfl ?_
          refine pg_aload_n dX11_digest_174 rfl ?_
          obtain ⟨r37, h_r37, h⟩ := bd_at h
          refine eg_cVi (C := mX11_isForest) (as := []) dX11_digest_175 mw549 cv_X11_isForest hS sp0 (Nat.le_of_ble_eq_true rfl) (Nat.le_of_ble_eq_true rfl) rfl rfl rfl (Nat.le_of_ble_eq_true rfl) rfl ⟨(Nat.le_of_ble_eq_true rfl), (Nat.le_of_ble_eq_true rfl)⟩ (ct_X11_isForest hfl (hS.sub (Nat.le_of_ble_eq_true rfl) (Nat.le_of_ble_eq_true rfl)) h_r37) ?_
          refine pg_if_eq 185 dX11_digest_178 (by decide) (fun c38 => ?_) (fun c38 => ?_)
          · rw [if_pos c38] at h
            refine pg_lconst 0 dX11_digest_185 rfl ?_
            refine eg_forget [some (.ref 0), none, none, none, none] (show pm_sub _ _ from ⟨rfl, trivial⟩) ?_
            exact lj_X11_digest_186 hfl hS h hE
          · rw [if_neg c38] at h
            refine pg_lconst 1 dX11_digest_181 rfl ?_
            refine pg_goto 186 dX11_digest_182 (by decide) ?_
            refine eg_forget [some (.ref 0), none, none, none, none] (show pm_sub _ _ from ⟨rfl, trivial⟩) ?_
            exact lj_X11_digest_186 hfl hS h hE
        · rw [k_x36] at h
          replace h := sm_r h
          obtain rfl := Option.some.inj h
          exact hE
      · rw [k_x27] at h
        replace h := sm_r h
        obtain rfl := Option.some.inj h
        exact hE
    · rw [k_e13] at h
      replace h := tr_r h
      obtain rfl := Option.some.inj h
      exact ⟨by rw [hE.1.1, hE.1.2]; exact ⟨(Nat.le_of_ble_eq_true rfl), (Nat.le_of_ble_eq_true rfl)⟩, hE.2.2.2.2.1 _ _ _ _ _ _ _ rfl (Nat.le_of_ble_eq_true rfl) (Nat.le_of_ble_eq_true rfl) ⟨_, rfl, rfl, rfl⟩⟩
  · rw [k_e10] at h
    replace h := tr_r h
    obtain rfl := Option.some.inj h
    exact ⟨by rw [hE.1.1, hE.1.2]; exact ⟨(Nat.le_of_ble_eq_true rfl), (Nat.le_of_ble_eq_true rfl)⟩, hE.2.2.2.2.1 _ _ _ _ _ _ _ rfl (Nat.le_of_ble_eq_true rfl) (Nat.le_of_ble_eq_true rfl) ⟨_, rfl, rfl, rfl⟩⟩
def b_X1_beginAnew_2 (v1 : Int32) (s : Int32 × me) : Option ((Int32 × me) ⊕ (Int32 × me)) :=
  if 8 ≤ s.1 then
    some (.inr (s.1, s.2))
  else
    gd (inR s.1 8) (
    lt (wI s.2 3 s.1.toNatClampNeg 5) (fun m2 =>
    bd (f_X1_startVector s.1 m2) (fun r3 =>
    bd (f_X1_flush s.1 r3) (fun r4 =>
    lt (s.1 + 1) (fun w5 =>
    some (.inl (w5, r4)))))))
def b_X1_beginAnew_33 (v1 : Int32) (s : Int32 × me) : Option ((Int32 × me) ⊕ (Int32 × me)) :=
  if 8 ≤ s.1 then
    some (.inr (s.1, s.2))
  else
    if v1 ≤ 0 then
      gd (inR s.1 8) (
      lt (wI s.2 8 s.1.toNatClampNeg 0) (fun m9 =>
      lt (s.1 + 1) (fun w10 =>
      some (.inl (w10, m9)))))
    else
      gd (nz v1) (
      gd (inR s.1 8) (
      lt (wI s.2 8 s.1.toNatClampNeg (s.1 - s.1 / v1 * v1)) (fun m11 =>
      lt (s.1 + 1) (fun w12 =>
      some (.inl (w12, m11))))))
def f_X1_beginAnew (v1 : Int32) (m0 : me) : Option me :=
  bd (lo (b_X1_beginAnew_2 v1) 2048 (0, m0)) (fun s6 =>
  bd (lo (b_X1_beginAnew_33 v1) 2048 (0, s6.2)) (fun s13 =>
  some (s13.2)))
set_option maxRecDepth 20000 in
set_option maxHeartbeats 4000000 in
theorem lb_X1_beginAnew_2 (hfl : g.1.stackTraces = false) (hS : pS 1 28 S) {v1 : Int32} {s : Int32 × me} {r : (Int32 × me) ⊕ (Int32 × me)} (h : b_X1_beginAnew_2 v1 s = some r) (hN : ∀ s', r = .inl s' → (fun z9 : Int32 × me => pm_G g mX1_beginAnew X 2 [some (.ref 2), some (.int v1), some (.int z9.1)] [] (en S z9.2) 0 0) s') (hT : ∀ t, r = .inr t → (fun z9 : Int32 × me => pm_G g mX1_beginAnew X 31 [some (.ref 2), some (.int v1), some (.int z9.1)] [] (en S z9.2) 0 0) t) : (fun z9 : Int32 × me => pm_G g mX1_beginAnew X 2 [some (.ref 2), some (.int v1), some (.int z9.1)] [] (en S z9.2) 0 0) s := by
  unfold b_X1_beginAnew_2 at h
  show pm_G g mX1_beginAnew X 2 [some (.ref 2), some (.int v1), some (.int s.1)] [] (en S s.2) 0 0
  refine pg_iload_n dX1_beginAnew_2 rfl ?_
  refine pg_bipush 8 dX1_beginAnew_3 rfl ?_
  refine pg_icmp_ge 31 dX1_beginAnew_5 (by decide) (fun c1 => ?_) (fun c1 => ?_)
  · rw [if_pos c1] at h
    obtain rfl := Option.some.inj h
    exact hT _ rfl
  · rw [if_neg c1] at h
    refine pg_aload_n dX1_beginAnew_8 rfl ?_
    refine eg_get dX1_beginAnew_9 fa_X1_9 hS sp2 (Nat.le_of_ble_eq_true rfl) (Nat.le_of_ble_eq_true rfl) rfl rfl ?_
    refine pg_iload_n dX1_beginAnew_12 rfl ?_
    refine pg_iconst 5 dX1_beginAnew_13 rfl ?_
    obtain ⟨g1, h⟩ := gd_at h
    refine eg_iastJ s.1.toNatClampNeg dX1_beginAnew_14 hS sp3 (Nat.le_of_ble_eq_true rfl) (Nat.le_of_ble_eq_true rfl) (fun _ _ _ => rfl) (inR_vp g1) rfl (fun m2 e_m2 => ?_)
    replace h := lt_at h e_m2
    refine pg_aload_n dX1_beginAnew_15 rfl ?_
    refine pg_iload_n dX1_beginAnew_16 rfl ?_
    obtain ⟨r3, h_r3, h⟩ := bd_at h
    refine eg_cVv (C := mX1_startVector) (as := [(.int s.1)]) dX1_beginAnew_17 mw138 cv_X1_startVector hS sp2 (Nat.le_of_ble_eq_true rfl) (Nat.le_of_ble_eq_true rfl) rfl rfl rfl (Nat.le_of_ble_eq_true rfl) rfl ⟨(Nat.le_of_ble_eq_true rfl), (Nat.le_of_ble_eq_true rfl)⟩ (ct_X1_startVector hfl (hS.sub (Nat.le_of_ble_eq_true rfl) (Nat.le_of_ble_eq_true rfl)) h_r3) ?_
    refine pg_aload_n dX1_beginAnew_20 rfl ?_
    refine pg_iload_n dX1_beginAnew_21 rfl ?_
    obtain ⟨r4, h_r4, h⟩ := bd_at h
    refine eg_cVv (C := mX1_flush) (as := [(.int s.1)]) dX1_beginAnew_22 mw143 cv_X1_flush hS sp2 (Nat.le_of_ble_eq_true rfl) (Nat.le_of_ble_eq_true rfl) rfl rfl rfl (Nat.le_of_ble_eq_true rfl) rfl ⟨(Nat.le_of_ble_eq_true rfl), (Nat.le_of_ble_eq_true rfl)⟩ (ct_X1_flush hfl (hS.sub (Nat.le_of_ble_eq_true rfl) (Nat.le_of_ble_eq_true rfl)) h_r4) ?_
    obtain ⟨w5, e_w5⟩ : ∃ z : Int32, z = s.1 + 1 := ⟨_, rfl⟩
    replace h := lt_at h e_w5
    refine eg_iinc [some (.ref 2), some (.int v1), some (.int w5)] w5 1 dX1_beginAnew_25 rfl rfl e_w5 rfl ?_
    refine pg_goto 2 dX1_beginAnew_28 (by decide) ?_
    obtain rfl := Option.some.inj h
    exact hN _ rfl
set_option maxRecDepth 20000 in
set_option maxHeartbeats 4000000 in
theorem lb_X1_beginAnew_33 (hfl : g.1.stackTraces = false) (hS : pS 1 28 S) {v1 : Int32} {s : Int32 × me} {r : (Int32 × me) ⊕ (Int32 × me)} (h : b_X1_beginAnew_33 v1 s = some r) (hN : ∀ s', r = .inl s' → (fun z9 : Int32 × me => pm_G g mX1_beginAnew X 33 [some (.ref 2), some (.int v1), some (.int z9.1)] [] (en S z9.2) 0 0) s') (hT : ∀ t, r = .inr t → (fun z9 : Int32 × me => pm_G g mX1_beginAnew X 62 [some (.ref 2), some (.int v1), some (.int z9.1)] [] (en S z9.2) 0 0) t) : (fun z9 : Int32 × me => pm_G g mX1_beginAnew X 33 [some (.ref 2), some (.int v1), some (.int z9.1)] [] (en S z9.2) 0 0) s := by
  unfold b_X1_beginAnew_33 at h
  show pm_G g mX1_beginAnew X 33 [some (.ref 2), some (.int v1), some (.int s.1)] [] (en S s.2) 0 0
  refine pg_iload_n dX1_beginAnew_33 rfl ?_
  refine pg_bipush 8 dX1_beginAnew_34 rfl ?_
  refine pg_icmp_ge 62 dX1_beginAnew_36 (by decide) (fun c7 => ?_) (fun c7 => ?_)
  · rw [if_pos c7] at h
    obtain rfl := Option.some.inj h
    exact hT _ rfl
  · rw [if_neg c7] at h
    refine pg_aload_n dX1_beginAnew_39 rfl ?_
    refine eg_get dX1_beginAnew_40 fa_X1_27 hS sp2 (Nat.le_of_ble_eq_true rfl) (Nat.le_of_ble_eq_true rfl) rfl rfl ?_
    refine pg_iload_n dX1_beginAnew_43 rfl ?_
    refine pg_iload_n dX1_beginAnew_44 rfl ?_
    refine pg_if_le 54 dX1_beginAnew_45 (by decide) (fun c8 => ?_) (fun c8 => ?_)
    · rw [if_pos c8] at h
      refine pg_iconst 0 dX1_beginAnew_54 rfl ?_
      obtain ⟨g1, h⟩ := gd_at h
      refine eg_iastJ s.1.toNatClampNeg dX1_beginAnew_55 hS sp8 (Nat.le_of_ble_eq_true rfl) (Nat.le_of_ble_eq_true rfl) (fun _ _ _ => rfl) (inR_vp g1) rfl (fun m9 e_m9 => ?_)
      replace h := lt_at h e_m9
      obtain ⟨w10, e_w10⟩ : ∃ z : Int32, z = s.1 + 1 := ⟨_, rfl⟩
      replace h := lt_at h e_w10
      refine eg_iinc [some (.ref 2), some (.int v1), some (.int w10)] w10 1 dX1_beginAnew_56 rfl rfl e_w10 rfl ?_
      refine pg_goto 33 dX1_beginAnew_59 (by decide) ?_
      obtain rfl := Option.some.inj h
      exact hN _ rfl
    · rw [if_neg c8] at h
      refine pg_iload_n dX1_beginAnew_48 rfl ?_
      refine pg_iload_n dX1_beginAnew_49 rfl ?_
      obtain ⟨g1, h⟩ := gd_at h
      refine pg_irem dX1_beginAnew_50 (nz_ne g1) ?_
      refine pg_goto 55 dX1_beginAnew_51 (by decide) ?_
      obtain ⟨g1, h⟩ := gd_at h
      refine eg_iastJ s.1.toNatClampNeg dX1_beginAnew_55 hS sp8 (Nat.le_of_ble_eq_true rfl) (Nat.le_of_ble_eq_true rfl) (fun _ _ _ => rfl) (inR_vp g1) rfl (fun m11 e_m11 => ?_)
      replace h := lt_at h e_m11
      obtain ⟨w12, e_w12⟩ : ∃ z : Int32, z = s.1 + 1 := ⟨_, rfl⟩
      replace h := lt_at h e_w12
      refine eg_iinc [some (.ref 2), some (.int v1), some (.int w12)] w12 1 dX1_beginAnew_56 rfl rfl e_w12 rfl ?_
      refine pg_goto 33 dX1_beginAnew_59 (by decide) ?_
      obtain rfl := Option.some.inj h
      exact hN _ rfl
set_option maxRecDepth 20000 in
set_option maxHeartbeats 4000000 in
theorem ct_X1_beginAnew (hfl : g.1.stackTraces = false) (hS : pS 1 28 S) {v1 : Int32} {m0 : me} {x : me} (h : f_X1_beginAnew v1 m0 = some x) : pm_Ct g mX1_beginAnew [.ref 2, .int v1] (en S m0) 0 0 (qV S x) qF := by
  refine pm_of (by decide +kernel) rfl hfl (Nat.le_of_ble_eq_true rfl) (fun X hE => ?_)
  show pm_G g mX1_beginAnew X 0 [some (.ref 2), some (.int v1), none] [] (en S m0) 0 0
  unfold f_X1_beginAnew at h
  refine pg_iconst 0 dX1_beginAnew_0 rfl ?_
  refine eg_istore_n [some (.ref 2), some (.int v1), some (.int 0)] 0 dX1_beginAnew_1 rfl (Nat.le_of_ble_eq_true rfl) rfl ?_
  obtain ⟨s6, h_s6, h⟩ := bd_at h
  refine lo_at (b := b_X1_beginAnew_2 v1) (G := (fun z9 : Int32 × me => pm_G g mX1_beginAnew X 2 [some (.ref 2), some (.int v1), some (.int z9.1)] [] (en S z9.2) 0 0)) (T := (fun z9 : Int32 × me => pm_G g mX1_beginAnew X 31 [some (.ref 2), some (.int v1), some (.int z9.1)] [] (en S z9.2) 0 0)) (fun q9 r9 h1 h2 h3 => lb_X1_beginAnew_2 hfl hS h1 h2 h3) 2048 (0, m0) s6 h_s6 ?_
  show pm_G g mX1_beginAnew X 31 [some (.ref 2), some (.int v1), some (.int s6.1)] [] (en S s6.2) 0 0
  refine pg_iconst 0 dX1_beginAnew_31 rfl ?_
  refine eg_istore_n [some (.ref 2), some (.int v1), some (.int 0)] 0 dX1_beginAnew_32 rfl (Nat.le_of_ble_eq_true rfl) rfl ?_
  obtain ⟨s13, h_s13, h⟩ := bd_at h
  refine lo_at (b := b_X1_beginAnew_33 v1) (G := (fun z9 : Int32 × me => pm_G g mX1_beginAnew X 33 [some (.ref 2), some (.int v1), some (.int z9.1)] [] (en S z9.2) 0 0)) (T := (fun z9 : Int32 × me => pm_G g mX1_beginAnew X 62 [some (.ref 2), some (.int v1), some (.int z9.1)] [] (en S z9.2) 0 0)) (fun q9 r9 h1 h2 h3 => lb_X1_beginAnew_33 hfl hS h1 h2 h3) 2048 (0, s6.2) s13 h_s13 ?_
  show pm_G g mX1_beginAnew X 62 [some (.ref 2), some (.int v1), some (.int s13.1)] [] (en S s13.2) 0 0
  obtain rfl := Option.some.inj h
  exact hE.2.2.1 _ _ _ _ _ dX1_beginAnew_62 rfl (Nat.zero_le _) (Nat.zero_le _) ⟨rfl, rfl⟩
def b_X8_beginAnew_2 (s : Int32 × me) : Option ((Int32 × me) ⊕ (Int32 × me)) :=
  if 4 ≤ s.1 then
    some (.inr (s.1, s.2))
  else
    gd (inR s.1 4) (
    lt (wI s.2 24 s.1.toNatClampNeg 100) (fun m2 =>
    gd (inR s.1 4) (
    lt (wI m2 25 s.1.toNatClampNeg 0) (fun m3 =>
    gd (inR s.1 4) (
    lt (wI m3 26 s.1.toNatClampNeg 0) (fun m4 =>
    lt (s.1 + 1) (fun w5 =>
    some (.inl (w5, m4)))))))))
def b_X8_beginAnew_37 (s : Int32 × me) : Option ((Int32 × me) ⊕ (Int32 × me)) :=
  if 64 ≤ s.1 then
    some (.inr (s.1, s.2))
  else
    gd (inR s.1 64) (
    lt (wI s.2 27 s.1.toNatClampNeg 0) (fun m8 =>
    lt (s.1 + 1) (fun w9 =>
    some (.inl (w9, m8)))))
def f_X8_beginAnew (m0 : me) : Option me :=
  bd (lo (b_X8_beginAnew_2) 2048 (0, m0)) (fun s6 =>
  bd (lo (b_X8_beginAnew_37) 2048 (0, s6.2)) (fun s10 =>
  some (s10.2)))
set_option maxRecDepth 20000 in
set_option maxHeartbeats 4000000 in
theorem lb_X8_beginAnew_2 (hfl : g.1.stackTraces = false) (hS : pS 1 28 S) {s : Int32 × me} {r : (Int32 × me) ⊕ (Int32 × me)} (h : b_X8_beginAnew_2 s = some r) (hN : ∀ s', r = .inl s' → (fun z9 : Int32 × me => pm_G g mX8_beginAnew X 2 [some (.ref 23), some (.int z9.1)] [] (en S z9.2) 0 0) s') (hT : ∀ t, r = .inr t → (fun z9 : Int32 × me => pm_G g mX8_beginAnew X 35 [some (.ref 23), some (.int z9.1)] [] (en S z9.2) 0 0) t) : (fun z9 : Int32 × me => pm_G g mX8_beginAnew X 2 [some (.ref 23), some (.int z9.1)] [] (en S z9.2) 0 0) s := by
  unfold b_X8_beginAnew_2 at h
  show pm_G g mX8_beginAnew X 2 [some (.ref 23), some (.int s.1)] [] (en S s.2) 0 0
  refine pg_iload_n dX8_beginAnew_2 rfl ?_
  refine pg_iconst 4 dX8_beginAnew_3 rfl ?_
  refine pg_icmp_ge 35 dX8_beginAnew_4 (by decide) (fun c1 => ?_) (fun c1 => ?_)
  · rw [if_pos c1] at h
    obtain rfl := Option.some.inj h
    exact hT _ rfl
  · rw [if_neg c1] at h
    refine pg_aload_n dX8_beginAnew_7 rfl ?_
    refine eg_get dX8_beginAnew_8 fa_X8_9 hS sp23 (Nat.le_of_ble_eq_true rfl) (Nat.le_of_ble_eq_true rfl) rfl rfl ?_
    refine pg_iload_n dX8_beginAnew_11 rfl ?_
    refine pg_bipush 100 dX8_beginAnew_12 rfl ?_
    obtain ⟨g1, h⟩ := gd_at h
    refine eg_iastJ s.1.toNatClampNeg dX8_beginAnew_14 hS sp24 (Nat.le_of_ble_eq_true rfl) (Nat.le_of_ble_eq_true rfl) (fun _ _ _ => rfl) (inR_vp g1) rfl (fun m2 e_m2 => ?_)
    replace h := lt_at h e_m2
    refine pg_aload_n dX8_beginAnew_15 rfl ?_
    refine eg_get dX8_beginAnew_16 fa_X8_15 hS sp23 (Nat.le_of_ble_eq_true rfl) (Nat.le_of_ble_eq_true rfl) rfl rfl ?_
    refine pg_iload_n dX8_beginAnew_19 rfl ?_
    refine pg_iconst 0 dX8_beginAnew_20 rfl ?_
    obtain ⟨g1, h⟩ := gd_at h
    refine eg_iastJ s.1.toNatClampNeg dX8_beginAnew_21 hS sp25 (Nat.le_of_ble_eq_true rfl) (Nat.le_of_ble_eq_true rfl) (fun _ _ _ => rfl) (inR_vp g1) rfl (fun m3 e_m3 => ?_)
    replace h := lt_at h e_m3
    refine pg_aload_n dX8_beginAnew_22 rfl ?_
    refine eg_get dX8_beginAnew_23 fa_X8_18 hS sp23 (Nat.le_of_ble_eq_true rfl) (Nat.le_of_ble_eq_true rfl) rfl rfl ?_
    refine pg_iload_n dX8_beginAnew_26 rfl ?_
    refine pg_iconst 0 dX8_beginAnew_27 rfl ?_
    obtain ⟨g1, h⟩ := gd_at h
    refine eg_iastJ s.1.toNatClampNeg dX8_beginAnew_28 hS sp26 (Nat.le_of_ble_eq_true rfl) (Nat.le_of_ble_eq_true rfl) (fun _ _ _ => rfl) (inR_vp g1) rfl (fun m4 e_m4 => ?_)
    replace h := lt_at h e_m4
    obtain ⟨w5, e_w5⟩ : ∃ z : Int32, z = s.1 + 1 := ⟨_, rfl⟩
    replace h := lt_at h e_w5
    refine eg_iinc [some (.ref 23), some (.int w5)] w5 1 dX8_beginAnew_29 rfl rfl e_w5 rfl ?_
    refine pg_goto 2 dX8_beginAnew_32 (by decide) ?_
    obtain rfl := Option.some.inj h
    exact hN _ rfl
set_option maxRecDepth 20000 in
set_option maxHeartbeats 4000000 in
theorem lb_X8_beginAnew_37 (hfl : g.1.stackTraces = false) (hS : pS 1 28 S) {s : Int32 × me} {r : (Int32 × me) ⊕ (Int32 × me)} (h : b_X8_beginAnew_37 s = some r) (hN : ∀ s', r = .inl s' → (fun z9 : Int32 × me => pm_G g mX8_beginAnew X 37 [some (.ref 23), some (.int z9.1)] [] (en S z9.2) 0 0) s') (hT : ∀ t, r = .inr t → (fun z9 : Int32 × me => pm_G g mX8_beginAnew X 56 [some (.ref 23), some (.int z9.1)] [] (en S z9.2) 0 0) t) : (fun z9 : Int32 × me => pm_G g mX8_beginAnew X 37 [some (.ref 23), some (.int z9.1)] [] (en S z9.2) 0 0) s := by
  unfold b_X8_beginAnew_37 at h
  show pm_G g mX8_beginAnew X 37 [some (.ref 23), some (.int s.1)] [] (en S s.2) 0 0
  refine pg_iload_n dX8_beginAnew_37 rfl ?_
  refine pg_bipush 64 dX8_beginAnew_38 rfl ?_
  refine pg_icmp_ge 56 dX8_beginAnew_40 (by decide) (fun c7 => ?_) (fun c7 => ?_)
  · rw [if_pos c7] at h
    obtain rfl := Option.some.inj h
    exact hT _ rfl
  · rw [if_neg c7] at h
    refine pg_aload_n dX8_beginAnew_43 rfl ?_
    refine eg_get dX8_beginAnew_44 fa_X8_21 hS sp23 (Nat.le_of_ble_eq_true rfl) (Nat.le_of_ble_eq_true rfl) rfl rfl ?_
    refine pg_iload_n dX8_beginAnew_47 rfl ?_
    refine pg_iconst 0 dX8_beginAnew_48 rfl ?_
    obtain ⟨g1, h⟩ := gd_at h
    refine eg_iastJ s.1.toNatClampNeg dX8_beginAnew_49 hS sp27 (Nat.le_of_ble_eq_true rfl) (Nat.le_of_ble_eq_true rfl) (fun _ _ _ => rfl) (inR_vp g1) rfl (fun m8 e_m8 => ?_)
    replace h := lt_at h e_m8
    obtain ⟨w9, e_w9⟩ : ∃ z : Int32, z = s.1 + 1 := ⟨_, rfl⟩
    replace h := lt_at h e_w9
    refine eg_iinc [some (.ref 23), some (.int w9)] w9 1 dX8_beginAnew_50 rfl rfl e_w9 rfl ?_
    refine pg_goto 37 dX8_beginAnew_53 (by decide) ?_
    obtain rfl := Option.some.inj h
    exact hN _ rfl
set_option maxRecDepth 20000 in
set_option maxHeartbeats 4000000 in
theorem ct_X8_beginAnew (hfl : g.1.stackTraces = false) (hS : pS 1 28 S) {m0 : me} {x : me} (h : f_X8_beginAnew m0 = some x) : pm_Ct g mX8_beginAnew [.ref 23] (en S m0) 0 0 (qV S x) qF := by
  refine pm_of (by decide +kernel) rfl hfl (Nat.le_of_ble_eq_true rfl) (fun X hE => ?_)
  show pm_G g mX8_beginAnew X 0 [some (.ref 23), none] [] (en S m0) 0 0
  unfold f_X8_beginAnew at h
  refine pg_iconst 0 dX8_beginAnew_0 rfl ?_
  refine eg_istore_n [some (.ref 23), some (.int 0)] 0 dX8_beginAnew_1 rfl (Nat.le_of_ble_eq_true rfl) rfl ?_
  obtain ⟨s6, h_s6, h⟩ := bd_at h
  refine lo_at (b := b_X8_beginAnew_2) (G := (fun z9 : Int32 × me => pm_G g mX8_beginAnew X 2 [some (.ref 23), some (.int z9.1)] [] (en S z9.2) 0 0)) (T := (fun z9 : Int32 × me => pm_G g mX8_beginAnew X 35 [some (.ref 23), some (.int z9.1)] [] (en S z9.2) 0 0)) (fun q9 r9 h1 h2 h3 => lb_X8_beginAnew_2 hfl hS h1 h2 h3) 2048 (0, m0) s6 h_s6 ?_
  show pm_G g mX8_beginAnew X 35 [some (.ref 23), some (.int s6.1)] [] (en S s6.2) 0 0
  refine pg_iconst 0 dX8_beginAnew_35 rfl ?_
  refine eg_istore_n [some (.ref 23), some (.int 0)] 0 dX8_beginAnew_36 rfl (Nat.le_of_ble_eq_true rfl) rfl ?_
  obtain ⟨s10, h_s10, h⟩ := bd_at h
  refine lo_at (b := b_X8_beginAnew_37) (G := (fun z9 : Int32 × me => pm_G g mX8_beginAnew X 37 [some (.ref 23), some (.int z9.1)] [] (en S z9.2) 0 0)) (T := (fun z9 : Int32 × me => pm_G g mX8_beginAnew X 56 [some (.ref 23), some (.int z9.1)] [] (en S z9.2) 0 0)) (fun q9 r9 h1 h2 h3 => lb_X8_beginAnew_37 hfl hS h1 h2 h3) 2048 (0, s6.2) s10 h_s10 ?_
  show pm_G g mX8_beginAnew X 56 [some (.ref 23), some (.int s10.1)] [] (en S s10.2) 0 0
  obtain rfl := Option.some.inj h
  exact hE.2.2.1 _ _ _ _ _ dX8_beginAnew_56 rfl (Nat.zero_le _) (Nat.zero_le _) ⟨rfl, rfl⟩
end
