section
variable {g : pm_Gl} {X : pm_X} {S : List sF}
def f_X2_sendOn (v2 : Int32) (v3 : Int32) (v4 : Int32) (m0 : me) : Option me :=
  lt (wI m0 122 4 ((m0.1 122 4) + 1)) (fun m1 =>
  bd (f_X3_otherEnd v3 v2 m1) (fun r2 =>
  bd (f_X2_receive r2.1 v3 v4 r2.2) (fun r3 =>
  some (r3))))
set_option maxRecDepth 20000 in
set_option maxHeartbeats 4000000 in
theorem ct_X2_sendOn (hfl : g.1.stackTraces = false) (hS : pS 0 138 S) {v2 : Int32} {v3 : Int32} {v4 : Int32} {m0 : me} {x : me} (h : f_X2_sendOn v2 v3 v4 m0 = some x) : pm_Ct g mX2_sendOn [.ref 122, .ref 1, .int v2, .int v3, .int v4] (en S m0) 0 0 (qV S x) qF := by
  refine pm_of (by decide +kernel) rfl hfl (Nat.le_of_ble_eq_true rfl) (fun X hE => ?_)
  show pm_G g mX2_sendOn X 0 [some (.ref 122), some (.ref 1), some (.int v2), some (.int v3), some (.int v4)] [] (en S m0) 0 0
  unfold f_X2_sendOn at h
  refine pg_aload_n dX2_sendOn_0 rfl ?_
  refine pg_dup dX2_sendOn_1 rfl ?_
  refine eg_get dX2_sendOn_2 fa_X2_26 hS sp122 (Nat.le_of_ble_eq_true rfl) (Nat.le_of_ble_eq_true rfl) rfl rfl ?_
  refine pg_iconst 1 dX2_sendOn_5 rfl ?_
  refine pg_iadd dX2_sendOn_6 ?_
  refine eg_put dX2_sendOn_7 fa_X2_26 hS sp122 (Nat.le_of_ble_eq_true rfl) (Nat.le_of_ble_eq_true rfl) rfl (Nat.le_of_ble_eq_true rfl) rfl (fun m1 e_m1 => ?_)
  replace h := lt_at h e_m1
  refine pg_aload_n dX2_sendOn_10 rfl ?_
  refine pg_aload_n dX2_sendOn_11 rfl ?_
  refine pg_aload_n dX2_sendOn_12 rfl ?_
  refine eg_get dX2_sendOn_13 fa_X2_68 hS sp1 (Nat.le_of_ble_eq_true rfl) (Nat.le_of_ble_eq_true rfl) rfl rfl ?_
  refine pg_iload_n dX2_sendOn_16 rfl ?_
  refine pg_iload_n dX2_sendOn_17 rfl ?_
  obtain ⟨r2, h_r2, h⟩ := bd_at h
  refine eg_cVi (C := mX3_otherEnd) (as := [(.int v3), (.int v2)]) dX2_sendOn_18 mw733 cv_X3_otherEnd hS sp11 (Nat.le_of_ble_eq_true rfl) (Nat.le_of_ble_eq_true rfl) rfl rfl rfl (Nat.le_of_ble_eq_true rfl) rfl ⟨(Nat.le_of_ble_eq_true rfl), (Nat.le_of_ble_eq_true rfl)⟩ (ct_X3_otherEnd hfl (hS.sub (Nat.le_of_ble_eq_true rfl) (Nat.le_of_ble_eq_true rfl)) h_r2) ?_
  refine pg_iload_n dX2_sendOn_21 rfl ?_
  refine pg_iload dX2_sendOn_22 rfl ?_
  obtain ⟨r3, h_r3, h⟩ := bd_at h
  refine eg_cVv (C := mX2_receive) (as := [(.ref 1), (.int r2.1), (.int v3), (.int v4)]) dX2_sendOn_24 mw704 cv_X2_receive hS sp122 (Nat.le_of_ble_eq_true rfl) (Nat.le_of_ble_eq_true rfl) rfl rfl rfl (Nat.le_of_ble_eq_true rfl) rfl ⟨(Nat.le_of_ble_eq_true rfl), (Nat.le_of_ble_eq_true rfl)⟩ (ct_X2_receive hfl (hS.sub (Nat.le_of_ble_eq_true rfl) (Nat.le_of_ble_eq_true rfl)) h_r3) ?_
  obtain rfl := Option.some.inj h
  exact hE.2.2.1 _ _ _ _ _ dX2_sendOn_27 rfl (Nat.zero_le _) (Nat.zero_le _) ⟨rfl, rfl⟩
def b_X2_serve_72 (v2 : Int32) (v3 : Int32) (s : Int32 × me) : Option ((Int32 × me) ⊕ (Int32 × me)) :=
  if (s.2.1 11 0) ≤ s.1 then
    some (.inr (s.1, s.2))
  else
    bd (f_X3_carries s.1 s.2) (fun r6 =>
    if r6.1 = 0 then
      lt (s.1 + 1) (fun w8 =>
      some (.inl (w8, r6.2)))
    else
      bd (f_X3_touches s.1 v2 r6.2) (fun r9 =>
      if r9.1 = 0 then
        lt (s.1 + 1) (fun w11 =>
        some (.inl (w11, r9.2)))
      else
        gd (inR v2 8) (
        if s.1 = (r9.2.1 124 v2.toNatClampNeg) then
          lt (s.1 + 1) (fun w13 =>
          some (.inl (w13, r9.2)))
        else
          bd (f_X2_sendOn v2 s.1 v3 r9.2) (fun r14 =>
          lt (s.1 + 1) (fun w15 =>
          some (.inl (w15, r14)))))))
def j_X2_serve_69 (v2 : Int32) (v3 : Int32) (m0 : me) : Option me :=
  bd (lo (b_X2_serve_72 v2 v3) 2048 (0, m0)) (fun s16 =>
  some (s16.2))
def f_X2_serve (v2 : Int32) (v3 : Int32) (v4 : Int32) (m0 : me) : Option me :=
  gd (inR v4 8) (
  if (m0.1 8 v4.toNatClampNeg) = v2 then
    lt (wI m0 122 5 1) (fun m19 =>
    some (m19))
  else
    bd (f_X1_validEntry v2 v4 (m0.1 1 1) m0) (fun r2 =>
    bd (f_X3_carries r2.1 r2.2) (fun r3 =>
    if r3.1 = 0 then
      j_X2_serve_69 v2 v3 r3.2
    else
      gd (inR v2 8) (
      if r2.1 = (r3.2.1 124 v2.toNatClampNeg) then
        j_X2_serve_69 v2 v3 r3.2
      else
        bd (f_X2_sendOn v2 r2.1 v3 r3.2) (fun r18 =>
        some (r18))))))
set_option maxRecDepth 20000 in
set_option maxHeartbeats 4000000 in
theorem lb_X2_serve_72 (hfl : g.1.stackTraces = false) (hS : pS 0 138 S) {v2 : Int32} {v3 : Int32} {s : Int32 × me} {r : (Int32 × me) ⊕ (Int32 × me)} (h : b_X2_serve_72 v2 v3 s = some r) (hN : ∀ s', r = .inl s' → (fun z9 : Int32 × me => pm_G g mX2_serve X 72 [some (.ref 122), some (.ref 1), some (.int v2), some (.int v3), none, none, some (.int z9.1)] [] (en S z9.2) 0 0) s') (hT : ∀ t, r = .inr t → (fun z9 : Int32 × me => pm_G g mX2_serve X 135 [some (.ref 122), some (.ref 1), some (.int v2), some (.int v3), none, none, some (.int z9.1)] [] (en S z9.2) 0 0) t) : (fun z9 : Int32 × me => pm_G g mX2_serve X 72 [some (.ref 122), some (.ref 1), some (.int v2), some (.int v3), none, none, some (.int z9.1)] [] (en S z9.2) 0 0) s := by
  unfold b_X2_serve_72 at h
  show pm_G g mX2_serve X 72 [some (.ref 122), some (.ref 1), some (.int v2), some (.int v3), none, none, some (.int s.1)] [] (en S s.2) 0 0
  refine pg_iload dX2_serve_72 rfl ?_
  refine pg_aload_n dX2_serve_74 rfl ?_
  refine eg_get dX2_serve_75 fa_X2_68 hS sp1 (Nat.le_of_ble_eq_true rfl) (Nat.le_of_ble_eq_true rfl) rfl rfl ?_
  refine eg_get dX2_serve_78 fa_X2_81 hS sp11 (Nat.le_of_ble_eq_true rfl) (Nat.le_of_ble_eq_true rfl) rfl rfl ?_
  refine pg_icmp_ge 135 dX2_serve_81 (by decide) (fun c5 => ?_) (fun c5 => ?_)
  · rw [if_pos c5] at h
    obtain rfl := Option.some.inj h
    exact hT _ rfl
  · rw [if_neg c5] at h
    refine pg_aload_n dX2_serve_84 rfl ?_
    refine eg_get dX2_serve_85 fa_X2_68 hS sp1 (Nat.le_of_ble_eq_true rfl) (Nat.le_of_ble_eq_true rfl) rfl rfl ?_
    refine pg_iload dX2_serve_88 rfl ?_
    obtain ⟨r6, h_r6, h⟩ := bd_at h
    refine eg_cVi (C := mX3_carries) (as := [(.int s.1)]) dX2_serve_90 mw721 cv_X3_carries hS sp11 (Nat.le_of_ble_eq_true rfl) (Nat.le_of_ble_eq_true rfl) rfl rfl rfl (Nat.le_of_ble_eq_true rfl) rfl ⟨(Nat.le_of_ble_eq_true rfl), (Nat.le_of_ble_eq_true rfl)⟩ (ct_X3_carries hfl (hS.sub (Nat.le_of_ble_eq_true rfl) (Nat.le_of_ble_eq_true rfl)) h_r6) ?_
    refine pg_if_eq 129 dX2_serve_93 (by decide) (fun c7 => ?_) (fun c7 => ?_)
    · rw [if_pos c7] at h
      obtain ⟨w8, e_w8⟩ : ∃ z : Int32, z = s.1 + 1 := ⟨_, rfl⟩
      replace h := lt_at h e_w8
      refine eg_iinc [some (.ref 122), some (.ref 1), some (.int v2), some (.int v3), none, none, some (.int w8)] w8 1 dX2_serve_129 rfl rfl e_w8 rfl ?_
      refine pg_goto 72 dX2_serve_132 (by decide) ?_
      obtain rfl := Option.some.inj h
      exact hN _ rfl
    · rw [if_neg c7] at h
      refine pg_aload_n dX2_serve_96 rfl ?_
      refine eg_get dX2_serve_97 fa_X2_68 hS sp1 (Nat.le_of_ble_eq_true rfl) (Nat.le_of_ble_eq_true rfl) rfl rfl ?_
      refine pg_iload dX2_serve_100 rfl ?_
      refine pg_iload_n dX2_serve_102 rfl ?_
      obtain ⟨r9, h_r9, h⟩ := bd_at h
      refine eg_cVi (C := mX3_touches) (as := [(.int s.1), (.int v2)]) dX2_serve_103 mw728 cv_X3_touches hS sp11 (Nat.le_of_ble_eq_true rfl) (Nat.le_of_ble_eq_true rfl) rfl rfl rfl (Nat.le_of_ble_eq_true rfl) rfl ⟨(Nat.le_of_ble_eq_true rfl), (Nat.le_of_ble_eq_true rfl)⟩ (ct_X3_touches hfl (hS.sub (Nat.le_of_ble_eq_true rfl) (Nat.le_of_ble_eq_true rfl)) h_r9) ?_
      refine pg_if_eq 129 dX2_serve_106 (by decide) (fun c10 => ?_) (fun c10 => ?_)
      · rw [if_pos c10] at h
        obtain ⟨w11, e_w11⟩ : ∃ z : Int32, z = s.1 + 1 := ⟨_, rfl⟩
        replace h := lt_at h e_w11
        refine eg_iinc [some (.ref 122), some (.ref 1), some (.int v2), some (.int v3), none, none, some (.int w11)] w11 1 dX2_serve_129 rfl rfl e_w11 rfl ?_
        refine pg_goto 72 dX2_serve_132 (by decide) ?_
        obtain rfl := Option.some.inj h
        exact hN _ rfl
      · rw [if_neg c10] at h
        refine pg_iload dX2_serve_109 rfl ?_
        refine pg_aload_n dX2_serve_111 rfl ?_
        refine eg_get dX2_serve_112 fa_X2_15 hS sp122 (Nat.le_of_ble_eq_true rfl) (Nat.le_of_ble_eq_true rfl) rfl rfl ?_
        refine pg_iload_n dX2_serve_115 rfl ?_
        obtain ⟨g1, h⟩ := gd_at h
        refine eg_ialdJ v2.toNatClampNeg dX2_serve_116 hS sp124 (Nat.le_of_ble_eq_true rfl) (Nat.le_of_ble_eq_true rfl) rfl (inR_vp g1) rfl ?_
        refine pg_icmp_eq 129 dX2_serve_117 (by decide) (fun c12 => ?_) (fun c12 => ?_)
        · rw [if_pos c12] at h
          obtain ⟨w13, e_w13⟩ : ∃ z : Int32, z = s.1 + 1 := ⟨_, rfl⟩
          replace h := lt_at h e_w13
          refine eg_iinc [some (.ref 122), some (.ref 1), some (.int v2), some (.int v3), none, none, some (.int w13)] w13 1 dX2_serve_129 rfl rfl e_w13 rfl ?_
          refine pg_goto 72 dX2_serve_132 (by decide) ?_
          obtain rfl := Option.some.inj h
          exact hN _ rfl
        · rw [if_neg c12] at h
          refine pg_aload_n dX2_serve_120 rfl ?_
          refine pg_aload_n dX2_serve_121 rfl ?_
          refine pg_iload_n dX2_serve_122 rfl ?_
          refine pg_iload dX2_serve_123 rfl ?_
          refine pg_iload_n dX2_serve_125 rfl ?_
          obtain ⟨r14, h_r14, h⟩ := bd_at h
          refine eg_cVv (C := mX2_sendOn) (as := [(.ref 1), (.int v2), (.int s.1), (.int v3)]) dX2_serve_126 mw722 cv_X2_sendOn hS sp122 (Nat.le_of_ble_eq_true rfl) (Nat.le_of_ble_eq_true rfl) rfl rfl rfl (Nat.le_of_ble_eq_true rfl) rfl ⟨(Nat.le_of_ble_eq_true rfl), (Nat.le_of_ble_eq_true rfl)⟩ (ct_X2_sendOn hfl (hS.sub (Nat.le_of_ble_eq_true rfl) (Nat.le_of_ble_eq_true rfl)) h_r14) ?_
          obtain ⟨w15, e_w15⟩ : ∃ z : Int32, z = s.1 + 1 := ⟨_, rfl⟩
          replace h := lt_at h e_w15
          refine eg_iinc [some (.ref 122), some (.ref 1), some (.int v2), some (.int v3), none, none, some (.int w15)] w15 1 dX2_serve_129 rfl rfl e_w15 rfl ?_
          refine pg_goto 72 dX2_serve_132 (by decide) ?_
          obtain rfl := Option.some.inj h
          exact hN _ rfl
set_option maxRecDepth 20000 in
set_option maxHeartbeats 4000000 in
theorem lj_X2_serve_69 (hfl : g.1.stackTraces = false) (hS : pS 0 138 S) {v2 : Int32} {v3 : Int32} {m0 : me} {r : me} (h : j_X2_serve_69 v2 v3 m0 = some r) (hE : pm_End g mX2_serve X 0 0 (qV S r) qF) : pm_G g mX2_serve X 69 [some (.ref 122), some (.ref 1), some (.int v2), some (.int v3), none, none, none] [] (en S m0) 0 0 := by
  unfold j_X2_serve_69 at h
  refine pg_iconst 0 dX2_serve_69 rfl ?_
  refine eg_istore [some (.ref 122), some (.ref 1), some (.int v2), some (.int v3), none, none, some (.int 0)] 0 dX2_serve_70 rfl (Nat.le_of_ble_eq_true rfl) rfl ?_
  obtain ⟨s16, h_s16, h⟩ := bd_at h
  refine lo_at (b := b_X2_serve_72 v2 v3) (G := (fun z9 : Int32 × me => pm_G g mX2_serve X 72 [some (.ref 122), some (.ref 1), some (.int v2), some (.int v3), none, none, some (.int z9.1)] [] (en S z9.2) 0 0)) (T := (fun z9 : Int32 × me => pm_G g mX2_serve X 135 [some (.ref 122), some (.ref 1), some (.int v2), some (.int v3), none, none, some (.int z9.1)] [] (en S z9.2) 0 0)) (fun q9 r9 h1 h2 h3 => lb_X2_serve_72 hfl hS h1 h2 h3) 2048 (0, m0) s16 h_s16 ?_
  show pm_G g mX2_serve X 135 [some (.ref 122), some (.ref 1), some (.int v2), some (.int v3), none, none, some (.int s16.1)] [] (en S s16.2) 0 0
  obtain rfl := Option.some.inj h
  exact hE.2.2.1 _ _ _ _ _ dX2_serve_135 rfl (Nat.zero_le _) (Nat.zero_le _) ⟨rfl, rfl⟩
set_option maxRecDepth 20000 in
set_option maxHeartbeats 4000000 in
theorem ct_X2_serve (hfl : g.1.stackTraces = false) (hS : pS 0 138 S) {v2 : Int32} {v3 : Int32} {v4 : Int32} {m0 : me} {x : me} (h : f_X2_serve v2 v3 v4 m0 = some x) : pm_Ct g mX2_serve [.ref 122, .ref 1, .int v2, .int v3, .int v4] (en S m0) 0 0 (qV S x) qF := by
  refine pm_of (by decide +kernel) rfl hfl (Nat.le_of_ble_eq_true rfl) (fun X hE => ?_)
  show pm_G g mX2_serve X 0 [some (.ref 122), some (.ref 1), some (.int v2), some (.int v3), some (.int v4), none, none] [] (en S m0) 0 0
  unfold f_X2_serve at h
  refine pg_aload_n dX2_serve_0 rfl ?_
  refine eg_get dX2_serve_1 fa_X2_33 hS sp1 (Nat.le_of_ble_eq_true rfl) (Nat.le_of_ble_eq_true rfl) rfl rfl ?_
  refine eg_get dX2_serve_4 fa_X2_39 hS sp2 (Nat.le_of_ble_eq_true rfl) (Nat.le_of_ble_eq_true rfl) rfl rfl ?_
  refine pg_iload dX2_serve_7 rfl ?_
  obtain ⟨g1, h⟩ := gd_at h
  refine eg_ialdJ v4.toNatClampNeg dX2_serve_9 hS sp8 (Nat.le_of_ble_eq_true rfl) (Nat.le_of_ble_eq_true rfl) rfl (inR_vp g1) rfl ?_
  refine pg_iload_n dX2_serve_10 rfl ?_
  refine pg_icmp_ne 20 dX2_serve_11 (by decide) (fun c1 => ?_) (fun c1 => ?_)
  · rw [if_neg c1] at h
    refine pg_aload_n dX2_serve_20 rfl ?_
    refine eg_get dX2_serve_21 fa_X2_33 hS sp1 (Nat.le_of_ble_eq_true rfl) (Nat.le_of_ble_eq_true rfl) rfl rfl ?_
    refine pg_iload_n dX2_serve_24 rfl ?_
    refine pg_iload dX2_serve_25 rfl ?_
    refine pg_aload_n dX2_serve_27 rfl ?_
    refine eg_get dX2_serve_28 fa_X2_57 hS sp1 (Nat.le_of_ble_eq_true rfl) (Nat.le_of_ble_eq_true rfl) rfl rfl ?_
    obtain ⟨r2, h_r2, h⟩ := bd_at h
    refine eg_cVi (C := mX1_validEntry) (as := [(.int v2), (.int v4), (.int (m0.1 1 1))]) dX2_serve_31 mw719 cv_X1_validEntry hS sp2 (Nat.le_of_ble_eq_true rfl) (Nat.le_of_ble_eq_true rfl) rfl rfl rfl (Nat.le_of_ble_eq_true rfl) rfl ⟨(Nat.le_of_ble_eq_true rfl), (Nat.le_of_ble_eq_true rfl)⟩ (ct_X1_validEntry hfl (hS.sub (Nat.le_of_ble_eq_true rfl) (Nat.le_of_ble_eq_true rfl)) h_r2) ?_
    refine eg_istore [some (.ref 122), some (.ref 1), some (.int v2), some (.int v3), some (.int v4), some (.int r2.1), none] r2.1 dX2_serve_34 rfl (Nat.le_of_ble_eq_true rfl) rfl ?_
    refine pg_aload_n dX2_serve_36 rfl ?_
    refine eg_get dX2_serve_37 fa_X2_68 hS sp1 (Nat.le_of_ble_eq_true rfl) (Nat.le_of_ble_eq_true rfl) rfl rfl ?_
    refine pg_iload dX2_serve_40 rfl ?_
    obtain ⟨r3, h_r3, h⟩ := bd_at h
    refine eg_cVi (C := mX3_carries) (as := [(.int r2.1)]) dX2_serve_42 mw721 cv_X3_carries hS sp11 (Nat.le_of_ble_eq_true rfl) (Nat.le_of_ble_eq_true rfl) rfl rfl rfl (Nat.le_of_ble_eq_true rfl) rfl ⟨(Nat.le_of_ble_eq_true rfl), (Nat.le_of_ble_eq_true rfl)⟩ (ct_X3_carries hfl (hS.sub (Nat.le_of_ble_eq_true rfl) (Nat.le_of_ble_eq_true rfl)) h_r3) ?_
    refine pg_if_eq 69 dX2_serve_45 (by decide) (fun c4 => ?_) (fun c4 => ?_)
    · rw [if_pos c4] at h
      refine eg_forget [some (.ref 122), some (.ref 1), some (.int v2), some (.int v3), none, none, none] (show pm_sub _ _ from ⟨rfl, ⟨rfl, ⟨rfl, ⟨rfl, trivial⟩⟩⟩⟩) ?_
      exact lj_X2_serve_69 hfl hS h hE
    · rw [if_neg c4] at h
      refine pg_iload dX2_serve_48 rfl ?_
      refine pg_aload_n dX2_serve_50 rfl ?_
      refine eg_get dX2_serve_51 fa_X2_15 hS sp122 (Nat.le_of_ble_eq_true rfl) (Nat.le_of_ble_eq_true rfl) rfl rfl ?_
      refine pg_iload_n dX2_serve_54 rfl ?_
      obtain ⟨g1, h⟩ := gd_at h
      refine eg_ialdJ v2.toNatClampNeg dX2_serve_55 hS sp124 (Nat.le_of_ble_eq_true rfl) (Nat.le_of_ble_eq_true rfl) rfl (inR_vp g1) rfl ?_
      refine pg_icmp_eq 69 dX2_serve_56 (by decide) (fun c17 => ?_) (fun c17 => ?_)
      · rw [if_pos c17] at h
        refine eg_forget [some (.ref 122), some (.ref 1), some (.int v2), some (.int v3), none, none, none] (show pm_sub _ _ from ⟨rfl, ⟨rfl, ⟨rfl, ⟨rfl, trivial⟩⟩⟩⟩) ?_
        exact lj_X2_serve_69 hfl hS h hE
      · rw [if_neg c17] at h
        refine pg_aload_n dX2_serve_59 rfl ?_
        refine pg_aload_n dX2_serve_60 rfl ?_
        refine pg_iload_n dX2_serve_61 rfl ?_
        refine pg_iload dX2_serve_62 rfl ?_
        refine pg_iload_n dX2_serve_64 rfl ?_
        obtain ⟨r18, h_r18, h⟩ := bd_at h
        refine eg_cVv (C := mX2_sendOn) (as := [(.ref 1), (.int v2), (.int r2.1), (.int v3)]) dX2_serve_65 mw722 cv_X2_sendOn hS sp122 (Nat.le_of_ble_eq_true rfl) (Nat.le_of_ble_eq_true rfl) rfl rfl rfl (Nat.le_of_ble_eq_true rfl) rfl ⟨(Nat.le_of_ble_eq_true rfl), (Nat.le_of_ble_eq_true rfl)⟩ (ct_X2_sendOn hfl (hS.sub (Nat.le_of_ble_eq_true rfl) (Nat.le_of_ble_eq_true rfl)) h_r18) ?_
        obtain rfl := Option.some.inj h
        exact hE.2.2.1 _ _ _ _ _ dX2_serve_68 rfl (Nat.zero_le _) (Nat.zero_le _) ⟨rfl, rfl⟩
  · rw [if_pos c1] at h
    refine pg_aload_n dX2_serve_14 rfl ?_
    refine pg_iconst 1 dX2_serve_15 rfl ?_
    refine eg_putZ dX2_serve_16 fa_X2_29 hS sp122 (Nat.le_of_ble_eq_true rfl) (Nat.le_of_ble_eq_true rfl) rfl (Nat.le_of_ble_eq_true rfl) ⟨rfl, rfl⟩ rfl (fun m19 e_m19 => ?_)
    replace h := lt_at h e_m19
    obtain rfl := Option.some.inj h
    exact hE.2.2.1 _ _ _ _ _ dX2_serve_19 rfl (Nat.zero_le _) (Nat.zero_le _) ⟨rfl, rfl⟩
def b_X2_carry_3 (v2 : Int32) (v3 : Int32) (s : Int32 × me) : Option ((Int32 × me) ⊕ (Int32 × me)) :=
  if 8 ≤ s.1 then
    some (.inr (s.1, s.2))
  else
    gd (inR s.1 8) (
    lt (wI s.2 123 s.1.toNatClampNeg 0) (fun m2 =>
    lt (s.1 + 1) (fun w3 =>
    some (.inl (w3, m2)))))
def b_X2_carry_59 (v2 : Int32) (v3 : Int32) (s : Int32 × me) : Option ((Int32 × me) ⊕ (Int32 × me)) :=
  if 8 ≤ s.1 then
    some (.inr (s.1, s.2))
  else
    if (s.2.1 122 3) ≤ s.1 then
      some (.inr (s.1, s.2))
    else
      gd (inR s.1 8) (
      bd (f_X2_serve (s.2.1 125 s.1.toNatClampNeg) v2 v3 s.2) (fun r11 =>
      lt (s.1 + 1) (fun w12 =>
      some (.inl (w12, r11)))))
def j_X2_carry_95 (m0 : me) : Option (Int32 × me) :=
  lt (wI m0 1 7 ((m0.1 1 7) + 1)) (fun m14 =>
  lt (wI m14 1 9 ((m14.1 1 9) + (m14.1 122 4))) (fun m15 =>
  if (m15.1 122 5) = 0 then
    some ((m15.1 122 4, m15))
  else
    lt (wI m15 1 8 ((m15.1 1 8) + 1)) (fun m17 =>
    some (((m17.1 122 4) + 1000, m17)))))
def f_X2_carry (v2 : Int32) (v3 : Int32) (m0 : me) : Option (Int32 × me) :=
  bd (lo (b_X2_carry_3 v2 v3) 2048 (0, m0)) (fun s4 =>
  lt (wI s4.2 122 3 0) (fun m5 =>
  lt (wI m5 122 4 0) (fun m6 =>
  lt (wI m6 122 5 0) (fun m7 =>
  gd (inR v2 8) (
  bd (f_X2_receive (m7.1 8 v2.toNatClampNeg) 100 v2 m7) (fun r8 =>
  bd (lo (b_X2_carry_59 v2 v3) 2048 (0, r8)) (fun s13 =>
  j_X2_carry_95 s13.2)))))))
set_option maxRecDepth 20000 in
set_option maxHeartbeats 4000000 in
theorem lb_X2_carry_3 (hfl : g.1.stackTraces = false) (hS : pS 0 138 S) {v2 : Int32} {v3 : Int32} {s : Int32 × me} {r : (Int32 × me) ⊕ (Int32 × me)} (h : b_X2_carry_3 v2 v3 s = some r) (hN : ∀ s', r = .inl s' → (fun z9 : Int32 × me => pm_G g mX2_carry X 3 [some (.ref 122), some (.ref 1), some (.int v2), some (.int v3), some (.int z9.1)] [] (en S z9.2) 0 0) s') (hT : ∀ t, r = .inr t → (fun z9 : Int32 × me => pm_G g mX2_carry X 24 [some (.ref 122), some (.ref 1), some (.int v2), some (.int v3), some (.int z9.1)] [] (en S z9.2) 0 0) t) : (fun z9 : Int32 × me => pm_G g mX2_carry X 3 [some (.ref 122), some (.ref 1), some (.int v2), some (.int v3), some (.int z9.1)] [] (en S z9.2) 0 0) s := by
  unfold b_X2_carry_3 at h
  show pm_G g mX2_carry X 3 [some (.ref 122), some (.ref 1), some (.int v2), some (.int v3), some (.int s.1)] [] (en S s.2) 0 0
  refine pg_iload dX2_carry_3 rfl ?_
  refine pg_bipush 8 dX2_carry_5 rfl ?_
  refine pg_icmp_ge 24 dX2_carry_7 (by decide) (fun c1 => ?_) (fun c1 => ?_)
  · rw [if_pos c1] at h
    obtain rfl := Option.some.inj h
    exact hT _ rfl
  · rw [if_neg c1] at h
    refine pg_aload_n dX2_carry_10 rfl ?_
    refine eg_get dX2_carry_11 fa_X2_9 hS sp122 (Nat.le_of_ble_eq_true rfl) (Nat.le_of_ble_eq_true rfl) rfl rfl ?_
    refine pg_iload dX2_carry_14 rfl ?_
    refine pg_iconst 0 dX2_carry_16 rfl ?_
    obtain ⟨g1, h⟩ := gd_at h
    refine eg_zastJ s.1.toNatClampNeg dX2_carry_17 hS sp123 (Nat.le_of_ble_eq_true rfl) (Nat.le_of_ble_eq_true rfl) (fun _ _ _ => rfl) (inR_vp g1) rfl rfl (fun m2 e_m2 => ?_)
    replace h := lt_at h e_m2
    obtain ⟨w3, e_w3⟩ : ∃ z : Int32, z = s.1 + 1 := ⟨_, rfl⟩
    replace h := lt_at h e_w3
    refine eg_iinc [some (.ref 122), some (.ref 1), some (.int v2), some (.int v3), some (.int w3)] w3 1 dX2_carry_18 rfl rfl e_w3 rfl ?_
    refine pg_goto 3 dX2_carry_21 (by decide) ?_
    obtain rfl := Option.some.inj h
    exact hN _ rfl
set_option maxRecDepth 20000 in
set_option maxHeartbeats 4000000 in
theorem lb_X2_carry_59 (hfl : g.1.stackTraces = false) (hS : pS 0 138 S) {v2 : Int32} {v3 : Int32} {s : Int32 × me} {r : (Int32 × me) ⊕ (Int32 × me)} (h : b_X2_carry_59 v2 v3 s = some r) (hN : ∀ s', r = .inl s' → (fun z9 : Int32 × me => pm_G g mX2_carry X 59 [some (.ref 122), some (.ref 1), some (.int v2), some (.int v3), some (.int z9.1)] [] (en S z9.2) 0 0) s') (hT : ∀ t, r = .inr t → (fun z9 : Int32 × me => pm_G g mX2_carry X 95 [some (.ref 122), some (.ref 1), some (.int v2), some (.int v3), some (.int z9.1)] [] (en S z9.2) 0 0) t) : (fun z9 : Int32 × me => pm_G g mX2_carry X 59 [some (.ref 122), some (.ref 1), some (.int v2), some (.int v3), some (.int z9.1)] [] (en S z9.2) 0 0) s := by
  unfold b_X2_carry_59 at h
  show pm_G g mX2_carry X 59 [some (.ref 122), some (.ref 1), some (.int v2), some (.int v3), some (.int s.1)] [] (en S s.2) 0 0
  refine pg_iload dX2_carry_59 rfl ?_
  refine pg_bipush 8 dX2_carry_61 rfl ?_
  refine pg_icmp_ge 95 dX2_carry_63 (by decide) (fun c9 => ?_) (fun c9 => ?_)
  · rw [if_pos c9] at h
    obtain rfl := Option.some.inj h
    exact hT _ rfl
  · rw [if_neg c9] at h
    refine pg_iload dX2_carry_66 rfl ?_
    refine pg_aload_n dX2_carry_68 rfl ?_
    refine eg_get dX2_carry_69 fa_X2_22 hS sp122 (Nat.le_of_ble_eq_true rfl) (Nat.le_of_ble_eq_true rfl) rfl rfl ?_
    refine pg_icmp_ge 95 dX2_carry_72 (by decide) (fun c10 => ?_) (fun c10 => ?_)
    · rw [if_pos c10] at h
      obtain rfl := Option.some.inj h
      exact hT _ rfl
    · rw [if_neg c10] at h
      refine pg_aload_n dX2_carry_75 rfl ?_
      refine pg_aload_n dX2_carry_76 rfl ?_
      refine pg_aload_n dX2_carry_77 rfl ?_
      refine eg_get dX2_carry_78 fa_X2_19 hS sp122 (Nat.le_of_ble_eq_true rfl) (Nat.le_of_ble_eq_true rfl) rfl rfl ?_
      refine pg_iload dX2_carry_81 rfl ?_
      obtain ⟨g1, h⟩ := gd_at h
      refine eg_ialdJ s.1.toNatClampNeg dX2_carry_83 hS sp125 (Nat.le_of_ble_eq_true rfl) (Nat.le_of_ble_eq_true rfl) rfl (inR_vp g1) rfl ?_
      refine pg_iload_n dX2_carry_84 rfl ?_
      refine pg_iload_n dX2_carry_85 rfl ?_
      obtain ⟨r11, h_r11, h⟩ := bd_at h
      refine eg_cVv (C := mX2_serve) (as := [(.ref 1), (.int (s.2.1 125 s.1.toNatClampNeg)), (.int v2), (.int v3)]) dX2_carry_86 mw709 cv_X2_serve hS sp122 (Nat.le_of_ble_eq_true rfl) (Nat.le_of_ble_eq_true rfl) rfl rfl rfl (Nat.le_of_ble_eq_true rfl) rfl ⟨(Nat.le_of_ble_eq_true rfl), (Nat.le_of_ble_eq_true rfl)⟩ (ct_X2_serve hfl (hS.sub (Nat.le_of_ble_eq_true rfl) (Nat.le_of_ble_eq_true rfl)) h_r11) ?_
      obtain ⟨w12, e_w12⟩ : ∃ z : Int32, z = s.1 + 1 := ⟨_, rfl⟩
      replace h := lt_at h e_w12
      refine eg_iinc [some (.ref 122), some (.ref 1), some (.int v2), some (.int v3), some (.int w12)] w12 1 dX2_carry_89 rfl rfl e_w12 rfl ?_
      refine pg_goto 59 dX2_carry_92 (by decide) ?_
      obtain rfl := Option.some.inj h
      exact hN _ rfl
set_option maxRecDepth 20000 in
set_option maxHeartbeats 4000000 in
theorem lj_X2_carry_95 (hfl : g.1.stackTraces = false) (hS : pS 0 138 S) {m0 : me} {r : (Int32 × me)} (h : j_X2_carry_95 m0 = some r) (hE : pm_End g mX2_carry X 0 0 (qI S r) qF) : pm_G g mX2_carry X 95 [some (.ref 122), some (.ref 1), none, none, none] [] (en S m0) 0 0 := by
  unfold j_X2_carry_95 at h
  refine pg_aload_n dX2_carry_95 rfl ?_
  refine pg_dup dX2_carry_96 rfl ?_
  refine eg_get dX2_carry_97 fa_X2_51 hS sp1 (Nat.le_of_ble_eq_true rfl) (Nat.le_of_ble_eq_true rfl) rfl rfl ?_
  refine pg_iconst 1 dX2_carry_100 rfl ?_
  refine pg_iadd dX2_carry_101 ?_
  refine eg_put dX2_carry_102 fa_X2_51 hS sp1 (Nat.le_of_ble_eq_true rfl) (Nat.le_of_ble_eq_true rfl) rfl (Nat.le_of_ble_eq_true rfl) rfl (fun m14 e_m14 => ?_)
  replace h := lt_at h e_m14
  refine pg_aload_n dX2_carry_105 rfl ?_
  refine pg_dup dX2_carry_106 rfl ?_
  refine eg_get dX2_carry_107 fa_X2_54 hS sp1 (Nat.le_of_ble_eq_true rfl) (Nat.le_of_ble_eq_true rfl) rfl rfl ?_
  refine pg_aload_n dX2_carry_110 rfl ?_
  refine eg_get dX2_carry_111 fa_X2_26 hS sp122 (Nat.le_of_ble_eq_true rfl) (Nat.le_of_ble_eq_true rfl) rfl rfl ?_
  refine pg_iadd dX2_carry_114 ?_
  refine eg_put dX2_carry_115 fa_X2_54 hS sp1 (Nat.le_of_ble_eq_true rfl) (Nat.le_of_ble_eq_true rfl) rfl (Nat.le_of_ble_eq_true rfl) rfl (fun m15 e_m15 => ?_)
  replace h := lt_at h e_m15
  refine pg_aload_n dX2_carry_118 rfl ?_
  refine eg_get dX2_carry_119 fa_X2_29 hS sp122 (Nat.le_of_ble_eq_true rfl) (Nat.le_of_ble_eq_true rfl) rfl rfl ?_
  refine pg_if_ne 130 dX2_carry_122 (by decide) (fun c16 => ?_) (fun c16 => ?_)
  · rw [if_neg c16] at h
    refine pg_aload_n dX2_carry_130 rfl ?_
    refine pg_dup dX2_carry_131 rfl ?_
    refine eg_get dX2_carry_132 fa_X2_55 hS sp1 (Nat.le_of_ble_eq_true rfl) (Nat.le_of_ble_eq_true rfl) rfl rfl ?_
    refine pg_iconst 1 dX2_carry_135 rfl ?_
    refine pg_iadd dX2_carry_136 ?_
    refine eg_put dX2_carry_137 fa_X2_55 hS sp1 (Nat.le_of_ble_eq_true rfl) (Nat.le_of_ble_eq_true rfl) rfl (Nat.le_of_ble_eq_true rfl) rfl (fun m17 e_m17 => ?_)
    replace h := lt_at h e_m17
    refine pg_aload_n dX2_carry_140 rfl ?_
    refine eg_get dX2_carry_141 fa_X2_26 hS sp122 (Nat.le_of_ble_eq_true rfl) (Nat.le_of_ble_eq_true rfl) rfl rfl ?_
    refine pg_sipush 1000 dX2_carry_144 rfl ?_
    refine pg_iadd dX2_carry_147 ?_
    obtain rfl := Option.some.inj h
    exact hE.2.1 _ _ _ _ _ _ .int dX2_carry_148 rfl rfl (Nat.zero_le _) (Nat.zero_le _) ⟨rfl, rfl⟩
  · rw [if_pos c16] at h
    refine pg_aload_n dX2_carry_125 rfl ?_
    refine eg_get dX2_carry_126 fa_X2_26 hS sp122 (Nat.le_of_ble_eq_true rfl) (Nat.le_of_ble_eq_true rfl) rfl rfl ?_
    obtain rfl := Option.some.inj h
    exact hE.2.1 _ _ _ _ _ _ .int dX2_carry_129 rfl rfl (Nat.zero_le _) (Nat.zero_le _) ⟨rfl, rfl⟩
set_option maxRecDepth 20000 in
set_option maxHeartbeats 4000000 in
theorem ct_X2_carry (hfl : g.1.stackTraces = false) (hS : pS 0 138 S) {v2 : Int32} {v3 : Int32} {m0 : me} {x : (Int32 × me)} (h : f_X2_carry v2 v3 m0 = some x) : pm_Ct g mX2_carry [.ref 122, .ref 1, .int v2, .int v3] (en S m0) 0 0 (qI S x) qF := by
  refine pm_of (by decide +kernel) rfl hfl (Nat.le_of_ble_eq_true rfl) (fun X hE => ?_)
  show pm_G g mX2_carry X 0 [some (.ref 122), some (.ref 1), some (.int v2), some (.int v3), none] [] (en S m0) 0 0
  unfold f_X2_carry at h
  refine pg_iconst 0 dX2_carry_0 rfl ?_
  refine eg_istore [some (.ref 122), some (.ref 1), some (.int v2), some (.int v3), some (.int 0)] 0 dX2_carry_1 rfl (Nat.le_of_ble_eq_true rfl) rfl ?_
  obtain ⟨s4, h_s4, h⟩ := bd_at h
  refine lo_at (b := b_X2_carry_3 v2 v3) (G := (fun z9 : Int32 × me => pm_G g mX2_carry X 3 [some (.ref 122), some (.ref 1), some (.int v2), some (.int v3), some (.int z9.1)] [] (en S z9.2) 0 0)) (T := (fun z9 : Int32 × me => pm_G g mX2_carry X 24 [some (.ref 122), some (.ref 1), some (.int v2), some (.int v3), some (.int z9.1)] [] (en S z9.2) 0 0)) (fun q9 r9 h1 h2 h3 => lb_X2_carry_3 hfl hS h1 h2 h3) 2048 (0, m0) s4 h_s4 ?_
  show pm_G g mX2_carry X 24 [some (.ref 122), some (.ref 1), some (.int v2), some (.int v3), some (.int s4.1)] [] (en S s4.2) 0 0
  refine pg_aload_n dX2_carry_24 rfl ?_
  refine pg_iconst 0 dX2_carry_25 rfl ?_
  refine eg_put dX2_carry_26 fa_X2_22 hS sp122 (Nat.le_of_ble_eq_true rfl) (Nat.le_of_ble_eq_true rfl) rfl (Nat.le_of_ble_eq_true rfl) rfl (fun m5 e_m5 => ?_)
  replace h := lt_at h e_m5
  refine pg_aload_n dX2_carry_29 rfl ?_
  refine pg_iconst 0 dX2_carry_30 rfl ?_
  refine eg_put dX2_carry_31 fa_X2_26 hS sp122 (Nat.le_of_ble_eq_true rfl) (Nat.le_of_ble_eq_true rfl) rfl (Nat.le_of_ble_eq_true rfl) rfl (fun m6 e_m6 => ?_)
  replace h := lt_at h e_m6
  refine pg_aload_n dX2_carry_34 rfl ?_
  refine pg_iconst 0 dX2_carry_35 rfl ?_
  refine eg_putZ dX2_carry_36 fa_X2_29 hS sp122 (Nat.le_of_ble_eq_true rfl) (Nat.le_of_ble_eq_true rfl) rfl (Nat.le_of_ble_eq_true rfl) ⟨rfl, rfl⟩ rfl (fun m7 e_m7 => ?_)
  replace h := lt_at h e_m7
  refine pg_aload_n dX2_carry_39 rfl ?_
  refine pg_aload_n dX2_carry_40 rfl ?_
  refine pg_aload_n dX2_carry_41 rfl ?_
  refine eg_get dX2_carry_42 fa_X2_33 hS sp1 (Nat.le_of_ble_eq_true rfl) (Nat.le_of_ble_eq_true rfl) rfl rfl ?_
  refine eg_get dX2_carry_45 fa_X2_39 hS sp2 (Nat.le_of_ble_eq_true rfl) (Nat.le_of_ble_eq_true rfl) rfl rfl ?_
  refine pg_iload_n dX2_carry_48 rfl ?_
  obtain ⟨g1, h⟩ := gd_at h
  refine eg_ialdJ v2.toNatClampNeg dX2_carry_49 hS sp8 (Nat.le_of_ble_eq_true rfl) (Nat.le_of_ble_eq_true rfl) rfl (inR_vp g1) rfl ?_
  refine pg_bipush 100 dX2_carry_50 rfl ?_
  refine pg_iload_n dX2_carry_52 rfl ?_
  obtain ⟨r8, h_r8, h⟩ := bd_at h
  refine eg_cVv (C := mX2_receive) (as := [(.ref 1), (.int (m7.1 8 v2.toNatClampNeg)), (.int 100), (.int v2)]) dX2_carry_53 mw704 cv_X2_receive hS sp122 (Nat.le_of_ble_eq_true rfl) (Nat.le_of_ble_eq_true rfl) rfl rfl rfl (Nat.le_of_ble_eq_true rfl) rfl ⟨(Nat.le_of_ble_eq_true rfl), (Nat.le_of_ble_eq_true rfl)⟩ (ct_X2_receive hfl (hS.sub (Nat.le_of_ble_eq_true rfl) (Nat.le_of_ble_eq_true rfl)) h_r8) ?_
  refine pg_iconst 0 dX2_carry_56 rfl ?_
  refine eg_istore [some (.ref 122), some (.ref 1), some (.int v2), some (.int v3), some (.int 0)] 0 dX2_carry_57 rfl (Nat.le_of_ble_eq_true rfl) rfl ?_
  obtain ⟨s13, h_s13, h⟩ := bd_at h
  refine lo_at (b := b_X2_carry_59 v2 v3) (G := (fun z9 : Int32 × me => pm_G g mX2_carry X 59 [some (.ref 122), some (.ref 1), some (.int v2), some (.int v3), some (.int z9.1)] [] (en S z9.2) 0 0)) (T := (fun z9 : Int32 × me => pm_G g mX2_carry X 95 [some (.ref 122), some (.ref 1), some (.int v2), some (.int v3), some (.int z9.1)] [] (en S z9.2) 0 0)) (fun q9 r9 h1 h2 h3 => lb_X2_carry_59 hfl hS h1 h2 h3) 2048 (0, r8) s13 h_s13 ?_
  show pm_G g mX2_carry X 95 [some (.ref 122), some (.ref 1), some (.int v2), some (.int v3), some (.int s13.1)] [] (en S s13.2) 0 0
  refine eg_forget [some (.ref 122), some (.ref 1), none, none, none] (show pm_sub _ _ from ⟨rfl, ⟨rfl, trivial⟩⟩) ?_
  exact lj_X2_carry_95 hfl hS h hE
def f_X11_send (v1 : Int32) (v2 : Int32) (m0 : me) : Option ((Int32 ⊕ Nat) × me) :=
  bd (f_X11_isOutside v1 0 7 m0) (fun r1 =>
  if r1.1 = 0 then
    bd (f_X11_isOutside v2 0 7 r1.2) (fun r3 =>
    if r3.1 = 0 then
      if v1 = v2 then
        some ((.inr 1, r3.2))
      else
        bd (f_X9_save r3.2) (fun r6 =>
        bd (f_X2_carry v1 v2 r6) (fun r7 =>
        some ((.inl r7.1, r7.2))))
    else
      some ((.inr 0, r3.2)))
  else
    some ((.inr 0, r1.2)))
set_option maxRecDepth 20000 in
set_option maxHeartbeats 4000000 in
theorem ct_X11_send (hfl : g.1.stackTraces = false) (hS : pS 0 138 S) {v1 : Int32} {v2 : Int32} {m0 : me} {x : ((Int32 ⊕ Nat) × me)} (h : f_X11_send v1 v2 m0 = some x) : pm_Ct g mX11_send [.ref 0, .int v1, .int v2] (en S m0) (kC x) (nC x) (qTI S x) (qX S x) := by
  refine pm_of (by decide +kernel) rfl hfl (Nat.le_of_ble_eq_true rfl) (fun X hE => ?_)
  show pm_G g mX11_send X 0 [some (.ref 0), some (.int v1), some (.int v2)] [] (en S m0) 0 0
  unfold f_X11_send at h
  refine pg_iload_n dX11_send_0 rfl ?_
  refine pg_iconst 0 dX11_send_1 rfl ?_
  refine pg_bipush 7 dX11_send_2 rfl ?_
  obtain ⟨r1, h_r1, h⟩ := bd_at h
  refine eg_cSi (C := mX11_isOutside) (as := [(.int v1), (.int 0), (.int 7)]) dX11_send_4 mw390 cs_X11_isOutside rfl rfl (Nat.le_of_ble_eq_true rfl) rfl ⟨(Nat.le_of_ble_eq_true rfl), (Nat.le_of_ble_eq_true rfl)⟩ (ct_X11_isOutside hfl h_r1) ?_
  refine pg_if_ne 20 dX11_send_7 (by decide) (fun c2 => ?_) (fun c2 => ?_)
  · rw [if_neg c2] at h
    obtain rfl := Option.some.inj h
    exact hE.2.2.2.2.2.1 _ _ _ _ _ _ _ _ _ _ _ th11 rfl rfl dX11_send_20 dX11_send_23 dX11_send_24 dX11_send_26 dX11_send_29 rfl (Nat.le_of_ble_eq_true rfl) (Nat.le_of_ble_eq_true rfl) (Nat.le_of_ble_eq_true rfl) (Nat.le_of_ble_eq_true rfl) ⟨_, rfl, rfl, rfl⟩
  · rw [if_pos c2] at h
    refine pg_iload_n dX11_send_10 rfl ?_
    refine pg_iconst 0 dX11_send_11 rfl ?_
    refine pg_bipush 7 dX11_send_12 rfl ?_
    obtain ⟨r3, h_r3, h⟩ := bd_at h
    refine eg_cSi (C := mX11_isOutside) (as := [(.int v2), (.int 0), (.int 7)]) dX11_send_14 mw390 cs_X11_isOutside rfl rfl (Nat.le_of_ble_eq_true rfl) rfl ⟨(Nat.le_of_ble_eq_true rfl), (Nat.le_of_ble_eq_true rfl)⟩ (ct_X11_isOutside hfl h_r3) ?_
    refine pg_if_eq 30 dX11_send_17 (by decide) (fun c4 => ?_) (fun c4 => ?_)
    · rw [if_pos c4] at h
      refine pg_iload_n dX11_send_30 rfl ?_
      refine pg_iload_n dX11_send_31 rfl ?_
      refine pg_icmp_ne 45 dX11_send_32 (by decide) (fun c5 => ?_) (fun c5 => ?_)
      · rw [if_neg c5] at h
        refine pg_aload_n dX11_send_45 rfl ?_
        refine eg_get dX11_send_46 fa_X11_23 hS sp0 (Nat.le_of_ble_eq_true rfl) (Nat.le_of_ble_eq_true rfl) rfl rfl ?_
        refine pg_aload_n dX11_send_49 rfl ?_
        refine eg_get dX11_send_50 fa_X11_12 hS sp0 (Nat.le_of_ble_eq_true rfl) (Nat.le_of_ble_eq_true rfl) rfl rfl ?_
        obtain ⟨r6, h_r6, h⟩ := bd_at h
        refine eg_cVv (C := mX9_save) (as := [(.ref 1)]) dX11_send_53 mw213 cv_X9_save hS sp28 (Nat.le_of_ble_eq_true rfl) (Nat.le_of_ble_eq_true rfl) rfl rfl rfl (Nat.le_of_ble_eq_true rfl) rfl ⟨(Nat.le_of_ble_eq_true rfl), (Nat.le_of_ble_eq_true rfl)⟩ (ct_X9_save hfl (hS.sub (Nat.le_of_ble_eq_true rfl) (Nat.le_of_ble_eq_true rfl)) h_r6) ?_
        refine pg_aload_n dX11_send_56 rfl ?_
        refine eg_get dX11_send_57 fa_X11_51 hS sp0 (Nat.le_of_ble_eq_true rfl) (Nat.le_of_ble_eq_true rfl) rfl rfl ?_
        refine pg_aload_n dX11_send_60 rfl ?_
        refine eg_get dX11_send_61 fa_X11_12 hS sp0 (Nat.le_of_ble_eq_true rfl) (Nat.le_of_ble_eq_true rfl) rfl rfl ?_
        refine pg_iload_n dX11_send_64 rfl ?_
        refine pg_iload_n dX11_send_65 rfl ?_
        obtain ⟨r7, h_r7, h⟩ := bd_at h
        refine eg_cVi (C := mX2_carry) (as := [(.ref 1), (.int v1), (.int v2)]) dX11_send_66 mw694 cv_X2_carry hS sp122 (Nat.le_of_ble_eq_true rfl) (Nat.le_of_ble_eq_true rfl) rfl rfl rfl (Nat.le_of_ble_eq_true rfl) rfl ⟨(Nat.le_of_ble_eq_true rfl), (Nat.le_of_ble_eq_true rfl)⟩ (ct_X2_carry hfl (hS.sub (Nat.le_of_ble_eq_true rfl) (Nat.le_of_ble_eq_true rfl)) h_r7) ?_
        obtain rfl := Option.some.inj h
        exact hE.2.1 _ _ _ _ _ _ .int dX11_send_69 rfl rfl (Nat.zero_le _) (Nat.zero_le _) ⟨_, rfl, rfl, rfl⟩
      · rw [if_pos c5] at h
        obtain rfl := Option.some.inj h
        exact hE.2.2.2.2.2.1 _ _ _ _ _ _ _ _ _ _ _ th12 rfl rfl dX11_send_35 dX11_send_38 dX11_send_39 dX11_send_41 dX11_send_44 rfl (Nat.le_of_ble_eq_true rfl) (Nat.le_of_ble_eq_true rfl) (Nat.le_of_ble_eq_true rfl) (Nat.le_of_ble_eq_true rfl) ⟨_, rfl, rfl, rfl⟩
    · rw [if_neg c4] at h
      obtain rfl := Option.some.inj h
      exact hE.2.2.2.2.2.1 _ _ _ _ _ _ _ _ _ _ _ th11 rfl rfl dX11_send_20 dX11_send_23 dX11_send_24 dX11_send_26 dX11_send_29 rfl (Nat.le_of_ble_eq_true rfl) (Nat.le_of_ble_eq_true rfl) (Nat.le_of_ble_eq_true rfl) (Nat.le_of_ble_eq_true rfl) ⟨_, rfl, rfl, rfl⟩
def f_X7_isFull (m0 : me) : Option (Int32 × me) :=
  if (m0.1 111 0) < 120 then
    some ((0, m0))
  else
    some ((1, m0))
set_option maxRecDepth 20000 in
set_option maxHeartbeats 4000000 in
theorem ct_X7_isFull (hfl : g.1.stackTraces = false) (hS : pS 0 138 S) {m0 : me} {x : (Int32 × me)} (h : f_X7_isFull m0 = some x) : pm_Ct g mX7_isFull [.ref 111] (en S m0) 0 0 (qI S x) qF := by
  refine pm_of (by decide +kernel) rfl hfl (Nat.le_of_ble_eq_true rfl) (fun X hE => ?_)
  show pm_G g mX7_isFull X 0 [some (.ref 111)] [] (en S m0) 0 0
  unfold f_X7_isFull at h
  refine pg_aload_n dX7_isFull_0 rfl ?_
  refine eg_get dX7_isFull_1 fa_X7_18 hS sp111 (Nat.le_of_ble_eq_true rfl) (Nat.le_of_ble_eq_true rfl) rfl rfl ?_
  refine pg_bipush 120 dX7_isFull_4 rfl ?_
  refine pg_icmp_lt 13 dX7_isFull_6 (by decide) (fun c1 => ?_) (fun c1 => ?_)
  · rw [if_pos c1] at h
    refine pg_iconst 0 dX7_isFull_13 rfl ?_
    obtain rfl := Option.some.inj h
    exact hE.2.1 _ _ _ _ _ _ .boolean dX7_isFull_14 rfl rfl (Nat.zero_le _) (Nat.zero_le _) ⟨rfl, rfl⟩
  · rw [if_neg c1] at h
    refine pg_iconst 1 dX7_isFull_9 rfl ?_
    refine pg_goto 14 dX7_isFull_10 (by decide) ?_
    obtain rfl := Option.some.inj h
    exact hE.2.1 _ _ _ _ _ _ .boolean dX7_isFull_14 rfl rfl (Nat.zero_le _) (Nat.zero_le _) ⟨rfl, rfl⟩
def f_X7_append (v1 : Int32) (m0 : me) : Option (Int32 × me) :=
  bd (f_X7_isFull m0) (fun r1 =>
  if r1.1 = 0 then
    gd (inR (r1.2.1 111 0) 120) (
    lt (wI r1.2 113 ((r1.2.1 111 0).toNatClampNeg) v1) (fun m3 =>
    lt (wI m3 111 0 ((m3.1 111 0) + 1)) (fun m4 =>
    some ((m4.1 111 0, m4)))))
  else
    some ((r1.2.1 111 0, r1.2)))
set_option maxRecDepth 20000 in
set_option maxHeartbeats 4000000 in
theorem ct_X7_append (hfl : g.1.stackTraces = false) (hS : pS 0 138 S) {v1 : Int32} {m0 : me} {x : (Int32 × me)} (h : f_X7_append v1 m0 = some x) : pm_Ct g mX7_append [.ref 111, .int v1] (en S m0) 0 0 (qI S x) qF := by
  refine pm_of (by decide +kernel) rfl hfl (Nat.le_of_ble_eq_true rfl) (fun X hE => ?_)
  show pm_G g mX7_append X 0 [some (.ref 111), some (.int v1)] [] (en S m0) 0 0
  unfold f_X7_append at h
  refine pg_aload_n dX7_append_0 rfl ?_
  obtain ⟨r1, h_r1, h⟩ := bd_at h
  refine eg_cVi (C := mX7_isFull) (as := []) dX7_append_1 mw760 cv_X7_isFull hS sp111 (Nat.le_of_ble_eq_true rfl) (Nat.le_of_ble_eq_true rfl) rfl rfl rfl (Nat.le_of_ble_eq_true rfl) rfl ⟨(Nat.le_of_ble_eq_true rfl), (Nat.le_of_ble_eq_true rfl)⟩ (ct_X7_isFull hfl (hS.sub (Nat.le_of_ble_eq_true rfl) (Nat.le_of_ble_eq_true rfl)) h_r1) ?_
  refine pg_if_ne 27 dX7_append_4 (by decide) (fun c2 => ?_) (fun c2 => ?_)
  · rw [if_neg c2] at h
    refine pg_aload_n dX7_append_27 rfl ?_
    refine eg_get dX7_append_28 fa_X7_18 hS sp111 (Nat.le_of_ble_eq_true rfl) (Nat.le_of_ble_eq_true rfl) rfl rfl ?_
    obtain rfl := Option.some.inj h
    exact hE.2.1 _ _ _ _ _ _ .int dX7_append_31 rfl rfl (Nat.zero_le _) (Nat.zero_le _) ⟨rfl, rfl⟩
  · rw [if_pos c2] at h
    refine pg_aload_n dX7_append_7 rfl ?_
    refine eg_get dX7_append_8 fa_X7_15 hS sp111 (Nat.le_of_ble_eq_true rfl) (Nat.le_of_ble_eq_true rfl) rfl rfl ?_
    refine pg_aload_n dX7_append_11 rfl ?_
    refine eg_get dX7_append_12 fa_X7_18 hS sp111 (Nat.le_of_ble_eq_true rfl) (Nat.le_of_ble_eq_true rfl) rfl rfl ?_
    refine pg_iload_n dX7_append_15 rfl ?_
    obtain ⟨g1, h⟩ := gd_at h
    refine eg_iastJ ((r1.2.1 111 0).toNatClampNeg) dX7_append_16 hS sp113 (Nat.le_of_ble_eq_true rfl) (Nat.le_of_ble_eq_true rfl) (fun _ _ _ => rfl) (inR_vp g1) rfl (fun m3 e_m3 => ?_)
    replace h := lt_at h e_m3
    refine pg_aload_n dX7_append_17 rfl ?_
    refine pg_dup dX7_append_18 rfl ?_
    refine eg_get dX7_append_19 fa_X7_18 hS sp111 (Nat.le_of_ble_eq_true rfl) (Nat.le_of_ble_eq_true rfl) rfl rfl ?_
    refine pg_iconst 1 dX7_append_22 rfl ?_
    refine pg_iadd dX7_append_23 ?_
    refine eg_put dX7_append_24 fa_X7_18 hS sp111 (Nat.le_of_ble_eq_true rfl) (Nat.le_of_ble_eq_true rfl) rfl (Nat.le_of_ble_eq_true rfl) rfl (fun m4 e_m4 => ?_)
    replace h := lt_at h e_m4
    refine pg_aload_n dX7_append_27 rfl ?_
    refine eg_get dX7_append_28 fa_X7_18 hS sp111 (Nat.le_of_ble_eq_true rfl) (Nat.le_of_ble_eq_true rfl) rfl rfl ?_
    obtain rfl := Option.some.inj h
    exact hE.2.1 _ _ _ _ _ _ .int dX7_append_31 rfl rfl (Nat.zero_le _) (Nat.zero_le _) ⟨rfl, rfl⟩
def f_X11_type (v1 : Int32) (m0 : me) : Option ((Int32 ⊕ Nat) × me) :=
  bd (f_X11_isOutside v1 0 127 m0) (fun r1 =>
  if r1.1 = 0 then
    bd (f_X7_isFull r1.2) (fun r3 =>
    if r3.1 = 0 then
      bd (f_X7_append v1 r3.2) (fun r5 =>
      some ((.inl r5.1, r5.2)))
    else
      some ((.inr 2, r3.2)))
  else
    some ((.inr 1, r1.2)))
set_option maxRecDepth 20000 in
set_option maxHeartbeats 4000000 in
theorem ct_X11_type (hfl : g.1.stackTraces = false) (hS : pS 0 138 S) {v1 : Int32} {m0 : me} {x : ((Int32 ⊕ Nat) × me)} (h : f_X11_type v1 m0 = some x) : pm_Ct g mX11_type [.ref 0, .int v1] (en S m0) (kC x) (nC x) (qTI S x) (qX S x) := by
  refine pm_of (by decide +kernel) rfl hfl (Nat.le_of_ble_eq_true rfl) (fun X hE => ?_)
  show pm_G g mX11_type X 0 [some (.ref 0), some (.int v1)] [] (en S m0) 0 0
  unfold f_X11_type at h
  refine pg_iload_n dX11_type_0 rfl ?_
  refine pg_iconst 0 dX11_type_1 rfl ?_
  refine pg_bipush 127 dX11_type_2 rfl ?_
  obtain ⟨r1, h_r1, h⟩ := bd_at h
  refine eg_cSi (C := mX11_isOutside) (as := [(.int v1), (.int 0), (.int 127)]) dX11_type_4 mw390 cs_X11_isOutside rfl rfl (Nat.le_of_ble_eq_true rfl) rfl ⟨(Nat.le_of_ble_eq_true rfl), (Nat.le_of_ble_eq_true rfl)⟩ (ct_X11_isOutside hfl h_r1) ?_
  refine pg_if_eq 20 dX11_type_7 (by decide) (fun c2 => ?_) (fun c2 => ?_)
  · rw [if_pos c2] at h
    refine pg_aload_n dX11_type_20 rfl ?_
    refine eg_get dX11_type_21 fa_X11_30 hS sp0 (Nat.le_of_ble_eq_true rfl) (Nat.le_of_ble_eq_true rfl) rfl rfl ?_
    obtain ⟨r3, h_r3, h⟩ := bd_at h
    refine eg_cVi (C := mX7_isFull) (as := []) dX11_type_24 mw750 cv_X7_isFull hS sp111 (Nat.le_of_ble_eq_true rfl) (Nat.le_of_ble_eq_true rfl) rfl rfl rfl (Nat.le_of_ble_eq_true rfl) rfl ⟨(Nat.le_of_ble_eq_true rfl), (Nat.le_of_ble_eq_true rfl)⟩ (ct_X7_isFull hfl (hS.sub (Nat.le_of_ble_eq_true rfl) (Nat.le_of_ble_eq_true rfl)) h_r3) ?_
    refine pg_if_eq 41 dX11_type_27 (by decide) (fun c4 => ?_) (fun c4 => ?_)
    · rw [if_pos c4] at h
      refine pg_aload_n dX11_type_41 rfl ?_
      refine eg_get dX11_type_42 fa_X11_30 hS sp0 (Nat.le_of_ble_eq_true rfl) (Nat.le_of_ble_eq_true rfl) rfl rfl ?_
      refine pg_iload_n dX11_type_45 rfl ?_
      obtain ⟨r5, h_r5, h⟩ := bd_at h
      refine eg_cVi (C := mX7_append) (as := [(.int v1)]) dX11_type_46 mw755 cv_X7_append hS sp111 (Nat.le_of_ble_eq_true rfl) (Nat.le_of_ble_eq_true rfl) rfl rfl rfl (Nat.le_of_ble_eq_true rfl) rfl ⟨(Nat.le_of_ble_eq_true rfl), (Nat.le_of_ble_eq_true rfl)⟩ (ct_X7_append hfl (hS.sub (Nat.le_of_ble_eq_true rfl) (Nat.le_of_ble_eq_true rfl)) h_r5) ?_
      obtain rfl := Option.some.inj h
      exact hE.2.1 _ _ _ _ _ _ .int dX11_type_49 rfl rfl (Nat.zero_le _) (Nat.zero_le _) ⟨_, rfl, rfl, rfl⟩
    · rw [if_neg c4] at h
      obtain rfl := Option.some.inj h
      exact hE.2.2.2.2.2.2 _ _ _ _ _ _ _ _ _ _ _ th13 rfl rfl dX11_type_30 dX11_type_33 dX11_type_34 dX11_type_37 dX11_type_40 rfl (Nat.le_of_ble_eq_true rfl) (Nat.le_of_ble_eq_true rfl) (Nat.le_of_ble_eq_true rfl) (Nat.le_of_ble_eq_true rfl) ⟨_, rfl, rfl, rfl⟩
  · rw [if_neg c2] at h
    obtain rfl := Option.some.inj h
    exact hE.2.2.2.2.2.1 _ _ _ _ _ _ _ _ _ _ _ th14 rfl rfl dX11_type_10 dX11_type_13 dX11_type_14 dX11_type_16 dX11_type_19 rfl (Nat.le_of_ble_eq_true rfl) (Nat.le_of_ble_eq_true rfl) (Nat.le_of_ble_eq_true rfl) (Nat.le_of_ble_eq_true rfl) ⟨_, rfl, rfl, rfl⟩
def f_X1_copyFrom_2_31 (m0 : me) : Option me :=
  lt (cp m0 32 3 0 0 8) (fun m1 =>
  lt (cp m1 33 4 0 0 8) (fun m2 =>
  lt (cp m2 34 5 0 0 8) (fun m3 =>
  lt (cp m3 35 6 0 0 8) (fun m4 =>
  lt (cp m4 36 7 0 0 8) (fun m5 =>
  lt (cp m5 37 8 0 0 8) (fun m6 =>
  lt (cp m6 38 9 0 0 64) (fun m7 =>
  lt (cp m7 39 10 0 0 64) (fun m8 =>
  some (m8)))))))))
set_option maxRecDepth 20000 in
set_option maxHeartbeats 4000000 in
theorem ct_X1_copyFrom_2_31 (hfl : g.1.stackTraces = false) (hS : pS 0 138 S) {m0 : me} {x : me} (h : f_X1_copyFrom_2_31 m0 = some x) : pm_Ct g mX1_copyFrom [.ref 2, .ref 31] (en S m0) 0 0 (qV S x) qF := by
  refine pm_of (by decide +kernel) rfl hfl (Nat.le_of_ble_eq_true rfl) (fun X hE => ?_)
  show pm_G g mX1_copyFrom X 0 [some (.ref 2), some (.ref 31)] [] (en S m0) 0 0
  unfold f_X1_copyFrom_2_31 at h
  refine pg_aload_n dX1_copyFrom_0 rfl ?_
  refine eg_get dX1_copyFrom_1 fa_X1_9 hS sp31 (Nat.le_of_ble_eq_true rfl) (Nat.le_of_ble_eq_true rfl) rfl rfl ?_
  refine pg_iconst 0 dX1_copyFrom_4 rfl ?_
  refine pg_aload_n dX1_copyFrom_5 rfl ?_
  refine eg_get dX1_copyFrom_6 fa_X1_9 hS sp2 (Nat.le_of_ble_eq_true rfl) (Nat.le_of_ble_eq_true rfl) rfl rfl ?_
  refine pg_iconst 0 dX1_copyFrom_9 rfl ?_
  refine pg_bipush 8 dX1_copyFrom_10 rfl ?_
  refine eg_copyI (n9 := 8) dX1_copyFrom_12 mw306 mw308 mw307 mw309 hS sp32 (Nat.le_of_ble_eq_true rfl) (Nat.le_of_ble_eq_true rfl) rfl sp3 (Nat.le_of_ble_eq_true rfl) (Nat.le_of_ble_eq_true rfl) (fun _ _ _ => rfl) (by decide) rfl (Nat.le_of_ble_eq_true rfl) (Nat.le_of_ble_eq_true rfl) rfl (Nat.le_of_ble_eq_true rfl) (Nat.le_of_ble_eq_true rfl) (fun m1 e_m1 => ?_)
  replace h := lt_at h e_m1
  refine pg_aload_n dX1_copyFrom_15 rfl ?_
  refine eg_get dX1_copyFrom_16 fa_X1_15 hS sp31 (Nat.le_of_ble_eq_true rfl) (Nat.le_of_ble_eq_true rfl) rfl rfl ?_
  refine pg_iconst 0 dX1_copyFrom_19 rfl ?_
  refine pg_aload_n dX1_copyFrom_20 rfl ?_
  refine eg_get dX1_copyFrom_21 fa_X1_15 hS sp2 (Nat.le_of_ble_eq_true rfl) (Nat.le_of_ble_eq_true rfl) rfl rfl ?_
  refine pg_iconst 0 dX1_copyFrom_24 rfl ?_
  refine pg_bipush 8 dX1_copyFrom_25 rfl ?_
  refine eg_copyI (n9 := 8) dX1_copyFrom_27 mw306 mw308 mw307 mw309 hS sp33 (Nat.le_of_ble_eq_true rfl) (Nat.le_of_ble_eq_true rfl) rfl sp4 (Nat.le_of_ble_eq_true rfl) (Nat.le_of_ble_eq_true rfl) (fun _ _ _ => rfl) (by decide) rfl (Nat.le_of_ble_eq_true rfl) (Nat.le_of_ble_eq_true rfl) rfl (Nat.le_of_ble_eq_true rfl) (Nat.le_of_ble_eq_true rfl) (fun m2 e_m2 => ?_)
  replace h := lt_at h e_m2
  refine pg_aload_n dX1_copyFrom_30 rfl ?_
  refine eg_get dX1_copyFrom_31 fa_X1_18 hS sp31 (Nat.le_of_ble_eq_true rfl) (Nat.le_of_ble_eq_true rfl) rfl rfl ?_
  refine pg_iconst 0 dX1_copyFrom_34 rfl ?_
  refine pg_aload_n dX1_copyFrom_35 rfl ?_
  refine eg_get dX1_copyFrom_36 fa_X1_18 hS sp2 (Nat.le_of_ble_eq_true rfl) (Nat.le_of_ble_eq_true rfl) rfl rfl ?_
  refine pg_iconst 0 dX1_copyFrom_39 rfl ?_
  refine pg_bipush 8 dX1_copyFrom_40 rfl ?_
  refine eg_copyI (n9 := 8) dX1_copyFrom_42 mw306 mw308 mw307 mw309 hS sp34 (Nat.le_of_ble_eq_true rfl) (Nat.le_of_ble_eq_true rfl) rfl sp5 (Nat.le_of_ble_eq_true rfl) (Nat.le_of_ble_eq_true rfl) (fun _ _ _ => rfl) (by decide) rfl (Nat.le_of_ble_eq_true rfl) (Nat.le_of_ble_eq_true rfl) rfl (Nat.le_of_ble_eq_true rfl) (Nat.le_of_ble_eq_true rfl) (fun m3 e_m3 => ?_)
  replace h := lt_at h e_m3
  refine pg_aload_n dX1_copyFrom_45 rfl ?_
  refine eg_get dX1_copyFrom_46 fa_X1_21 hS sp31 (Nat.le_of_ble_eq_true rfl) (Nat.le_of_ble_eq_true rfl) rfl rfl ?_
  refine pg_iconst 0 dX1_copyFrom_49 rfl ?_
  refine pg_aload_n dX1_copyFrom_50 rfl ?_
  refine eg_get dX1_copyFrom_51 fa_X1_21 hS sp2 (Nat.le_of_ble_eq_true rfl) (Nat.le_of_ble_eq_true rfl) rfl rfl ?_
  refine pg_iconst 0 dX1_copyFrom_54 rfl ?_
  refine pg_bipush 8 dX1_copyFrom_55 rfl ?_
  refine eg_copyI (n9 := 8) dX1_copyFrom_57 mw306 mw308 mw307 mw309 hS sp35 (Nat.le_of_ble_eq_true rfl) (Nat.le_of_ble_eq_true rfl) rfl sp6 (Nat.le_of_ble_eq_true rfl) (Nat.le_of_ble_eq_true rfl) (fun _ _ _ => rfl) (by decide) rfl (Nat.le_of_ble_eq_true rfl) (Nat.le_of_ble_eq_true rfl) rfl (Nat.le_of_ble_eq_true rfl) (Nat.le_of_ble_eq_true rfl) (fun m4 e_m4 => ?_)
  replace h := lt_at h e_m4
  refine pg_aload_n dX1_copyFrom_60 rfl ?_
  refine eg_get dX1_copyFrom_61 fa_X1_24 hS sp31 (Nat.le_of_ble_eq_true rfl) (Nat.le_of_ble_eq_true rfl) rfl rfl ?_
  refine pg_iconst 0 dX1_copyFrom_64 rfl ?_
  refine pg_aload_n dX1_copyFrom_65 rfl ?_
  refine eg_get dX1_copyFrom_66 fa_X1_24 hS sp2 (Nat.le_of_ble_eq_true rfl) (Nat.le_of_ble_eq_true rfl) rfl rfl ?_
  refine pg_iconst 0 dX1_copyFrom_69 rfl ?_
  refine pg_bipush 8 dX1_copyFrom_70 rfl ?_
  refine eg_copyI (n9 := 8) dX1_copyFrom_72 mw306 mw308 mw307 mw309 hS sp36 (Nat.le_of_ble_eq_true rfl) (Nat.le_of_ble_eq_true rfl) rfl sp7 (Nat.le_of_ble_eq_true rfl) (Nat.le_of_ble_eq_true rfl) (fun _ _ _ => rfl) (by decide) rfl (Nat.le_of_ble_eq_true rfl) (Nat.le_of_ble_eq_true rfl) rfl (Nat.le_of_ble_eq_true rfl) (Nat.le_of_ble_eq_true rfl) (fun m5 e_m5 => ?_)
  replace h := lt_at h e_m5
  refine pg_aload_n dX1_copyFrom_75 rfl ?_
  refine eg_get dX1_copyFrom_76 fa_X1_27 hS sp31 (Nat.le_of_ble_eq_true rfl) (Nat.le_of_ble_eq_true rfl) rfl rfl ?_
  refine pg_iconst 0 dX1_copyFrom_79 rfl ?_
  refine pg_aload_n dX1_copyFrom_80 rfl ?_
  refine eg_get dX1_copyFrom_81 fa_X1_27 hS sp2 (Nat.le_of_ble_eq_true rfl) (Nat.le_of_ble_eq_true rfl) rfl rfl ?_
  refine pg_iconst 0 dX1_copyFrom_84 rfl ?_
  refine pg_bipush 8 dX1_copyFrom_85 rfl ?_
  refine eg_copyI (n9 := 8) dX1_copyFrom_87 mw306 mw308 mw307 mw309 hS sp37 (Nat.le_of_ble_eq_true rfl) (Nat.le_of_ble_eq_true rfl) rfl sp8 (Nat.le_of_ble_eq_true rfl) (Nat.le_of_ble_eq_true rfl) (fun _ _ _ => rfl) (by decide) rfl (Nat.le_of_ble_eq_true rfl) (Nat.le_of_ble_eq_true rfl) rfl (Nat.le_of_ble_eq_true rfl) (Nat.le_of_ble_eq_true rfl) (fun m6 e_m6 => ?_)
  replace h := lt_at h e_m6
  refine pg_aload_n dX1_copyFrom_90 rfl ?_
  refine eg_get dX1_copyFrom_91 fa_X1_30 hS sp31 (Nat.le_of_ble_eq_true rfl) (Nat.le_of_ble_eq_true rfl) rfl rfl ?_
  refine pg_iconst 0 dX1_copyFrom_94 rfl ?_
  refine pg_aload_n dX1_copyFrom_95 rfl ?_
  refine eg_get dX1_copyFrom_96 fa_X1_30 hS sp2 (Nat.le_of_ble_eq_true rfl) (Nat.le_of_ble_eq_true rfl) rfl rfl ?_
  refine pg_iconst 0 dX1_copyFrom_99 rfl ?_
  refine pg_bipush 64 dX1_copyFrom_100 rfl ?_
  refine eg_copyI (n9 := 64) dX1_copyFrom_102 mw306 mw308 mw307 mw309 hS sp38 (Nat.le_of_ble_eq_true rfl) (Nat.le_of_ble_eq_true rfl) rfl sp9 (Nat.le_of_ble_eq_true rfl) (Nat.le_of_ble_eq_true rfl) (fun _ _ _ => rfl) (by decide) rfl (Nat.le_of_ble_eq_true rfl) (Nat.le_of_ble_eq_true rfl) rfl (Nat.le_of_ble_eq_true rfl) (Nat.le_of_ble_eq_true rfl) (fun m7 e_m7 => ?_)
  replace h := lt_at h e_m7
  refine pg_aload_n dX1_copyFrom_105 rfl ?_
  refine eg_get dX1_copyFrom_106 fa_X1_33 hS sp31 (Nat.le_of_ble_eq_true rfl) (Nat.le_of_ble_eq_true rfl) rfl rfl ?_
  refine pg_iconst 0 dX1_copyFrom_109 rfl ?_
  refine pg_aload_n dX1_copyFrom_110 rfl ?_
  refine eg_get dX1_copyFrom_111 fa_X1_33 hS sp2 (Nat.le_of_ble_eq_true rfl) (Nat.le_of_ble_eq_true rfl) rfl rfl ?_
  refine pg_iconst 0 dX1_copyFrom_114 rfl ?_
  refine pg_bipush 64 dX1_copyFrom_115 rfl ?_
  refine eg_copyI (n9 := 64) dX1_copyFrom_117 mw306 mw308 mw307 mw309 hS sp39 (Nat.le_of_ble_eq_true rfl) (Nat.le_of_ble_eq_true rfl) rfl sp10 (Nat.le_of_ble_eq_true rfl) (Nat.le_of_ble_eq_true rfl) (fun _ _ _ => rfl) (by decide) rfl (Nat.le_of_ble_eq_true rfl) (Nat.le_of_ble_eq_true rfl) rfl (Nat.le_of_ble_eq_true rfl) (Nat.le_of_ble_eq_true rfl) (fun m8 e_m8 => ?_)
  replace h := lt_at h e_m8
  obtain rfl := Option.some.inj h
  exact hE.2.2.1 _ _ _ _ _ dX1_copyFrom_120 rfl (Nat.zero_le _) (Nat.zero_le _) ⟨rfl, rfl⟩
end
