section
variable {g : pm_Gl} {X : pm_X} {S : List sF}
def b_X12_isCommand_7 (v1 : Int32) (s : Int32 × me) : Option ((Int32 × me) ⊕ (Int32 × me)) :=
  bd (f_X12_isIn 97 122 s.2) (fun r2 =>
  if r2.1 = 0 then
    some (.inr (s.1, r2.2))
  else
    gd (inR (r2.2.1 128 11) 120) (
    lt ((s.1 <<< (8 &&& 31)) ||| (r2.2.1 132 ((r2.2.1 128 11).toNatClampNeg))) (fun w4 =>
    lt (wI r2.2 128 11 ((r2.2.1 128 11) + 1)) (fun m5 =>
    some (.inl (w4, m5))))))
def b_X12_isCommand_76 (v1 : Int32) (v2 : Int32) (s : Int32 × me) : Option ((Int32 × me) ⊕ ((Int32 × me) ⊕ (Int32 × me))) :=
  bd (f_X12_numbersOf (s.2.1 128 12) s.2) (fun r10 =>
  if r10.1 ≤ s.1 then
    some (.inr (.inl (s.1, r10.2)))
  else
    lt (r10.2.1 128 11) (fun w12 =>
    bd (f_X12_skips r10.2) (fun r13 =>
    if (r13.1 128 11) = w12 then
      some (.inr (.inr ((0, r13))))
    else
      bd (f_X12_isNumber s.1 r13) (fun r15 =>
      if r15.1 = 0 then
        some (.inr (.inr ((0, r15.2))))
      else
        lt (s.1 + 1) (fun w17 =>
        some (.inl (w17, r15.2)))))))
def f_X12_isCommand (m0 : me) : Option (Int32 × me) :=
  lt (m0.1 128 11) (fun w1 =>
  bd (lo (b_X12_isCommand_7 w1) 2048 (0, m0)) (fun s6 =>
  bd (f_X12_wordOf s6.1 ((s6.2.1 128 11) - w1) s6.2) (fun r7 =>
  lt (wI r7.2 128 12 r7.1) (fun m8 =>
  if (m8.1 128 12) = 0 then
    lt (wI m8 128 11 w1) (fun m25 =>
    some ((0, m25)))
  else
    bd (lo (b_X12_isCommand_76 w1 s6.1) 2048 (0, m8)) (fun s18 =>
    sm s18 (fun s19 =>
      bd (f_X12_skips s19.2) (fun r21 =>
      bd (f_X12_isIn 59 59 r21) (fun r22 =>
      if r22.1 = 0 then
        some ((0, r22.2))
      else
        lt (wI r22.2 128 11 ((r22.2.1 128 11) + 1)) (fun m24 =>
        some ((1, m24)))))) (fun x20 => some x20))))))
set_option maxRecDepth 20000 in
set_option maxHeartbeats 4000000 in
theorem lb_X12_isCommand_7 (hfl : g.1.stackTraces = false) (hS : pS 128 137 S) {v1 : Int32} {s : Int32 × me} {r : (Int32 × me) ⊕ (Int32 × me)} (h : b_X12_isCommand_7 v1 s = some r) (hN : ∀ s', r = .inl s' → (fun z9 : Int32 × me => pm_G g mX12_isCommand X 7 [some (.ref 128), some (.int v1), some (.int z9.1), none, none] [] (en S z9.2) 0 0) s') (hT : ∀ t, r = .inr t → (fun z9 : Int32 × me => pm_G g mX12_isCommand X 46 [some (.ref 128), some (.int v1), some (.int z9.1), none, none] [] (en S z9.2) 0 0) t) : (fun z9 : Int32 × me => pm_G g mX12_isCommand X 7 [some (.ref 128), some (.int v1), some (.int z9.1), none, none] [] (en S z9.2) 0 0) s := by
  unfold b_X12_isCommand_7 at h
  show pm_G g mX12_isCommand X 7 [some (.ref 128), some (.int v1), some (.int s.1), none, none] [] (en S s.2) 0 0
  refine pg_aload_n dX12_isCommand_7 rfl ?_
  refine pg_bipush 97 dX12_isCommand_8 rfl ?_
  refine pg_bipush 122 dX12_isCommand_10 rfl ?_
  obtain ⟨r2, h_r2, h⟩ := bd_at h
  refine eg_cVi (C := mX12_isIn) (as := [(.int 97), (.int 122)]) dX12_isCommand_12 mw1044 cv_X12_isIn hS sp128 (Nat.le_of_ble_eq_true rfl) (Nat.le_of_ble_eq_true rfl) rfl rfl rfl (Nat.le_of_ble_eq_true rfl) rfl ⟨(Nat.le_of_ble_eq_true rfl), (Nat.le_of_ble_eq_true rfl)⟩ (ct_X12_isIn hfl (hS.sub (Nat.le_of_ble_eq_true rfl) (Nat.le_of_ble_eq_true rfl)) h_r2) ?_
  refine pg_if_eq 46 dX12_isCommand_15 (by decide) (fun c3 => ?_) (fun c3 => ?_)
  · rw [if_pos c3] at h
    obtain rfl := Option.some.inj h
    exact hT _ rfl
  · rw [if_neg c3] at h
    refine pg_iload_n dX12_isCommand_18 rfl ?_
    refine pg_bipush 8 dX12_isCommand_19 rfl ?_
    refine pg_ishl dX12_isCommand_21 ?_
    refine pg_aload_n dX12_isCommand_22 rfl ?_
    refine eg_get dX12_isCommand_23 fa_X12_19 hS sp128 (Nat.le_of_ble_eq_true rfl) (Nat.le_of_ble_eq_true rfl) rfl rfl ?_
    refine pg_aload_n dX12_isCommand_26 rfl ?_
    refine eg_get dX12_isCommand_27 fa_X12_205 hS sp128 (Nat.le_of_ble_eq_true rfl) (Nat.le_of_ble_eq_true rfl) rfl rfl ?_
    obtain ⟨g1, h⟩ := gd_at h
    refine eg_ialdJ ((r2.2.1 128 11).toNatClampNeg) dX12_isCommand_30 hS sp132 (Nat.le_of_ble_eq_true rfl) (Nat.le_of_ble_eq_true rfl) rfl (inR_vp g1) rfl ?_
    refine pg_ior dX12_isCommand_31 ?_
    obtain ⟨w4, e_w4⟩ : ∃ z : Int32, z = (s.1 <<< (8 &&& 31)) ||| (r2.2.1 132 ((r2.2.1 128 11).toNatClampNeg)) := ⟨_, rfl⟩
    replace h := lt_at h e_w4
    refine eg_istore_n [some (.ref 128), some (.int v1), some (.int w4), none, none] w4 dX12_isCommand_32 e_w4 (Nat.le_of_ble_eq_true rfl) rfl ?_
    refine pg_aload_n dX12_isCommand_33 rfl ?_
    refine pg_dup dX12_isCommand_34 rfl ?_
    refine eg_get dX12_isCommand_35 fa_X12_205 hS sp128 (Nat.le_of_ble_eq_true rfl) (Nat.le_of_ble_eq_true rfl) rfl rfl ?_
    refine pg_iconst 1 dX12_isCommand_38 rfl ?_
    refine pg_iadd dX12_isCommand_39 ?_
    refine eg_put dX12_isCommand_40 fa_X12_205 hS sp128 (Nat.le_of_ble_eq_true rfl) (Nat.le_of_ble_eq_true rfl) rfl (Nat.le_of_ble_eq_true rfl) rfl (fun m5 e_m5 => ?_)
    replace h := lt_at h e_m5
    refine pg_goto 7 dX12_isCommand_43 (by decide) ?_
    obtain rfl := Option.some.inj h
    exact hN _ rfl
set_option maxRecDepth 20000 in
set_option maxHeartbeats 4000000 in
theorem lb_X12_isCommand_76 (hfl : g.1.stackTraces = false) (hS : pS 128 137 S) {v1 : Int32} {v2 : Int32} {s : Int32 × me} {r : (Int32 × me) ⊕ ((Int32 × me) ⊕ (Int32 × me))} (h : b_X12_isCommand_76 v1 v2 s = some r) (hN : ∀ s', r = .inl s' → (fun z9 : Int32 × me => pm_G g mX12_isCommand X 76 [some (.ref 128), some (.int v1), some (.int v2), some (.int z9.1), none] [] (en S z9.2) 0 0) s') (hT : ∀ t, r = .inr t → (fun z8 : ((Int32 × me) ⊕ (Int32 × me)) => (∀ z9, z8 = .inl z9 → pm_G g mX12_isCommand X 122 [some (.ref 128), some (.int v1), some (.int v2), some (.int z9.1), none] [] (en S z9.2) 0 0) ∧ (∀ x9, z8 = .inr x9 → pm_End g mX12_isCommand X 0 0 (qI S x9) qF)) t) : (fun z9 : Int32 × me => pm_G g mX12_isCommand X 76 [some (.ref 128), some (.int v1), some (.int v2), some (.int z9.1), none] [] (en S z9.2) 0 0) s := by
  unfold b_X12_isCommand_76 at h
  show pm_G g mX12_isCommand X 76 [some (.ref 128), some (.int v1), some (.int v2), some (.int s.1), none] [] (en S s.2) 0 0
  refine pg_iload_n dX12_isCommand_76 rfl ?_
  refine pg_aload_n dX12_isCommand_77 rfl ?_
  refine eg_get dX12_isCommand_78 fa_X12_221 hS sp128 (Nat.le_of_ble_eq_true rfl) (Nat.le_of_ble_eq_true rfl) rfl rfl ?_
  obtain ⟨r10, h_r10, h⟩ := bd_at h
  refine eg_cSi (C := mX12_numbersOf) (as := [(.int (s.2.1 128 12))]) dX12_isCommand_81 mw1054 cs_X12_numbersOf rfl rfl (Nat.le_of_ble_eq_true rfl) rfl ⟨(Nat.le_of_ble_eq_true rfl), (Nat.le_of_ble_eq_true rfl)⟩ (ct_X12_numbersOf hfl h_r10) ?_
  refine pg_icmp_ge 122 dX12_isCommand_84 (by decide) (fun c11 => ?_) (fun c11 => ?_)
  · rw [if_pos c11] at h
    obtain rfl := Option.some.inj h
    exact (hT _ rfl).1 _ rfl
  · rw [if_neg c11] at h
    refine pg_aload_n dX12_isCommand_87 rfl ?_
    refine eg_get dX12_isCommand_88 fa_X12_205 hS sp128 (Nat.le_of_ble_eq_true rfl) (Nat.le_of_ble_eq_true rfl) rfl rfl ?_
    obtain ⟨w12, e_w12⟩ : ∃ z : Int32, z = r10.2.1 128 11 := ⟨_, rfl⟩
    replace h := lt_at h e_w12
    refine eg_istore [some (.ref 128), some (.int v1), some (.int v2), some (.int s.1), some (.int w12)] w12 dX12_isCommand_91 e_w12 (Nat.le_of_ble_eq_true rfl) rfl ?_
    refine pg_aload_n dX12_isCommand_93 rfl ?_
    obtain ⟨r13, h_r13, h⟩ := bd_at h
    refine eg_cVv (C := mX12_skips) (as := []) dX12_isCommand_94 mw1029 cv_X12_skips hS sp128 (Nat.le_of_ble_eq_true rfl) (Nat.le_of_ble_eq_true rfl) rfl rfl rfl (Nat.le_of_ble_eq_true rfl) rfl ⟨(Nat.le_of_ble_eq_true rfl), (Nat.le_of_ble_eq_true rfl)⟩ (ct_X12_skips hfl (hS.sub (Nat.le_of_ble_eq_true rfl) (Nat.le_of_ble_eq_true rfl)) h_r13) ?_
    refine pg_aload_n dX12_isCommand_97 rfl ?_
    refine eg_get dX12_isCommand_98 fa_X12_205 hS sp128 (Nat.le_of_ble_eq_true rfl) (Nat.le_of_ble_eq_true rfl) rfl rfl ?_
    refine pg_iload dX12_isCommand_101 rfl ?_
    refine pg_icmp_eq 114 dX12_isCommand_103 (by decide) (fun c14 => ?_) (fun c14 => ?_)
    · rw [if_pos c14] at h
      refine pg_iconst 0 dX12_isCommand_114 rfl ?_
      obtain rfl := Option.some.inj h
      exact ((hT _ rfl).2 _ rfl).2.1 _ _ _ _ _ _ .boolean dX12_isCommand_115 rfl rfl (Nat.zero_le _) (Nat.zero_le _) ⟨rfl, rfl⟩
    · rw [if_neg c14] at h
      refine pg_aload_n dX12_isCommand_106 rfl ?_
      refine pg_iload_n dX12_isCommand_107 rfl ?_
      obtain ⟨r15, h_r15, h⟩ := bd_at h
      refine eg_cVi (C := mX12_isNumber) (as := [(.int s.1)]) dX12_isCommand_108 mw1058 cv_X12_isNumber hS sp128 (Nat.le_of_ble_eq_true rfl) (Nat.le_of_ble_eq_true rfl) rfl rfl rfl (Nat.le_of_ble_eq_true rfl) rfl ⟨(Nat.le_of_ble_eq_true rfl), (Nat.le_of_ble_eq_true rfl)⟩ (ct_X12_isNumber hfl (hS.sub (Nat.le_of_ble_eq_true rfl) (Nat.le_of_ble_eq_true rfl)) h_r15) ?_
      refine pg_if_ne 116 dX12_isCommand_111 (by decide) (fun c16 => ?_) (fun c16 => ?_)
      · rw [if_neg c16] at h
        obtain ⟨w17, e_w17⟩ : ∃ z : Int32, z = s.1 + 1 := ⟨_, rfl⟩
        replace h := lt_at h e_w17
        refine eg_iinc [some (.ref 128), some (.int v1), some (.int v2), some (.int w17), some (.int w12)] w17 1 dX12_isCommand_116 rfl rfl e_w17 rfl ?_
        refine pg_goto 76 dX12_isCommand_119 (by decide) ?_
        obtain rfl := Option.some.inj h
        refine eg_forget [some (.ref 128), some (.int v1), some (.int v2), some (.int w17), none] (show pm_sub _ _ from ⟨rfl, ⟨rfl, ⟨rfl, ⟨rfl, trivial⟩⟩⟩⟩) ?_
        exact hN _ rfl
      · rw [if_pos c16] at h
        refine pg_iconst 0 dX12_isCommand_114 rfl ?_
        obtain rfl := Option.some.inj h
        exact ((hT _ rfl).2 _ rfl).2.1 _ _ _ _ _ _ .boolean dX12_isCommand_115 rfl rfl (Nat.zero_le _) (Nat.zero_le _) ⟨rfl, rfl⟩
set_option maxRecDepth 20000 in
set_option maxHeartbeats 4000000 in
theorem ct_X12_isCommand (hfl : g.1.stackTraces = false) (hS : pS 128 137 S) {m0 : me} {x : (Int32 × me)} (h : f_X12_isCommand m0 = some x) : pm_Ct g mX12_isCommand [.ref 128] (en S m0) 0 0 (qI S x) qF := by
  refine pm_of (by decide +kernel) rfl hfl (Nat.le_of_ble_eq_true rfl) (fun X hE => ?_)
  show pm_G g mX12_isCommand X 0 [some (.ref 128), none, none, none, none] [] (en S m0) 0 0
  unfold f_X12_isCommand at h
  refine pg_aload_n dX12_isCommand_0 rfl ?_
  refine eg_get dX12_isCommand_1 fa_X12_205 hS sp128 (Nat.le_of_ble_eq_true rfl) (Nat.le_of_ble_eq_true rfl) rfl rfl ?_
  obtain ⟨w1, e_w1⟩ : ∃ z : Int32, z = m0.1 128 11 := ⟨_, rfl⟩
  replace h := lt_at h e_w1
  refine eg_istore_n [some (.ref 128), some (.int w1), none, none, none] w1 dX12_isCommand_4 e_w1 (Nat.le_of_ble_eq_true rfl) rfl ?_
  refine pg_iconst 0 dX12_isCommand_5 rfl ?_
  refine eg_istore_n [some (.ref 128), some (.int w1), some (.int 0), none, none] 0 dX12_isCommand_6 rfl (Nat.le_of_ble_eq_true rfl) rfl ?_
  obtain ⟨s6, h_s6, h⟩ := bd_at h
  refine lo_at (b := b_X12_isCommand_7 w1) (G := (fun z9 : Int32 × me => pm_G g mX12_isCommand X 7 [some (.ref 128), some (.int w1), some (.int z9.1), none, none] [] (en S z9.2) 0 0)) (T := (fun z9 : Int32 × me => pm_G g mX12_isCommand X 46 [some (.ref 128), some (.int w1), some (.int z9.1), none, none] [] (en S z9.2) 0 0)) (fun q9 r9 h1 h2 h3 => lb_X12_isCommand_7 hfl hS h1 h2 h3) 2048 (0, m0) s6 h_s6 ?_
  show pm_G g mX12_isCommand X 46 [some (.ref 128), some (.int w1), some (.int s6.1), none, none] [] (en S s6.2) 0 0
  refine pg_aload_n dX12_isCommand_46 rfl ?_
  refine pg_iload_n dX12_isCommand_47 rfl ?_
  refine pg_aload_n dX12_isCommand_48 rfl ?_
  refine eg_get dX12_isCommand_49 fa_X12_205 hS sp128 (Nat.le_of_ble_eq_true rfl) (Nat.le_of_ble_eq_true rfl) rfl rfl ?_
  refine pg_iload_n dX12_isCommand_52 rfl ?_
  refine pg_isub dX12_isCommand_53 ?_
  obtain ⟨r7, h_r7, h⟩ := bd_at h
  refine eg_cSi (C := mX12_wordOf) (as := [(.int s6.1), (.int ((s6.2.1 128 11) - w1))]) dX12_isCommand_54 mw1049 cs_X12_wordOf rfl rfl (Nat.le_of_ble_eq_true rfl) rfl ⟨(Nat.le_of_ble_eq_true rfl), (Nat.le_of_ble_eq_true rfl)⟩ (ct_X12_wordOf hfl h_r7) ?_
  refine eg_put dX12_isCommand_57 fa_X12_221 hS sp128 (Nat.le_of_ble_eq_true rfl) (Nat.le_of_ble_eq_true rfl) rfl (Nat.le_of_ble_eq_true rfl) rfl (fun m8 e_m8 => ?_)
  replace h := lt_at h e_m8
  refine pg_aload_n dX12_isCommand_60 rfl ?_
  refine eg_get dX12_isCommand_61 fa_X12_221 hS sp128 (Nat.le_of_ble_eq_true rfl) (Nat.le_of_ble_eq_true rfl) rfl rfl ?_
  refine pg_if_ne 74 dX12_isCommand_64 (by decide) (fun c9 => ?_) (fun c9 => ?_)
  · rw [if_neg c9] at h
    refine pg_iconst 0 dX12_isCommand_74 rfl ?_
    refine eg_istore_n [some (.ref 128), some (.int w1), some (.int s6.1), some (.int 0), none] 0 dX12_isCommand_75 rfl (Nat.le_of_ble_eq_true rfl) rfl ?_
    obtain ⟨s18, h_s18, h⟩ := bd_at h
    refine lo_at (b := b_X12_isCommand_76 w1 s6.1) (G := (fun z9 : Int32 × me => pm_G g mX12_isCommand X 76 [some (.ref 128), some (.int w1), some (.int s6.1), some (.int z9.1), none] [] (en S z9.2) 0 0)) (T := (fun z8 : ((Int32 × me) ⊕ (Int32 × me)) => (∀ z9, z8 = .inl z9 → pm_G g mX12_isCommand X 122 [some (.ref 128), some (.int w1), some (.int s6.1), some (.int z9.1), none] [] (en S z9.2) 0 0) ∧ (∀ x9, z8 = .inr x9 → pm_End g mX12_isCommand X 0 0 (qI S x9) qF))) (fun q9 r9 h1 h2 h3 => lb_X12_isCommand_76 hfl hS h1 h2 h3) 2048 (0, m8) s18 h_s18 ⟨fun s19 k_s19 => ?_, fun x20 k_x20 => ?_⟩
    · rw [k_s19] at h
      replace h := sm_l h
      show pm_G g mX12_isCommand X 122 [some (.ref 128), some (.int w1), some (.int s6.1), some (.int s19.1), none] [] (en S s19.2) 0 0
      refine pg_aload_n dX12_isCommand_122 rfl ?_
      obtain ⟨r21, h_r21, h⟩ := bd_at h
      refine eg_cVv (C := mX12_skips) (as := []) dX12_isCommand_123 mw1029 cv_X12_skips hS sp128 (Nat.le_of_ble_eq_true rfl) (Nat.le_of_ble_eq_true rfl) rfl rfl rfl (Nat.le_of_ble_eq_true rfl) rfl ⟨(Nat.le_of_ble_eq_true rfl), (Nat.le_of_ble_eq_true rfl)⟩ (ct_X12_skips hfl (hS.sub (Nat.le_of_ble_eq_true rfl) (Nat.le_of_ble_eq_true rfl)) h_r21) ?_
      refine pg_aload_n dX12_isCommand_126 rfl ?_
      refine pg_bipush 59 dX12_isCommand_127 rfl ?_
      refine pg_bipush 59 dX12_isCommand_129 rfl ?_
      obtain ⟨r22, h_r22, h⟩ := bd_at h
      refine eg_cVi (C := mX12_isIn) (as := [(.int 59), (.int 59)]) dX12_isCommand_131 mw1044 cv_X12_isIn hS sp128 (Nat.le_of_ble_eq_true rfl) (Nat.le_of_ble_eq_true rfl) rfl rfl rfl (Nat.le_of_ble_eq_true rfl) rfl ⟨(Nat.le_of_ble_eq_true rfl), (Nat.le_of_ble_eq_true rfl)⟩ (ct_X12_isIn hfl (hS.sub (Nat.le_of_ble_eq_true rfl) (Nat.le_of_ble_eq_true rfl)) h_r22) ?_
      refine pg_if_ne 139 dX12_isCommand_134 (by decide) (fun c23 => ?_) (fun c23 => ?_)
      · rw [if_neg c23] at h
        refine pg_aload_n dX12_isCommand_139 rfl ?_
        refine pg_dup dX12_isCommand_140 rfl ?_
        refine eg_get dX12_isCommand_141 fa_X12_205 hS sp128 (Nat.le_of_ble_eq_true rfl) (Nat.le_of_ble_eq_true rfl) rfl rfl ?_
        refine pg_iconst 1 dX12_isCommand_144 rfl ?_
        refine pg_iadd dX12_isCommand_145 ?_
        refine eg_put dX12_isCommand_146 fa_X12_205 hS sp128 (Nat.le_of_ble_eq_true rfl) (Nat.le_of_ble_eq_true rfl) rfl (Nat.le_of_ble_eq_true rfl) rfl (fun m24 e_m24 => ?_)
        replace h := lt_at h e_m24
        refine pg_iconst 1 dX12_isCommand_149 rfl ?_
        obtain rfl := Option.some.inj h
        exact hE.2.1 _ _ _ _ _ _ .boolean dX12_isCommand_150 rfl rfl (Nat.zero_le _) (Nat.zero_le _) ⟨rfl, rfl⟩
      · rw [if_pos c23] at h
        refine pg_iconst 0 dX12_isCommand_137 rfl ?_
        obtain rfl := Option.some.inj h
        exact hE.2.1 _ _ _ _ _ _ .boolean dX12_isCommand_138 rfl rfl (Nat.zero_le _) (Nat.zero_le _) ⟨rfl, rfl⟩
    · rw [k_x20] at h
      replace h := sm_r h
      obtain rfl := Option.some.inj h
      exact hE
  · rw [if_pos c9] at h
    refine pg_aload_n dX12_isCommand_67 rfl ?_
    refine pg_iload_n dX12_isCommand_68 rfl ?_
    refine eg_put dX12_isCommand_69 fa_X12_205 hS sp128 (Nat.le_of_ble_eq_true rfl) (Nat.le_of_ble_eq_true rfl) rfl (Nat.le_of_ble_eq_true rfl) rfl (fun m25 e_m25 => ?_)
    replace h := lt_at h e_m25
    refine pg_iconst 0 dX12_isCommand_72 rfl ?_
    obtain rfl := Option.some.inj h
    exact hE.2.1 _ _ _ _ _ _ .boolean dX12_isCommand_73 rfl rfl (Nat.zero_le _) (Nat.zero_le _) ⟨rfl, rfl⟩
def f_X12_does (m0 : me) : Option (Int32 × me) :=
  if m0.1 128 12 = 1 then
    bd (f_X12_joins (m0.1 136 0) (m0.1 136 1) (m0.1 136 2) m0) (fun r2 =>
    some ((r2.1, r2.2)))
  else
    if m0.1 128 12 = 2 then
      bd (f_X12_bids (m0.1 136 0) (m0.1 136 1) (m0.1 136 2) m0) (fun r4 =>
      some ((r4.1, r4.2)))
    else
      if m0.1 128 12 = 3 then
        bd (f_X12_breaks (m0.1 136 0) m0) (fun r6 =>
        some ((r6.1, r6.2)))
      else
        if m0.1 128 12 = 4 then
          bd (f_X12_mends (m0.1 136 0) m0) (fun r8 =>
          some ((r8.1, r8.2)))
        else
          if m0.1 128 12 = 5 then
            bd (f_X12_prioritizes (m0.1 136 0) (m0.1 136 1) m0) (fun r10 =>
            some ((r10.1, r10.2)))
          else
            if m0.1 128 12 = 6 then
              bd (f_X12_moves (m0.1 136 0) (m0.1 136 1) m0) (fun r12 =>
              some ((r12.1, r12.2)))
            else
              bd (f_X12_ticks (m0.1 136 0) m0) (fun r13 =>
              some ((r13.1, r13.2)))
set_option maxRecDepth 20000 in
set_option maxHeartbeats 4000000 in
theorem ct_X12_does (hfl : g.1.stackTraces = false) (hS : pS 128 137 S) {m0 : me} {x : (Int32 × me)} (h : f_X12_does m0 = some x) : pm_Ct g mX12_does [.ref 128] (en S m0) 0 0 (qI S x) qF := by
  refine pm_of (by decide +kernel) rfl hfl (Nat.le_of_ble_eq_true rfl) (fun X hE => ?_)
  show pm_G g mX12_does X 0 [some (.ref 128)] [] (en S m0) 0 0
  unfold f_X12_does at h
  refine pg_aload_n dX12_does_0 rfl ?_
  refine eg_get dX12_does_1 fa_X12_221 hS sp128 (Nat.le_of_ble_eq_true rfl) (Nat.le_of_ble_eq_true rfl) rfl rfl ?_
  by_cases c1 : m0.1 128 12 = 1
  · rw [if_pos c1] at h
    refine pg_tabIn (off := 40) 44 dX12_does_4 (by rw [c1]; decide) (by rw [c1]; decide) (by rw [c1]; decide) (by decide) ?_
    refine pg_aload_n dX12_does_44 rfl ?_
    refine pg_aload_n dX12_does_45 rfl ?_
    refine eg_get dX12_does_46 fa_X12_31 hS sp128 (Nat.le_of_ble_eq_true rfl) (Nat.le_of_ble_eq_true rfl) rfl rfl ?_
    refine pg_iconst 0 dX12_does_49 rfl ?_
    refine eg_ialdJ 0 dX12_does_50 hS sp136 (Nat.le_of_ble_eq_true rfl) (Nat.le_of_ble_eq_true rfl) rfl (inR_vp rfl) rfl ?_
    refine pg_aload_n dX12_does_51 rfl ?_
    refine eg_get dX12_does_52 fa_X12_31 hS sp128 (Nat.le_of_ble_eq_true rfl) (Nat.le_of_ble_eq_true rfl) rfl rfl ?_
    refine pg_iconst 1 dX12_does_55 rfl ?_
    refine eg_ialdJ 1 dX12_does_56 hS sp136 (Nat.le_of_ble_eq_true rfl) (Nat.le_of_ble_eq_true rfl) rfl (inR_vp rfl) rfl ?_
    refine pg_aload_n dX12_does_57 rfl ?_
    refine eg_get dX12_does_58 fa_X12_31 hS sp128 (Nat.le_of_ble_eq_true rfl) (Nat.le_of_ble_eq_true rfl) rfl rfl ?_
    refine pg_iconst 2 dX12_does_61 rfl ?_
    refine eg_ialdJ 2 dX12_does_62 hS sp136 (Nat.le_of_ble_eq_true rfl) (Nat.le_of_ble_eq_true rfl) rfl (inR_vp rfl) rfl ?_
    obtain ⟨r2, h_r2, h⟩ := bd_at h
    refine eg_cVi (C := mX12_joins) (as := [(.int (m0.1 136 0)), (.int (m0.1 136 1)), (.int (m0.1 136 2))]) dX12_does_63 mw843 cv_X12_joins hS sp128 (Nat.le_of_ble_eq_true rfl) (Nat.le_of_ble_eq_true rfl) rfl rfl rfl (Nat.le_of_ble_eq_true rfl) rfl ⟨(Nat.le_of_ble_eq_true rfl), (Nat.le_of_ble_eq_true rfl)⟩ (ct_X12_joins hfl (hS.sub (Nat.le_of_ble_eq_true rfl) (Nat.le_of_ble_eq_true rfl)) h_r2) ?_
    obtain rfl := Option.some.inj h
    exact hE.2.1 _ _ _ _ _ _ .int dX12_does_66 rfl rfl (Nat.zero_le _) (Nat.zero_le _) ⟨rfl, rfl⟩
  · rw [if_neg c1] at h
    by_cases c3 : m0.1 128 12 = 2
    · rw [if_pos c3] at h
      refine pg_tabIn (off := 63) 67 dX12_does_4 (by rw [c3]; decide) (by rw [c3]; decide) (by rw [c3]; decide) (by decide) ?_
      refine pg_aload_n dX12_does_67 rfl ?_
      refine pg_aload_n dX12_does_68 rfl ?_
      refine eg_get dX12_does_69 fa_X12_31 hS sp128 (Nat.le_of_ble_eq_true rfl) (Nat.le_of_ble_eq_true rfl) rfl rfl ?_
      refine pg_iconst 0 dX12_does_72 rfl ?_
      refine eg_ialdJ 0 dX12_does_73 hS sp136 (Nat.le_of_ble_eq_true rfl) (Nat.le_of_ble_eq_true rfl) rfl (inR_vp rfl) rfl ?_
      refine pg_aload_n dX12_does_74 rfl ?_
      refine eg_get dX12_does_75 fa_X12_31 hS sp128 (Nat.le_of_ble_eq_true rfl) (Nat.le_of_ble_eq_true rfl) rfl rfl ?_
      refine pg_iconst 1 dX12_does_78 rfl ?_
      refine eg_ialdJ 1 dX12_does_79 hS sp136 (Nat.le_of_ble_eq_true rfl) (Nat.le_of_ble_eq_true rfl) rfl (inR_vp rfl) rfl ?_
      refine pg_aload_n dX12_does_80 rfl ?_
      refine eg_get dX12_does_81 fa_X12_31 hS sp128 (Nat.le_of_ble_eq_true rfl) (Nat.le_of_ble_eq_true rfl) rfl rfl ?_
      refine pg_iconst 2 dX12_does_84 rfl ?_
      refine eg_ialdJ 2 dX12_does_85 hS sp136 (Nat.le_of_ble_eq_true rfl) (Nat.le_of_ble_eq_true rfl) rfl (inR_vp rfl) rfl ?_
      obtain ⟨r4, h_r4, h⟩ := bd_at h
      refine eg_cVi (C := mX12_bids) (as := [(.int (m0.1 136 0)), (.int (m0.1 136 1)), (.int (m0.1 136 2))]) dX12_does_86 mw882 cv_X12_bids hS sp128 (Nat.le_of_ble_eq_true rfl) (Nat.le_of_ble_eq_true rfl) rfl rfl rfl (Nat.le_of_ble_eq_true rfl) rfl ⟨(Nat.le_of_ble_eq_true rfl), (Nat.le_of_ble_eq_true rfl)⟩ (ct_X12_bids hfl (hS.sub (Nat.le_of_ble_eq_true rfl) (Nat.le_of_ble_eq_true rfl)) h_r4) ?_
      obtain rfl := Option.some.inj h
      exact hE.2.1 _ _ _ _ _ _ .int dX12_does_89 rfl rfl (Nat.zero_le _) (Nat.zero_le _) ⟨rfl, rfl⟩
    · rw [if_neg c3] at h
      by_cases c5 : m0.1 128 12 = 3
      · rw [if_pos c5] at h
        refine pg_tabIn (off := 86) 90 dX12_does_4 (by rw [c5]; decide) (by rw [c5]; decide) (by rw [c5]; decide) (by decide) ?_
        refine pg_aload_n dX12_does_90 rfl ?_
        refine pg_aload_n dX12_does_91 rfl ?_
        refine eg_get dX12_does_92 fa_X12_31 hS sp128 (Nat.le_of_ble_eq_true rfl) (Nat.le_of_ble_eq_true rfl) rfl rfl ?_
        refine pg_iconst 0 dX12_does_95 rfl ?_
        refine eg_ialdJ 0 dX12_does_96 hS sp136 (Nat.le_of_ble_eq_true rfl) (Nat.le_of_ble_eq_true rfl) rfl (inR_vp rfl) rfl ?_
        obtain ⟨r6, h_r6, h⟩ := bd_at h
        refine eg_cVi (C := mX12_breaks) (as := [(.int (m0.1 136 0))]) dX12_does_97 mw853 cv_X12_breaks hS sp128 (Nat.le_of_ble_eq_true rfl) (Nat.le_of_ble_eq_true rfl) rfl rfl rfl (Nat.le_of_ble_eq_true rfl) rfl ⟨(Nat.le_of_ble_eq_true rfl), (Nat.le_of_ble_eq_true rfl)⟩ (ct_X12_breaks hfl (hS.sub (Nat.le_of_ble_eq_true rfl) (Nat.le_of_ble_eq_true rfl)) h_r6) ?_
        obtain rfl := Option.some.inj h
        exact hE.2.1 _ _ _ _ _ _ .int dX12_does_100 rfl rfl (Nat.zero_le _) (Nat.zero_le _) ⟨rfl, rfl⟩
      · rw [if_neg c5] at h
        by_cases c7 : m0.1 128 12 = 4
        · rw [if_pos c7] at h
          refine pg_tabIn (off := 97) 101 dX12_does_4 (by rw [c7]; decide) (by rw [c7]; decide) (by rw [c7]; decide) (by decide) ?_
          refine pg_aload_n dX12_does_101 rfl ?_
          refine pg_aload_n dX12_does_102 rfl ?_
          refine eg_get dX12_does_103 fa_X12_31 hS sp128 (Nat.le_of_ble_eq_true rfl) (Nat.le_of_ble_eq_true rfl) rfl rfl ?_
          refine pg_iconst 0 dX12_does_106 rfl ?_
          refine eg_ialdJ 0 dX12_does_107 hS sp136 (Nat.le_of_ble_eq_true rfl) (Nat.le_of_ble_eq_true rfl) rfl (inR_vp rfl) rfl ?_
          obtain ⟨r8, h_r8, h⟩ := bd_at h
          refine eg_cVi (C := mX12_mends) (as := [(.int (m0.1 136 0))]) dX12_does_108 mw868 cv_X12_mends hS sp128 (Nat.le_of_ble_eq_true rfl) (Nat.le_of_ble_eq_true rfl) rfl rfl rfl (Nat.le_of_ble_eq_true rfl) rfl ⟨(Nat.le_of_ble_eq_true rfl), (Nat.le_of_ble_eq_true rfl)⟩ (ct_X12_mends hfl (hS.sub (Nat.le_of_ble_eq_true rfl) (Nat.le_of_ble_eq_true rfl)) h_r8) ?_
          obtain rfl := Option.some.inj h
          exact hE.2.1 _ _ _ _ _ _ .int dX12_does_111 rfl rfl (Nat.zero_le _) (Nat.zero_le _) ⟨rfl, rfl⟩
        · rw [if_neg c7] at h
          by_cases c9 : m0.1 128 12 = 5
          · rw [if_pos c9] at h
            refine pg_tabIn (off := 108) 112 dX12_does_4 (by rw [c9]; decide) (by rw [c9]; decide) (by rw [c9]; decide) (by decide) ?_
            refine pg_aload_n dX12_does_112 rfl ?_
            refine pg_aload_n dX12_does_113 rfl ?_
            refine eg_get dX12_does_114 fa_X12_31 hS sp128 (Nat.le_of_ble_eq_true rfl) (Nat.le_of_ble_eq_true rfl) rfl rfl ?_
            refine pg_iconst 0 dX12_does_117 rfl ?_
            refine eg_ialdJ 0 dX12_does_118 hS sp136 (Nat.le_of_ble_eq_true rfl) (Nat.le_of_ble_eq_true rfl) rfl (inR_vp rfl) rfl ?_
            refine pg_aload_n dX12_does_119 rfl ?_
            refine eg_get dX12_does_120 fa_X12_31 hS sp128 (Nat.le_of_ble_eq_true rfl) (Nat.le_of_ble_eq_true rfl) rfl rfl ?_
            refine pg_iconst 1 dX12_does_123 rfl ?_
            refine eg_ialdJ 1 dX12_does_124 hS sp136 (Nat.le_of_ble_eq_true rfl) (Nat.le_of_ble_eq_true rfl) rfl (inR_vp rfl) rfl ?_
            obtain ⟨r10, h_r10, h⟩ := bd_at h
            refine eg_cVi (C := mX12_prioritizes) (as := [(.int (m0.1 136 0)), (.int (m0.1 136 1))]) dX12_does_125 mw827 cv_X12_prioritizes hS sp128 (Nat.le_of_ble_eq_true rfl) (Nat.le_of_ble_eq_true rfl) rfl rfl rfl (Nat.le_of_ble_eq_true rfl) rfl ⟨(Nat.le_of_ble_eq_true rfl), (Nat.le_of_ble_eq_true rfl)⟩ (ct_X12_prioritizes hfl (hS.sub (Nat.le_of_ble_eq_true rfl) (Nat.le_of_ble_eq_true rfl)) h_r10) ?_
            obtain rfl := Option.some.inj h
            exact hE.2.1 _ _ _ _ _ _ .int dX12_does_128 rfl rfl (Nat.zero_le _) (Nat.zero_le _) ⟨rfl, rfl⟩
          · rw [if_neg c9] at h
            by_cases c11 : m0.1 128 12 = 6
            · rw [if_pos c11] at h
              refine pg_tabIn (off := 125) 129 dX12_does_4 (by rw [c11]; decide) (by rw [c11]; decide) (by rw [c11]; decide) (by decide) ?_
              refine pg_aload_n dX12_does_129 rfl ?_
              refine pg_aload_n dX12_does_130 rfl ?_
              refine eg_get dX12_does_131 fa_X12_31 hS sp128 (Nat.le_of_ble_eq_true rfl) (Nat.le_of_ble_eq_true rfl) rfl rfl ?_
              refine pg_iconst 0 dX12_does_134 rfl ?_
              refine eg_ialdJ 0 dX12_does_135 hS sp136 (Nat.le_of_ble_eq_true rfl) (Nat.le_of_ble_eq_true rfl) rfl (inR_vp rfl) rfl ?_
              refine pg_aload_n dX12_does_136 rfl ?_
              refine eg_get dX12_does_137 fa_X12_31 hS sp128 (Nat.le_of_ble_eq_true rfl) (Nat.le_of_ble_eq_true rfl) rfl rfl ?_
              refine pg_iconst 1 dX12_does_140 rfl ?_
              refine eg_ialdJ 1 dX12_does_141 hS sp136 (Nat.le_of_ble_eq_true rfl) (Nat.le_of_ble_eq_true rfl) rfl (inR_vp rfl) rfl ?_
              obtain ⟨r12, h_r12, h⟩ := bd_at h
              refine eg_cVi (C := mX12_moves) (as := [(.int (m0.1 136 0)), (.int (m0.1 136 1))]) dX12_does_142 mw873 cv_X12_moves hS sp128 (Nat.le_of_ble_eq_true rfl) (Nat.le_of_ble_eq_true rfl) rfl rfl rfl (Nat.le_of_ble_eq_true rfl) rfl ⟨(Nat.le_of_ble_eq_true rfl), (Nat.le_of_ble_eq_true rfl)⟩ (ct_X12_moves hfl (hS.sub (Nat.le_of_ble_eq_true rfl) (Nat.le_of_ble_eq_true rfl)) h_r12) ?_
              obtain rfl := Option.some.inj h
              exact hE.2.1 _ _ _ _ _ _ .int dX12_does_145 rfl rfl (Nat.zero_le _) (Nat.zero_le _) ⟨rfl, rfl⟩
            · rw [if_neg c11] at h
              have k_c1 := lv_neT c1 (show (1 : Int32).toInt = 1 from rfl)
              have k_c3 := lv_neT c3 (show (2 : Int32).toInt = 2 from rfl)
              have k_c5 := lv_neT c5 (show (3 : Int32).toInt = 3 from rfl)
              have k_c7 := lv_neT c7 (show (4 : Int32).toInt = 4 from rfl)
              have k_c9 := lv_neT c9 (show (5 : Int32).toInt = 5 from rfl)
              have k_c11 := lv_neT c11 (show (6 : Int32).toInt = 6 from rfl)
              refine pg_tabOut 146 dX12_does_4 (by omega) (by decide) ?_
              refine pg_aload_n dX12_does_146 rfl ?_
              refine pg_aload_n dX12_does_147 rfl ?_
              refine eg_get dX12_does_148 fa_X12_31 hS sp128 (Nat.le_of_ble_eq_true rfl) (Nat.le_of_ble_eq_true rfl) rfl rfl ?_
              refine pg_iconst 0 dX12_does_151 rfl ?_
              refine eg_ialdJ 0 dX12_does_152 hS sp136 (Nat.le_of_ble_eq_true rfl) (Nat.le_of_ble_eq_true rfl) rfl (inR_vp rfl) rfl ?_
              obtain ⟨r13, h_r13, h⟩ := bd_at h
              refine eg_cVi (C := mX12_ticks) (as := [(.int (m0.1 136 0))]) dX12_does_153 mw892 cv_X12_ticks hS sp128 (Nat.le_of_ble_eq_true rfl) (Nat.le_of_ble_eq_true rfl) rfl rfl rfl (Nat.le_of_ble_eq_true rfl) rfl ⟨(Nat.le_of_ble_eq_true rfl), (Nat.le_of_ble_eq_true rfl)⟩ (ct_X12_ticks hfl (hS.sub (Nat.le_of_ble_eq_true rfl) (Nat.le_of_ble_eq_true rfl)) h_r13) ?_
              obtain rfl := Option.some.inj h
              exact hE.2.1 _ _ _ _ _ _ .int dX12_does_156 rfl rfl (Nat.zero_le _) (Nat.zero_le _) ⟨rfl, rfl⟩
def b_X12_run_14 (s : me) : Option ((me) ⊕ ((me) ⊕ (Int32 × me))) :=
  if (s.1 128 5) ≤ (s.1 128 11) then
    some (.inr (.inl s))
  else
    bd (f_X12_isCommand s) (fun r5 =>
    if r5.1 = 0 then
      some (.inr (.inr (((-10) - (r5.2.1 128 11), r5.2))))
    else
      bd (f_X12_skips r5.2) (fun r7 =>
      some (.inl r7)))
def j_X12_run_109 (v1 : Int32) (v2 : Int32) (u0 : Int32) (u1 : Int32) (m0 : me) : Option ((Int32 × Int32 × me) ⊕ (Int32 × Int32 × me)) :=
  lt (u0 + u1) (fun w19 =>
  bd (f_X12_skips m0) (fun r20 =>
  some (.inl (w19, v2, r20))))
def j_X12_run_98 (v1 : Int32) (v2 : Int32) (u0 : Int32) (m0 : me) : Option ((Int32 × Int32 × me) ⊕ (Int32 × Int32 × me)) :=
  if u0 = 0 then
    j_X12_run_109 v1 u0 v1 0 m0
  else
    j_X12_run_109 v1 u0 v1 1 m0
def j_X12_run_97 (v1 : Int32) (v2 : Int32) (m0 : me) : Option ((Int32 × Int32 × me) ⊕ (Int32 × Int32 × me)) :=
  j_X12_run_98 v1 v2 0 m0
def b_X12_run_64 (s : Int32 × Int32 × me) : Option ((Int32 × Int32 × me) ⊕ (Int32 × Int32 × me)) :=
  if (s.2.2.1 128 5) ≤ (s.2.2.1 128 11) then
    some (.inr (s.1, s.2.1, s.2.2))
  else
    if s.2.1 = 0 then
      some (.inr (s.1, s.2.1, s.2.2))
    else
      bd (f_X12_isCommand s.2.2) (fun r16 =>
      if r16.1 = 0 then
        j_X12_run_97 s.1 s.2.1 r16.2
      else
        bd (f_X12_does r16.2) (fun r21 =>
        if r21.1 = 0 then
          j_X12_run_98 s.1 s.2.1 1 r21.2
        else
          j_X12_run_97 s.1 s.2.1 r21.2))
def j_X12_run_118 (v1 : Int32) (m0 : me) : Option (Int32 × me) :=
  bd (f_X12_ends v1 m0) (fun r24 =>
  some ((r24.1, r24.2)))
def f_X12_run (m0 : me) : Option (Int32 × me) :=
  lt (wI m0 128 6 0) (fun m1 =>
  lt (wI m1 128 11 0) (fun m2 =>
  bd (f_X12_skips m2) (fun r3 =>
  bd (lo (b_X12_run_14) 2048 r3) (fun s8 =>
  sm s8 (fun s9 =>
    bd (f_X12_hold s9) (fun r11 =>
    lt (wI r11 128 11 0) (fun m12 =>
    bd (f_X12_skips m12) (fun r13 =>
    bd (lo (b_X12_run_64) 2048 (0, 1, r13)) (fun s23 =>
    j_X12_run_118 s23.1 s23.2.2))))) (fun x10 => some x10)))))
set_option maxRecDepth 20000 in
set_option maxHeartbeats 4000000 in
theorem lb_X12_run_14 (hfl : g.1.stackTraces = false) (hS : pS 128 137 S) {s : me} {r : (me) ⊕ ((me) ⊕ (Int32 × me))} (h : b_X12_run_14 s = some r) (hN : ∀ s', r = .inl s' → (fun z9 : me => pm_G g mX12_run X 14 [some (.ref 128), none, none] [] (en S z9) 0 0) s') (hT : ∀ t, r = .inr t → (fun z8 : ((me) ⊕ (Int32 × me)) => (∀ z9, z8 = .inl z9 → pm_G g mX12_run X 47 [some (.ref 128), none, none] [] (en S z9) 0 0) ∧ (∀ x9, z8 = .inr x9 → pm_End g mX12_run X 0 0 (qI S x9) qF)) t) : (fun z9 : me => pm_G g mX12_run X 14 [some (.ref 128), none, none] [] (en S z9) 0 0) s := by
  unfold b_X12_run_14 at h
  show pm_G g mX12_run X 14 [some (.ref 128), none, none] [] (en S s) 0 0
  refine pg_aload_n dX12_run_14 rfl ?_
  refine eg_get dX12_run_15 fa_X12_205 hS sp128 (Nat.le_of_ble_eq_true rfl) (Nat.le_of_ble_eq_true rfl) rfl rfl ?_
  refine pg_aload_n dX12_run_18 rfl ?_
  refine eg_get dX12_run_19 fa_X12_202 hS sp128 (Nat.le_of_ble_eq_true rfl) (Nat.le_of_ble_eq_true rfl) rfl rfl ?_
  refine pg_icmp_ge 47 dX12_run_22 (by decide) (fun c4 => ?_) (fun c4 => ?_)
  · rw [if_pos c4] at h
    obtain rfl := Option.some.inj h
    exact (hT _ rfl).1 _ rfl
  · rw [if_neg c4] at h
    refine pg_aload_n dX12_run_25 rfl ?_
    obtain ⟨r5, h_r5, h⟩ := bd_at h
    refine eg_cVi (C := mX12_isCommand) (as := []) dX12_run_26 mw1034 cv_X12_isCommand hS sp128 (Nat.le_of_ble_eq_true rfl) (Nat.le_of_ble_eq_true rfl) rfl rfl rfl (Nat.le_of_ble_eq_true rfl) rfl ⟨(Nat.le_of_ble_eq_true rfl), (Nat.le_of_ble_eq_true rfl)⟩ (ct_X12_isCommand hfl (hS.sub (Nat.le_of_ble_eq_true rfl) (Nat.le_of_ble_eq_true rfl)) h_r5) ?_
    refine pg_if_ne 40 dX12_run_29 (by decide) (fun c6 => ?_) (fun c6 => ?_)
    · rw [if_neg c6] at h
      refine pg_aload_n dX12_run_40 rfl ?_
      obtain ⟨r7, h_r7, h⟩ := bd_at h
      refine eg_cVv (C := mX12_skips) (as := []) dX12_run_41 mw1029 cv_X12_skips hS sp128 (Nat.le_of_ble_eq_true rfl) (Nat.le_of_ble_eq_true rfl) rfl rfl rfl (Nat.le_of_ble_eq_true rfl) rfl ⟨(Nat.le_of_ble_eq_true rfl), (Nat.le_of_ble_eq_true rfl)⟩ (ct_X12_skips hfl (hS.sub (Nat.le_of_ble_eq_true rfl) (Nat.le_of_ble_eq_true rfl)) h_r7) ?_
      refine pg_goto 14 dX12_run_44 (by decide) ?_
      obtain rfl := Option.some.inj h
      exact hN _ rfl
    · rw [if_pos c6] at h
      refine pg_bipush (-10) dX12_run_32 rfl ?_
      refine pg_aload_n dX12_run_34 rfl ?_
      refine eg_get dX12_run_35 fa_X12_205 hS sp128 (Nat.le_of_ble_eq_true rfl) (Nat.le_of_ble_eq_true rfl) rfl rfl ?_
      refine pg_isub dX12_run_38 ?_
      obtain rfl := Option.some.inj h
      exact ((hT _ rfl).2 _ rfl).2.1 _ _ _ _ _ _ .int dX12_run_39 rfl rfl (Nat.zero_le _) (Nat.zero_le _) ⟨rfl, rfl⟩
set_option maxRecDepth 20000 in
set_option maxHeartbeats 4000000 in
theorem lj_X12_run_109 (hfl : g.1.stackTraces = false) (hS : pS 128 137 S) {v1 : Int32} {v2 : Int32} {u0 : Int32} {u1 : Int32} {m0 : me} {r : (Int32 × Int32 × me) ⊕ (Int32 × Int32 × me)} (h : j_X12_run_109 v1 v2 u0 u1 m0 = some r) (hN : ∀ s', r = .inl s' → (fun z9 : Int32 × Int32 × me => pm_G g mX12_run X 64 [some (.ref 128), some (.int z9.1), some (.int z9.2.1)] [] (en S z9.2.2) 0 0) s') (hT : ∀ t, r = .inr t → (fun z9 : Int32 × Int32 × me => pm_G g mX12_run X 118 [some (.ref 128), some (.int z9.1), some (.int z9.2.1)] [] (en S z9.2.2) 0 0) t) : pm_G g mX12_run X 109 [some (.ref 128), some (.int v1), some (.int v2)] [(.int u1), (.int u0)] (en S m0) 0 0 := by
  unfold j_X12_run_109 at h
  refine pg_iadd dX12_run_109 ?_
  obtain ⟨w19, e_w19⟩ : ∃ z : Int32, z = u0 + u1 := ⟨_, rfl⟩
  replace h := lt_at h e_w19
  refine eg_istore_n [some (.ref 128), some (.int w19), some (.int v2)] w19 dX12_run_110 e_w19 (Nat.le_of_ble_eq_true rfl) rfl ?_
  refine pg_aload_n dX12_run_111 rfl ?_
  obtain ⟨r20, h_r20, h⟩ := bd_at h
  refine eg_cVv (C := mX12_skips) (as := []) dX12_run_112 mw1029 cv_X12_skips hS sp128 (Nat.le_of_ble_eq_true rfl) (Nat.le_of_ble_eq_true rfl) rfl rfl rfl (Nat.le_of_ble_eq_true rfl) rfl ⟨(Nat.le_of_ble_eq_true rfl), (Nat.le_of_ble_eq_true rfl)⟩ (ct_X12_skips hfl (hS.sub (Nat.le_of_ble_eq_true rfl) (Nat.le_of_ble_eq_true rfl)) h_r20) ?_
  refine pg_goto 64 dX12_run_115 (by decide) ?_
  obtain rfl := Option.some.inj h
  exact hN _ rfl
set_option maxRecDepth 20000 in
set_option maxHeartbeats 4000000 in
theorem lj_X12_run_98 (hfl : g.1.stackTraces = false) (hS : pS 128 137 S) {v1 : Int32} {v2 : Int32} {u0 : Int32} {m0 : me} {r : (Int32 × Int32 × me) ⊕ (Int32 × Int32 × me)} (h : j_X12_run_98 v1 v2 u0 m0 = some r) (hN : ∀ s', r = .inl s' → (fun z9 : Int32 × Int32 × me => pm_G g mX12_run X 64 [some (.ref 128), some (.int z9.1), some (.int z9.2.1)] [] (en S z9.2.2) 0 0) s') (hT : ∀ t, r = .inr t → (fun z9 : Int32 × Int32 × me => pm_G g mX12_run X 118 [some (.ref 128), some (.int z9.1), some (.int z9.2.1)] [] (en S z9.2.2) 0 0) t) : pm_G g mX12_run X 98 [some (.ref 128), some (.int v1), some (.int v2)] [(.int u0)] (en S m0) 0 0 := by
  unfold j_X12_run_98 at h
  refine eg_istore_n [some (.ref 128), some (.int v1), some (.int u0)] u0 dX12_run_98 rfl (Nat.le_of_ble_eq_true rfl) rfl ?_
  refine pg_iload_n dX12_run_99 rfl ?_
  refine pg_iload_n dX12_run_100 rfl ?_
  refine pg_if_eq 108 dX12_run_101 (by decide) (fun c18 => ?_) (fun c18 => ?_)
  · rw [if_pos c18] at h
    refine pg_iconst 0 dX12_run_108 rfl ?_
    exact lj_X12_run_109 hfl hS h hN hT
  · rw [if_neg c18] at h
    refine pg_iconst 1 dX12_run_104 rfl ?_
    refine pg_goto 109 dX12_run_105 (by decide) ?_
    exact lj_X12_run_109 hfl hS h hN hT
set_option maxRecDepth 20000 in
set_option maxHeartbeats 4000000 in
theorem lj_X12_run_97 (hfl : g.1.stackTraces = false) (hS : pS 128 137 S) {v1 : Int32} {v2 : Int32} {m0 : me} {r : (Int32 × Int32 × me) ⊕ (Int32 × Int32 × me)} (h : j_X12_run_97 v1 v2 m0 = some r) (hN : ∀ s', r = .inl s' → (fun z9 : Int32 × Int32 × me => pm_G g mX12_run X 64 [some (.ref 128), some (.int z9.1), some (.int z9.2.1)] [] (en S z9.2.2) 0 0) s') (hT : ∀ t, r = .inr t → (fun z9 : Int32 × Int32 × me => pm_G g mX12_run X 118 [some (.ref 128), some (.int z9.1), some (.int z9.2.1)] [] (en S z9.2.2) 0 0) t) : pm_G g mX12_run X 97 [some (.ref 128), some (.int v1), some (.int v2)] [] (en S m0) 0 0 := by
  unfold j_X12_run_97 at h
  refine pg_iconst 0 dX12_run_97 rfl ?_
  exact lj_X12_run_98 hfl hS h hN hT
set_option maxRecDepth 20000 in
set_option maxHeartbeats 4000000 in
theorem lb_X12_run_64 (hfl : g.1.stackTraces = false) (hS : pS 128 137 S) {s : Int32 × Int32 × me} {r : (Int32 × Int32 × me) ⊕ (Int32 × Int32 × me)} (h : b_X12_run_64 s = some r) (hN : ∀ s', r = .inl s' → (fun z9 : Int32 × Int32 × me => pm_G g mX12_run X 64 [some (.ref 128), some (.int z9.1), some (.int z9.2.1)] [] (en S z9.2.2) 0 0) s') (hT : ∀ t, r = .inr t → (fun z9 : Int32 × Int32 × me => pm_G g mX12_run X 118 [some (.ref 128), some (.int z9.1), some (.int z9.2.1)] [] (en S z9.2.2) 0 0) t) : (fun z9 : Int32 × Int32 × me => pm_G g mX12_run X 64 [some (.ref 128), some (.int z9.1), some (.int z9.2.1)] [] (en S z9.2.2) 0 0) s := by
  unfold b_X12_run_64 at h
  show pm_G g mX12_run X 64 [some (.ref 128), some (.int s.1), some (.int s.2.1)] [] (en S s.2.2) 0 0
  refine pg_aload_n dX12_run_64 rfl ?_
  refine eg_get dX12_run_65 fa_X12_205 hS sp128 (Nat.le_of_ble_eq_true rfl) (Nat.le_of_ble_eq_true rfl) rfl rfl ?_
  refine pg_aload_n dX12_run_68 rfl ?_
  refine eg_get dX12_run_69 fa_X12_202 hS sp128 (Nat.le_of_ble_eq_true rfl) (Nat.le_of_ble_eq_true rfl) rfl rfl ?_
  refine pg_icmp_ge 118 dX12_run_72 (by decide) (fun c14 => ?_) (fun c14 => ?_)
  · rw [if_pos c14] at h
    obtain rfl := Option.some.inj h
    exact hT _ rfl
  · rw [if_neg c14] at h
    refine pg_iload_n dX12_run_75 rfl ?_
    refine pg_if_eq 118 dX12_run_76 (by decide) (fun c15 => ?_) (fun c15 => ?_)
    · rw [if_pos c15] at h
      obtain rfl := Option.some.inj h
      exact hT _ rfl
    · rw [if_neg c15] at h
      refine pg_aload_n dX12_run_79 rfl ?_
      obtain ⟨r16, h_r16, h⟩ := bd_at h
      refine eg_cVi (C := mX12_isCommand) (as := []) dX12_run_80 mw1034 cv_X12_isCommand hS sp128 (Nat.le_of_ble_eq_true rfl) (Nat.le_of_ble_eq_true rfl) rfl rfl rfl (Nat.le_of_ble_eq_true rfl) rfl ⟨(Nat.le_of_ble_eq_true rfl), (Nat.le_of_ble_eq_true rfl)⟩ (ct_X12_isCommand hfl (hS.sub (Nat.le_of_ble_eq_true rfl) (Nat.le_of_ble_eq_true rfl)) h_r16) ?_
      refine pg_if_eq 97 dX12_run_83 (by decide) (fun c17 => ?_) (fun c17 => ?_)
      · rw [if_pos c17] at h
        exact lj_X12_run_97 hfl hS h hN hT
      · rw [if_neg c17] at h
        refine pg_aload_n dX12_run_86 rfl ?_
        obtain ⟨r21, h_r21, h⟩ := bd_at h
        refine eg_cVi (C := mX12_does) (as := []) dX12_run_87 mw1039 cv_X12_does hS sp128 (Nat.le_of_ble_eq_true rfl) (Nat.le_of_ble_eq_true rfl) rfl rfl rfl (Nat.le_of_ble_eq_true rfl) rfl ⟨(Nat.le_of_ble_eq_true rfl), (Nat.le_of_ble_eq_true rfl)⟩ (ct_X12_does hfl (hS.sub (Nat.le_of_ble_eq_true rfl) (Nat.le_of_ble_eq_true rfl)) h_r21) ?_
        refine pg_if_ne 97 dX12_run_90 (by decide) (fun c22 => ?_) (fun c22 => ?_)
        · rw [if_neg c22] at h
          exact lj_X12_run_97 hfl hS h hN hT
        · rw [if_pos c22] at h
          refine pg_iconst 1 dX12_run_93 rfl ?_
          refine pg_goto 98 dX12_run_94 (by decide) ?_
          exact lj_X12_run_98 hfl hS h hN hT
set_option maxRecDepth 20000 in
set_option maxHeartbeats 4000000 in
theorem lj_X12_run_118 (hfl : g.1.stackTraces = false) (hS : pS 128 137 S) {v1 : Int32} {m0 : me} {r : (Int32 × me)} (h : j_X12_run_118 v1 m0 = some r) (hE : pm_End g mX12_run X 0 0 (qI S r) qF) : pm_G g mX12_run X 118 [some (.ref 128), some (.int v1), none] [] (en S m0) 0 0 := by
  unfold j_X12_run_118 at h
  refine pg_aload_n dX12_run_118 rfl ?_
  refine pg_iload_n dX12_run_119 rfl ?_
  obtain ⟨r24, h_r24, h⟩ := bd_at h
  refine eg_cVi (C := mX12_ends) (as := [(.int v1)]) dX12_run_120 mw816 cv_X12_ends hS sp128 (Nat.le_of_ble_eq_true rfl) (Nat.le_of_ble_eq_true rfl) rfl rfl rfl (Nat.le_of_ble_eq_true rfl) rfl ⟨(Nat.le_of_ble_eq_true rfl), (Nat.le_of_ble_eq_true rfl)⟩ (ct_X12_ends hfl (hS.sub (Nat.le_of_ble_eq_true rfl) (Nat.le_of_ble_eq_true rfl)) h_r24) ?_
  obtain rfl := Option.some.inj h
  exact hE.2.1 _ _ _ _ _ _ .int dX12_run_123 rfl rfl (Nat.zero_le _) (Nat.zero_le _) ⟨rfl, rfl⟩
set_option maxRecDepth 20000 in
set_option maxHeartbeats 4000000 in
theorem ct_X12_run (hfl : g.1.stackTraces = false) (hS : pS 128 137 S) {m0 : me} {x : (Int32 × me)} (h : f_X12_run m0 = some x) : pm_Ct g mX12_run [.ref 128] (en S m0) 0 0 (qI S x) qF := by
  refine pm_of (by decide +kernel) rfl hfl (Nat.le_of_ble_eq_true rfl) (fun X hE => ?_)
  show pm_G g mX12_run X 0 [some (.ref 128), none, none] [] (en S m0) 0 0
  unfold f_X12_run at h
  refine pg_aload_n dX12_run_0 rfl ?_
  refine pg_iconst 0 dX12_run_1 rfl ?_
  refine eg_put dX12_run_2 fa_X12_38 hS sp128 (Nat.le_of_ble_eq_true rfl) (Nat.le_of_ble_eq_true rfl) rfl (Nat.le_of_ble_eq_true rfl) rfl (fun m1 e_m1 => ?_)
  replace h := lt_at h e_m1
  refine pg_aload_n dX12_run_5 rfl ?_
  refine pg_iconst 0 dX12_run_6 rfl ?_
  refine eg_put dX12_run_7 fa_X12_205 hS sp128 (Nat.le_of_ble_eq_true rfl) (Nat.le_of_ble_eq_true rfl) rfl (Nat.le_of_ble_eq_true rfl) rfl (fun m2 e_m2 => ?_)
  replace h := lt_at h e_m2
  refine pg_aload_n dX12_run_10 rfl ?_
  obtain ⟨r3, h_r3, h⟩ := bd_at h
  refine eg_cVv (C := mX12_skips) (as := []) dX12_run_11 mw1029 cv_X12_skips hS sp128 (Nat.le_of_ble_eq_true rfl) (Nat.le_of_ble_eq_true rfl) rfl rfl rfl (Nat.le_of_ble_eq_true rfl) rfl ⟨(Nat.le_of_ble_eq_true rfl), (Nat.le_of_ble_eq_true rfl)⟩ (ct_X12_skips hfl (hS.sub (Nat.le_of_ble_eq_true rfl) (Nat.le_of_ble_eq_true rfl)) h_r3) ?_
  obtain ⟨s8, h_s8, h⟩ := bd_at h
  refine lo_at (b := b_X12_run_14) (G := (fun z9 : me => pm_G g mX12_run X 14 [some (.ref 128), none, none] [] (en S z9) 0 0)) (T := (fun z8 : ((me) ⊕ (Int32 × me)) => (∀ z9, z8 = .inl z9 → pm_G g mX12_run X 47 [some (.ref 128), none, none] [] (en S z9) 0 0) ∧ (∀ x9, z8 = .inr x9 → pm_End g mX12_run X 0 0 (qI S x9) qF))) (fun q9 r9 h1 h2 h3 => lb_X12_run_14 hfl hS h1 h2 h3) 2048 r3 s8 h_s8 ⟨fun s9 k_s9 => ?_, fun x10 k_x10 => ?_⟩
  · rw [k_s9] at h
    replace h := sm_l h
    show pm_G g mX12_run X 47 [some (.ref 128), none, none] [] (en S s9) 0 0
    refine pg_aload_n dX12_run_47 rfl ?_
    obtain ⟨r11, h_r11, h⟩ := bd_at h
    refine eg_cVv (C := mX12_hold) (as := []) dX12_run_48 mw811 cv_X12_hold hS sp128 (Nat.le_of_ble_eq_true rfl) (Nat.le_of_ble_eq_true rfl) rfl rfl rfl (Nat.le_of_ble_eq_true rfl) rfl ⟨(Nat.le_of_ble_eq_true rfl), (Nat.le_of_ble_eq_true rfl)⟩ (ct_X12_hold hfl (hS.sub (Nat.le_of_ble_eq_true rfl) (Nat.le_of_ble_eq_true rfl)) h_r11) ?_
    refine pg_iconst 0 dX12_run_51 rfl ?_
    refine eg_istore_n [some (.ref 128), some (.int 0), none] 0 dX12_run_52 rfl (Nat.le_of_ble_eq_true rfl) rfl ?_
    refine pg_iconst 1 dX12_run_53 rfl ?_
    refine eg_istore_n [some (.ref 128), some (.int 0), some (.int 1)] 1 dX12_run_54 rfl (Nat.le_of_ble_eq_true rfl) rfl ?_
    refine pg_aload_n dX12_run_55 rfl ?_
    refine pg_iconst 0 dX12_run_56 rfl ?_
    refine eg_put dX12_run_57 fa_X12_205 hS sp128 (Nat.le_of_ble_eq_true rfl) (Nat.le_of_ble_eq_true rfl) rfl (Nat.le_of_ble_eq_true rfl) rfl (fun m12 e_m12 => ?_)
    replace h := lt_at h e_m12
    refine pg_aload_n dX12_run_60 rfl ?_
    obtain ⟨r13, h_r13, h⟩ := bd_at h
    refine eg_cVv (C := mX12_skips) (as := []) dX12_run_61 mw1029 cv_X12_skips hS sp128 (Nat.le_of_ble_eq_true rfl) (Nat.le_of_ble_eq_true rfl) rfl rfl rfl (Nat.le_of_ble_eq_true rfl) rfl ⟨(Nat.le_of_ble_eq_true rfl), (Nat.le_of_ble_eq_true rfl)⟩ (ct_X12_skips hfl (hS.sub (Nat.le_of_ble_eq_true rfl) (Nat.le_of_ble_eq_true rfl)) h_r13) ?_
    obtain ⟨s23, h_s23, h⟩ := bd_at h
    refine lo_at (b := b_X12_run_64) (G := (fun z9 : Int32 × Int32 × me => pm_G g mX12_run X 64 [some (.ref 128), some (.int z9.1), some (.int z9.2.1)] [] (en S z9.2.2) 0 0)) (T := (fun z9 : Int32 × Int32 × me => pm_G g mX12_run X 118 [some (.ref 128), some (.int z9.1), some (.int z9.2.1)] [] (en S z9.2.2) 0 0)) (fun q9 r9 h1 h2 h3 => lb_X12_run_64 hfl hS h1 h2 h3) 2048 (0, 1, r13) s23 h_s23 ?_
    show pm_G g mX12_run X 118 [some (.ref 128), some (.int s23.1), some (.int s23.2.1)] [] (en S s23.2.2) 0 0
    refine eg_forget [some (.ref 128), some (.int s23.1), none] (show pm_sub _ _ from ⟨rfl, ⟨rfl, trivial⟩⟩) ?_
    exact lj_X12_run_118 hfl hS h hE
  · rw [k_x10] at h
    replace h := sm_r h
    obtain rfl := Option.some.inj h
    exact hE
def b_X12_undo_25 (s : Int32 × me) : Option ((Int32 × me) ⊕ (Int32 × me)) :=
  if 487 ≤ s.1 then
    some (.inr (s.1, s.2))
  else
    gd (inR ((487 * (s.2.1 128 3)) + s.1) 1461) (
    gd (inR s.1 487) (
    lt (wI s.2 129 s.1.toNatClampNeg (s.2.1 130 (((487 * (s.2.1 128 3)) + s.1).toNatClampNeg))) (fun m4 =>
    lt (s.1 + 1) (fun w5 =>
    some (.inl (w5, m4))))))
def f_X12_undo (m0 : me) : Option (Int32 × me) :=
  if (m0.1 128 3) = 0 then
    bd (f_X12_fails 1 m0) (fun r8 =>
    some ((r8.1, r8.2)))
  else
    lt (wI m0 128 3 ((m0.1 128 3) - 1)) (fun m2 =>
    bd (lo (b_X12_undo_25) 2048 (0, m2)) (fun s6 =>
    bd (f_X12_tells (s6.2.1 128 3) s6.2) (fun r7 =>
    some ((r7.1, r7.2)))))
set_option maxRecDepth 20000 in
set_option maxHeartbeats 4000000 in
theorem lb_X12_undo_25 (hfl : g.1.stackTraces = false) (hS : pS 128 137 S) {s : Int32 × me} {r : (Int32 × me) ⊕ (Int32 × me)} (h : b_X12_undo_25 s = some r) (hN : ∀ s', r = .inl s' → (fun z9 : Int32 × me => pm_G g mX12_undo X 25 [some (.ref 128), some (.int z9.1)] [] (en S z9.2) 0 0) s') (hT : ∀ t, r = .inr t → (fun z9 : Int32 × me => pm_G g mX12_undo X 59 [some (.ref 128), some (.int z9.1)] [] (en S z9.2) 0 0) t) : (fun z9 : Int32 × me => pm_G g mX12_undo X 25 [some (.ref 128), some (.int z9.1)] [] (en S z9.2) 0 0) s := by
  unfold b_X12_undo_25 at h
  show pm_G g mX12_undo X 25 [some (.ref 128), some (.int s.1)] [] (en S s.2) 0 0
  refine pg_iload_n dX12_undo_25 rfl ?_
  refine pg_sipush 487 dX12_undo_26 rfl ?_
  refine pg_icmp_ge 59 dX12_undo_29 (by decide) (fun c3 => ?_) (fun c3 => ?_)
  · rw [if_pos c3] at h
    obtain rfl := Option.some.inj h
    exact hT _ rfl
  · rw [if_neg c3] at h
    refine pg_aload_n dX12_undo_32 rfl ?_
    refine eg_get dX12_undo_33 fa_X12_7 hS sp128 (Nat.le_of_ble_eq_true rfl) (Nat.le_of_ble_eq_true rfl) rfl rfl ?_
    refine pg_iload_n dX12_undo_36 rfl ?_
    refine pg_aload_n dX12_undo_37 rfl ?_
    refine eg_get dX12_undo_38 fa_X12_13 hS sp128 (Nat.le_of_ble_eq_true rfl) (Nat.le_of_ble_eq_true rfl) rfl rfl ?_
    refine pg_sipush 487 dX12_undo_41 rfl ?_
    refine pg_aload_n dX12_undo_44 rfl ?_
    refine eg_get dX12_undo_45 fa_X12_42 hS sp128 (Nat.le_of_ble_eq_true rfl) (Nat.le_of_ble_eq_true rfl) rfl rfl ?_
    refine pg_imul dX12_undo_48 ?_
    refine pg_iload_n dX12_undo_49 rfl ?_
    refine pg_iadd dX12_undo_50 ?_
    obtain ⟨g1, h⟩ := gd_at h
    refine eg_ialdJ (((487 * (s.2.1 128 3)) + s.1).toNatClampNeg) dX12_undo_51 hS sp130 (Nat.le_of_ble_eq_true rfl) (Nat.le_of_ble_eq_true rfl) rfl (inR_vp g1) rfl ?_
    obtain ⟨g1, h⟩ := gd_at h
    refine eg_iastJ s.1.toNatClampNeg dX12_undo_52 hS sp129 (Nat.le_of_ble_eq_true rfl) (Nat.le_of_ble_eq_true rfl) (fun _ _ _ => rfl) (inR_vp g1) rfl (fun m4 e_m4 => ?_)
    replace h := lt_at h e_m4
    obtain ⟨w5, e_w5⟩ : ∃ z : Int32, z = s.1 + 1 := ⟨_, rfl⟩
    replace h := lt_at h e_w5
    refine eg_iinc [some (.ref 128), some (.int w5)] w5 1 dX12_undo_53 rfl rfl e_w5 rfl ?_
    refine pg_goto 25 dX12_undo_56 (by decide) ?_
    obtain rfl := Option.some.inj h
    exact hN _ rfl
set_option maxRecDepth 20000 in
set_option maxHeartbeats 4000000 in
theorem ct_X12_undo (hfl : g.1.stackTraces = false) (hS : pS 128 137 S) {m0 : me} {x : (Int32 × me)} (h : f_X12_undo m0 = some x) : pm_Ct g mX12_undo [.ref 128] (en S m0) 0 0 (qI S x) qF := by
  refine pm_of (by decide +kernel) rfl hfl (Nat.le_of_ble_eq_true rfl) (fun X hE => ?_)
  show pm_G g mX12_undo X 0 [some (.ref 128), none] [] (en S m0) 0 0
  unfold f_X12_undo at h
  refine pg_aload_n dX12_undo_0 rfl ?_
  refine eg_get dX12_undo_1 fa_X12_42 hS sp128 (Nat.le_of_ble_eq_true rfl) (Nat.le_of_ble_eq_true rfl) rfl rfl ?_
  refine pg_if_ne 13 dX12_undo_4 (by decide) (fun c1 => ?_) (fun c1 => ?_)
  · rw [if_neg c1] at h
    refine pg_aload_n dX12_undo_13 rfl ?_
    refine pg_dup dX12_undo_14 rfl ?_
    refine eg_get dX12_undo_15 fa_X12_42 hS sp128 (Nat.le_of_ble_eq_true rfl) (Nat.le_of_ble_eq_true rfl) rfl rfl ?_
    refine pg_iconst 1 dX12_undo_18 rfl ?_
    refine pg_isub dX12_undo_19 ?_
    refine eg_put dX12_undo_20 fa_X12_42 hS sp128 (Nat.le_of_ble_eq_true rfl) (Nat.le_of_ble_eq_true rfl) rfl (Nat.le_of_ble_eq_true rfl) rfl (fun m2 e_m2 => ?_)
    replace h := lt_at h e_m2
    refine pg_iconst 0 dX12_undo_23 rfl ?_
    refine eg_istore_n [some (.ref 128), some (.int 0)] 0 dX12_undo_24 rfl (Nat.le_of_ble_eq_true rfl) rfl ?_
    obtain ⟨s6, h_s6, h⟩ := bd_at h
    refine lo_at (b := b_X12_undo_25) (G := (fun z9 : Int32 × me => pm_G g mX12_undo X 25 [some (.ref 128), some (.int z9.1)] [] (en S z9.2) 0 0)) (T := (fun z9 : Int32 × me => pm_G g mX12_undo X 59 [some (.ref 128), some (.int z9.1)] [] (en S z9.2) 0 0)) (fun q9 r9 h1 h2 h3 => lb_X12_undo_25 hfl hS h1 h2 h3) 2048 (0, m2) s6 h_s6 ?_
    show pm_G g mX12_undo X 59 [some (.ref 128), some (.int s6.1)] [] (en S s6.2) 0 0
    refine pg_aload_n dX12_undo_59 rfl ?_
    refine pg_aload_n dX12_undo_60 rfl ?_
    refine eg_get dX12_undo_61 fa_X12_42 hS sp128 (Nat.le_of_ble_eq_true rfl) (Nat.le_of_ble_eq_true rfl) rfl rfl ?_
    obtain ⟨r7, h_r7, h⟩ := bd_at h
    refine eg_cVi (C := mX12_tells) (as := [(.int (s6.2.1 128 3))]) dX12_undo_64 mw822 cv_X12_tells hS sp128 (Nat.le_of_ble_eq_true rfl) (Nat.le_of_ble_eq_true rfl) rfl rfl rfl (Nat.le_of_ble_eq_true rfl) rfl ⟨(Nat.le_of_ble_eq_true rfl), (Nat.le_of_ble_eq_true rfl)⟩ (ct_X12_tells hfl (hS.sub (Nat.le_of_ble_eq_true rfl) (Nat.le_of_ble_eq_true rfl)) h_r7) ?_
    obtain rfl := Option.some.inj h
    exact hE.2.1 _ _ _ _ _ _ .int dX12_undo_67 rfl rfl (Nat.zero_le _) (Nat.zero_le _) ⟨rfl, rfl⟩
  · rw [if_pos c1] at h
    refine pg_aload_n dX12_undo_7 rfl ?_
    refine pg_iconst 1 dX12_undo_8 rfl ?_
    obtain ⟨r8, h_r8, h⟩ := bd_at h
    refine eg_cVi (C := mX12_fails) (as := [(.int 1)]) dX12_undo_9 mw806 cv_X12_fails hS sp128 (Nat.le_of_ble_eq_true rfl) (Nat.le_of_ble_eq_true rfl) rfl rfl rfl (Nat.le_of_ble_eq_true rfl) rfl ⟨(Nat.le_of_ble_eq_true rfl), (Nat.le_of_ble_eq_true rfl)⟩ (ct_X12_fails hfl (hS.sub (Nat.le_of_ble_eq_true rfl) (Nat.le_of_ble_eq_true rfl)) h_r8) ?_
    obtain rfl := Option.some.inj h
    exact hE.2.1 _ _ _ _ _ _ .int dX12_undo_12 rfl rfl (Nat.zero_le _) (Nat.zero_le _) ⟨rfl, rfl⟩
def f_X12_mix (v1 : Int32) (m0 : me) : Option me :=
  lt (wJ m0 128 14 ((31 * (m0.2.1 128 14)) + v1.toInt64)) (fun m1 =>
  some (m1))
set_option maxRecDepth 20000 in
set_option maxHeartbeats 4000000 in
theorem ct_X12_mix (hfl : g.1.stackTraces = false) (hS : pS 128 137 S) {v1 : Int32} {m0 : me} {x : me} (h : f_X12_mix v1 m0 = some x) : pm_Ct g mX12_mix [.ref 128, .int v1] (en S m0) 0 0 (qV S x) qF := by
  refine pm_of (by decide +kernel) rfl hfl (Nat.le_of_ble_eq_true rfl) (fun X hE => ?_)
  show pm_G g mX12_mix X 0 [some (.ref 128), some (.int v1)] [] (en S m0) 0 0
  unfold f_X12_mix at h
  refine pg_aload_n dX12_mix_0 rfl ?_
  refine pg_ldc2 dX12_mix_1 mw1087 ?_
  refine pg_aload_n dX12_mix_4 rfl ?_
  refine eg_get dX12_mix_5 fa_X12_241 hS sp128 (Nat.le_of_ble_eq_true rfl) (Nat.le_of_ble_eq_true rfl) rfl rfl ?_
  refine pg_lmul dX12_mix_8 ?_
  refine pg_iload_n dX12_mix_9 rfl ?_
  refine pg_i2l dX12_mix_10 ?_
  refine pg_ladd dX12_mix_11 ?_
  refine eg_putJ dX12_mix_12 fa_X12_241 hS sp128 (Nat.le_of_ble_eq_true rfl) (Nat.le_of_ble_eq_true rfl) rfl (Nat.le_of_ble_eq_true rfl) rfl (fun m1 e_m1 => ?_)
  replace h := lt_at h e_m1
  obtain rfl := Option.some.inj h
  exact hE.2.2.1 _ _ _ _ _ dX12_mix_15 rfl (Nat.zero_le _) (Nat.zero_le _) ⟨rfl, rfl⟩
def b_X12_mixBridge_2 (v1 : Int32) (s : Int32 × me) : Option ((Int32 × me) ⊕ (Int32 × me)) :=
  if 6 ≤ s.1 then
    some (.inr (s.1, s.2))
  else
    bd (f_X12_bridgeValue v1 s.1 s.2) (fun r2 =>
    bd (f_X12_mix r2.1 r2.2) (fun r3 =>
    lt (s.1 + 1) (fun w4 =>
    some (.inl (w4, r3)))))
def b_X12_mixBridge_26 (v1 : Int32) (s : Int32 × me) : Option ((Int32 × me) ⊕ (Int32 × me)) :=
  if 8 ≤ s.1 then
    some (.inr (s.1, s.2))
  else
    bd (f_X12_entryOf v1 s.1 s.2) (fun r7 =>
    bd (f_X12_mix r7.1 r7.2) (fun r8 =>
    lt (s.1 + 1) (fun w9 =>
    some (.inl (w9, r8)))))
def f_X12_mixBridge (v1 : Int32) (m0 : me) : Option me :=
  bd (lo (b_X12_mixBridge_2 v1) 2048 (0, m0)) (fun s5 =>
  bd (lo (b_X12_mixBridge_26 v1) 2048 (0, s5.2)) (fun s10 =>
  some (s10.2)))
set_option maxRecDepth 20000 in
set_option maxHeartbeats 4000000 in
theorem lb_X12_mixBridge_2 (hfl : g.1.stackTraces = false) (hS : pS 128 137 S) {v1 : Int32} {s : Int32 × me} {r : (Int32 × me) ⊕ (Int32 × me)} (h : b_X12_mixBridge_2 v1 s = some r) (hN : ∀ s', r = .inl s' → (fun z9 : Int32 × me => pm_G g mX12_mixBridge X 2 [some (.ref 128), some (.int v1), some (.int z9.1)] [] (en S z9.2) 0 0) s') (hT : ∀ t, r = .inr t → (fun z9 : Int32 × me => pm_G g mX12_mixBridge X 24 [some (.ref 128), some (.int v1), some (.int z9.1)] [] (en S z9.2) 0 0) t) : (fun z9 : Int32 × me => pm_G g mX12_mixBridge X 2 [some (.ref 128), some (.int v1), some (.int z9.1)] [] (en S z9.2) 0 0) s := by
  unfold b_X12_mixBridge_2 at h
  show pm_G g mX12_mixBridge X 2 [some (.ref 128), some (.int v1), some (.int s.1)] [] (en S s.2) 0 0
  refine pg_iload_n dX12_mixBridge_2 rfl ?_
  refine pg_bipush 6 dX12_mixBridge_3 rfl ?_
  refine pg_icmp_ge 24 dX12_mixBridge_5 (by decide) (fun c1 => ?_) (fun c1 => ?_)
  · rw [if_pos c1] at h
    obtain rfl := Option.some.inj h
    exact hT _ rfl
  · rw [if_neg c1] at h
    refine pg_aload_n dX12_mixBridge_8 rfl ?_
    refine pg_aload_n dX12_mixBridge_9 rfl ?_
    refine pg_iload_n dX12_mixBridge_10 rfl ?_
    refine pg_iload_n dX12_mixBridge_11 rfl ?_
    obtain ⟨r2, h_r2, h⟩ := bd_at h
    refine eg_cVi (C := mX12_bridgeValue) (as := [(.int v1), (.int s.1)]) dX12_mixBridge_12 mw982 cv_X12_bridgeValue hS sp128 (Nat.le_of_ble_eq_true rfl) (Nat.le_of_ble_eq_true rfl) rfl rfl rfl (Nat.le_of_ble_eq_true rfl) rfl ⟨(Nat.le_of_ble_eq_true rfl), (Nat.le_of_ble_eq_true rfl)⟩ (ct_X12_bridgeValue hfl (hS.sub (Nat.le_of_ble_eq_true rfl) (Nat.le_of_ble_eq_true rfl)) h_r2) ?_
    obtain ⟨r3, h_r3, h⟩ := bd_at h
    refine eg_cVv (C := mX12_mix) (as := [(.int r2.1)]) dX12_mixBridge_15 mw1072 cv_X12_mix hS sp128 (Nat.le_of_ble_eq_true rfl) (Nat.le_of_ble_eq_true rfl) rfl rfl rfl (Nat.le_of_ble_eq_true rfl) rfl ⟨(Nat.le_of_ble_eq_true rfl), (Nat.le_of_ble_eq_true rfl)⟩ (ct_X12_mix hfl (hS.sub (Nat.le_of_ble_eq_true rfl) (Nat.le_of_ble_eq_true rfl)) h_r3) ?_
    obtain ⟨w4, e_w4⟩ : ∃ z : Int32, z = s.1 + 1 := ⟨_, rfl⟩
    replace h := lt_at h e_w4
    refine eg_iinc [some (.ref 128), some (.int v1), some (.int w4)] w4 1 dX12_mixBridge_18 rfl rfl e_w4 rfl ?_
    refine pg_goto 2 dX12_mixBridge_21 (by decide) ?_
    obtain rfl := Option.some.inj h
    exact hN _ rfl
set_option maxRecDepth 20000 in
set_option maxHeartbeats 4000000 in
theorem lb_X12_mixBridge_26 (hfl : g.1.stackTraces = false) (hS : pS 128 137 S) {v1 : Int32} {s : Int32 × me} {r : (Int32 × me) ⊕ (Int32 × me)} (h : b_X12_mixBridge_26 v1 s = some r) (hN : ∀ s', r = .inl s' → (fun z9 : Int32 × me => pm_G g mX12_mixBridge X 26 [some (.ref 128), some (.int v1), some (.int z9.1)] [] (en S z9.2) 0 0) s') (hT : ∀ t, r = .inr t → (fun z9 : Int32 × me => pm_G g mX12_mixBridge X 48 [some (.ref 128), some (.int v1), some (.int z9.1)] [] (en S z9.2) 0 0) t) : (fun z9 : Int32 × me => pm_G g mX12_mixBridge X 26 [some (.ref 128), some (.int v1), some (.int z9.1)] [] (en S z9.2) 0 0) s := by
  unfold b_X12_mixBridge_26 at h
  show pm_G g mX12_mixBridge X 26 [some (.ref 128), some (.int v1), some (.int s.1)] [] (en S s.2) 0 0
  refine pg_iload_n dX12_mixBridge_26 rfl ?_
  refine pg_bipush 8 dX12_mixBridge_27 rfl ?_
  refine pg_icmp_ge 48 dX12_mixBridge_29 (by decide) (fun c6 => ?_) (fun c6 => ?_)
  · rw [if_pos c6] at h
    obtain rfl := Option.some.inj h
    exact hT _ rfl
  · rw [if_neg c6] at h
    refine pg_aload_n dX12_mixBridge_32 rfl ?_
    refine pg_aload_n dX12_mixBridge_33 rfl ?_
    refine pg_iload_n dX12_mixBridge_34 rfl ?_
    refine pg_iload_n dX12_mixBridge_35 rfl ?_
    obtain ⟨r7, h_r7, h⟩ := bd_at h
    refine eg_cVi (C := mX12_entryOf) (as := [(.int v1), (.int s.1)]) dX12_mixBridge_36 mw977 cv_X12_entryOf hS sp128 (Nat.le_of_ble_eq_true rfl) (Nat.le_of_ble_eq_true rfl) rfl rfl rfl (Nat.le_of_ble_eq_true rfl) rfl ⟨(Nat.le_of_ble_eq_true rfl), (Nat.le_of_ble_eq_true rfl)⟩ (ct_X12_entryOf hfl (hS.sub (Nat.le_of_ble_eq_true rfl) (Nat.le_of_ble_eq_true rfl)) h_r7) ?_
    obtain ⟨r8, h_r8, h⟩ := bd_at h
    refine eg_cVv (C := mX12_mix) (as := [(.int r7.1)]) dX12_mixBridge_39 mw1072 cv_X12_mix hS sp128 (Nat.le_of_ble_eq_true rfl) (Nat.le_of_ble_eq_true rfl) rfl rfl rfl (Nat.le_of_ble_eq_true rfl) rfl ⟨(Nat.le_of_ble_eq_true rfl), (Nat.le_of_ble_eq_true rfl)⟩ (ct_X12_mix hfl (hS.sub (Nat.le_of_ble_eq_true rfl) (Nat.le_of_ble_eq_true rfl)) h_r8) ?_
    obtain ⟨w9, e_w9⟩ : ∃ z : Int32, z = s.1 + 1 := ⟨_, rfl⟩
    replace h := lt_at h e_w9
    refine eg_iinc [some (.ref 128), some (.int v1), some (.int w9)] w9 1 dX12_mixBridge_42 rfl rfl e_w9 rfl ?_
    refine pg_goto 26 dX12_mixBridge_45 (by decide) ?_
    obtain rfl := Option.some.inj h
    exact hN _ rfl
set_option maxRecDepth 20000 in
set_option maxHeartbeats 4000000 in
theorem ct_X12_mixBridge (hfl : g.1.stackTraces = false) (hS : pS 128 137 S) {v1 : Int32} {m0 : me} {x : me} (h : f_X12_mixBridge v1 m0 = some x) : pm_Ct g mX12_mixBridge [.ref 128, .int v1] (en S m0) 0 0 (qV S x) qF := by
  refine pm_of (by decide +kernel) rfl hfl (Nat.le_of_ble_eq_true rfl) (fun X hE => ?_)
  show pm_G g mX12_mixBridge X 0 [some (.ref 128), some (.int v1), none] [] (en S m0) 0 0
  unfold f_X12_mixBridge at h
  refine pg_iconst 0 dX12_mixBridge_0 rfl ?_
  refine eg_istore_n [some (.ref 128), some (.int v1), some (.int 0)] 0 dX12_mixBridge_1 rfl (Nat.le_of_ble_eq_true rfl) rfl ?_
  obtain ⟨s5, h_s5, h⟩ := bd_at h
  refine lo_at (b := b_X12_mixBridge_2 v1) (G := (fun z9 : Int32 × me => pm_G g mX12_mixBridge X 2 [some (.ref 128), some (.int v1), some (.int z9.1)] [] (en S z9.2) 0 0)) (T := (fun z9 : Int32 × me => pm_G g mX12_mixBridge X 24 [some (.ref 128), some (.int v1), some (.int z9.1)] [] (en S z9.2) 0 0)) (fun q9 r9 h1 h2 h3 => lb_X12_mixBridge_2 hfl hS h1 h2 h3) 2048 (0, m0) s5 h_s5 ?_
  show pm_G g mX12_mixBridge X 24 [some (.ref 128), some (.int v1), some (.int s5.1)] [] (en S s5.2) 0 0
  refine pg_iconst 0 dX12_mixBridge_24 rfl ?_
  refine eg_istore_n [some (.ref 128), some (.int v1), some (.int 0)] 0 dX12_mixBridge_25 rfl (Nat.le_of_ble_eq_true rfl) rfl ?_
  obtain ⟨s10, h_s10, h⟩ := bd_at h
  refine lo_at (b := b_X12_mixBridge_26 v1) (G := (fun z9 : Int32 × me => pm_G g mX12_mixBridge X 26 [some (.ref 128), some (.int v1), some (.int z9.1)] [] (en S z9.2) 0 0)) (T := (fun z9 : Int32 × me => pm_G g mX12_mixBridge X 48 [some (.ref 128), some (.int v1), some (.int z9.1)] [] (en S z9.2) 0 0)) (fun q9 r9 h1 h2 h3 => lb_X12_mixBridge_26 hfl hS h1 h2 h3) 2048 (0, s5.2) s10 h_s10 ?_
  show pm_G g mX12_mixBridge X 48 [some (.ref 128), some (.int v1), some (.int s10.1)] [] (en S s10.2) 0 0
  obtain rfl := Option.some.inj h
  exact hE.2.2.1 _ _ _ _ _ dX12_mixBridge_48 rfl (Nat.zero_le _) (Nat.zero_le _) ⟨rfl, rfl⟩
end
