section
variable {g : pm_Gl} {X : pm_X} {S : List sF}
def f_X7_isDigit (v0 : Int32) (m0 : me) : Option (Int32 × me) :=
  if v0 < 48 then
    some ((0, m0))
  else
    if 57 < v0 then
      some ((0, m0))
    else
      some ((1, m0))
set_option maxRecDepth 20000 in
set_option maxHeartbeats 4000000 in
theorem ct_X7_isDigit (hfl : g.1.stackTraces = false) {v0 : Int32} {m0 : me} {x : (Int32 × me)} (h : f_X7_isDigit v0 m0 = some x) : pm_Ct g mX7_isDigit [.int v0] (en S m0) 0 0 (qI S x) qF := by
  refine pm_of (by decide +kernel) rfl hfl (Nat.le_of_ble_eq_true rfl) (fun X hE => ?_)
  show pm_G g mX7_isDigit X 0 [some (.int v0)] [] (en S m0) 0 0
  unfold f_X7_isDigit at h
  refine pg_iload_n dX7_isDigit_0 rfl ?_
  refine pg_bipush 48 dX7_isDigit_1 rfl ?_
  refine pg_icmp_lt 16 dX7_isDigit_3 (by decide) (fun c1 => ?_) (fun c1 => ?_)
  · rw [if_pos c1] at h
    refine pg_iconst 0 dX7_isDigit_16 rfl ?_
    obtain rfl := Option.some.inj h
    exact hE.2.1 _ _ _ _ _ _ .boolean dX7_isDigit_17 rfl rfl (Nat.zero_le _) (Nat.zero_le _) ⟨rfl, rfl⟩
  · rw [if_neg c1] at h
    refine pg_iload_n dX7_isDigit_6 rfl ?_
    refine pg_bipush 57 dX7_isDigit_7 rfl ?_
    refine pg_icmp_gt 16 dX7_isDigit_9 (by decide) (fun c2 => ?_) (fun c2 => ?_)
    · rw [if_pos c2] at h
      refine pg_iconst 0 dX7_isDigit_16 rfl ?_
      obtain rfl := Option.some.inj h
      exact hE.2.1 _ _ _ _ _ _ .boolean dX7_isDigit_17 rfl rfl (Nat.zero_le _) (Nat.zero_le _) ⟨rfl, rfl⟩
    · rw [if_neg c2] at h
      refine pg_iconst 1 dX7_isDigit_12 rfl ?_
      refine pg_goto 17 dX7_isDigit_13 (by decide) ?_
      obtain rfl := Option.some.inj h
      exact hE.2.1 _ _ _ _ _ _ .boolean dX7_isDigit_17 rfl rfl (Nat.zero_le _) (Nat.zero_le _) ⟨rfl, rfl⟩
def b_X7_readNumber_25 (v1 : Int32) (v2 : Int32) (s : Int32 × me) : Option ((Int32 × me) ⊕ (Int32 × me)) :=
  if (s.2.1 111 0) ≤ (s.2.1 111 4) then
    some (.inr (s.1, s.2))
  else
    if (v2 + 4) ≤ (s.2.1 111 4) then
      some (.inr (s.1, s.2))
    else
      gd (inR (s.2.1 111 4) 120) (
      bd (f_X7_isDigit (s.2.1 113 ((s.2.1 111 4).toNatClampNeg)) s.2) (fun r7 =>
      if r7.1 = 0 then
        some (.inr (s.1, r7.2))
      else
        gd (inR (r7.2.1 111 4) 120) (
        lt (((10 * s.1) + (r7.2.1 113 ((r7.2.1 111 4).toNatClampNeg))) - 48) (fun w9 =>
        lt (wI r7.2 111 4 ((r7.2.1 111 4) + 1)) (fun m10 =>
        some (.inl (w9, m10)))))))
def j_X7_readNumber_92 (v1 : Int32) (v2 : Int32) (v3 : Int32) (m0 : me) : Option (Int32 × me) :=
  if (m0.1 111 4) = v2 then
    bd (f_X7_stopHere m0) (fun r14 =>
    gd (isB r14.1) (
    some ((r14.1, r14.2))))
  else
    gd (inR v1 3) (
    lt (wI m0 112 v1.toNatClampNeg v3) (fun m13 =>
    some ((1, m13))))
def f_X7_readNumber (v1 : Int32) (m0 : me) : Option (Int32 × me) :=
  bd (f_X7_byteHere m0) (fun r1 =>
  if r1.1 = 32 then
    bd (f_X7_skipSpaces r1.2) (fun r3 =>
    lt (r3.1 111 4) (fun w4 =>
    bd (lo (b_X7_readNumber_25 v1 w4) 2048 (0, r3)) (fun s11 =>
    j_X7_readNumber_92 v1 w4 s11.1 s11.2)))
  else
    bd (f_X7_stopHere r1.2) (fun r15 =>
    gd (isB r15.1) (
    some ((r15.1, r15.2)))))
set_option maxRecDepth 20000 in
set_option maxHeartbeats 4000000 in
theorem lb_X7_readNumber_25 (hfl : g.1.stackTraces = false) (hS : pS 0 138 S) {v1 : Int32} {v2 : Int32} {s : Int32 × me} {r : (Int32 × me) ⊕ (Int32 × me)} (h : b_X7_readNumber_25 v1 v2 s = some r) (hN : ∀ s', r = .inl s' → (fun z9 : Int32 × me => pm_G g mX7_readNumber X 25 [some (.ref 111), some (.int v1), some (.int v2), some (.int z9.1)] [] (en S z9.2) 0 0) s') (hT : ∀ t, r = .inr t → (fun z9 : Int32 × me => pm_G g mX7_readNumber X 92 [some (.ref 111), some (.int v1), some (.int v2), some (.int z9.1)] [] (en S z9.2) 0 0) t) : (fun z9 : Int32 × me => pm_G g mX7_readNumber X 25 [some (.ref 111), some (.int v1), some (.int v2), some (.int z9.1)] [] (en S z9.2) 0 0) s := by
  unfold b_X7_readNumber_25 at h
  show pm_G g mX7_readNumber X 25 [some (.ref 111), some (.int v1), some (.int v2), some (.int s.1)] [] (en S s.2) 0 0
  refine pg_aload_n dX7_readNumber_25 rfl ?_
  refine eg_get dX7_readNumber_26 fa_X7_26 hS sp111 (Nat.le_of_ble_eq_true rfl) (Nat.le_of_ble_eq_true rfl) rfl rfl ?_
  refine pg_aload_n dX7_readNumber_29 rfl ?_
  refine eg_get dX7_readNumber_30 fa_X7_18 hS sp111 (Nat.le_of_ble_eq_true rfl) (Nat.le_of_ble_eq_true rfl) rfl rfl ?_
  refine pg_icmp_ge 92 dX7_readNumber_33 (by decide) (fun c5 => ?_) (fun c5 => ?_)
  · rw [if_pos c5] at h
    obtain rfl := Option.some.inj h
    exact hT _ rfl
  · rw [if_neg c5] at h
    refine pg_aload_n dX7_readNumber_36 rfl ?_
    refine eg_get dX7_readNumber_37 fa_X7_26 hS sp111 (Nat.le_of_ble_eq_true rfl) (Nat.le_of_ble_eq_true rfl) rfl rfl ?_
    refine pg_iload_n dX7_readNumber_40 rfl ?_
    refine pg_iconst 4 dX7_readNumber_41 rfl ?_
    refine pg_iadd dX7_readNumber_42 ?_
    refine pg_icmp_ge 92 dX7_readNumber_43 (by decide) (fun c6 => ?_) (fun c6 => ?_)
    · rw [if_pos c6] at h
      obtain rfl := Option.some.inj h
      exact hT _ rfl
    · rw [if_neg c6] at h
      refine pg_aload_n dX7_readNumber_46 rfl ?_
      refine eg_get dX7_readNumber_47 fa_X7_15 hS sp111 (Nat.le_of_ble_eq_true rfl) (Nat.le_of_ble_eq_true rfl) rfl rfl ?_
      refine pg_aload_n dX7_readNumber_50 rfl ?_
      refine eg_get dX7_readNumber_51 fa_X7_26 hS sp111 (Nat.le_of_ble_eq_true rfl) (Nat.le_of_ble_eq_true rfl) rfl rfl ?_
      obtain ⟨g1, h⟩ := gd_at h
      refine eg_ialdJ ((s.2.1 111 4).toNatClampNeg) dX7_readNumber_54 hS sp113 (Nat.le_of_ble_eq_true rfl) (Nat.le_of_ble_eq_true rfl) rfl (inR_vp g1) rfl ?_
      obtain ⟨r7, h_r7, h⟩ := bd_at h
      refine eg_cSi (C := mX7_isDigit) (as := [(.int (s.2.1 113 ((s.2.1 111 4).toNatClampNeg)))]) dX7_readNumber_55 mw276 cs_X7_isDigit rfl rfl (Nat.le_of_ble_eq_true rfl) rfl ⟨(Nat.le_of_ble_eq_true rfl), (Nat.le_of_ble_eq_true rfl)⟩ (ct_X7_isDigit hfl h_r7) ?_
      refine pg_if_eq 92 dX7_readNumber_58 (by decide) (fun c8 => ?_) (fun c8 => ?_)
      · rw [if_pos c8] at h
        obtain rfl := Option.some.inj h
        exact hT _ rfl
      · rw [if_neg c8] at h
        refine pg_bipush 10 dX7_readNumber_61 rfl ?_
        refine pg_iload_n dX7_readNumber_63 rfl ?_
        refine pg_imul dX7_readNumber_64 ?_
        refine pg_aload_n dX7_readNumber_65 rfl ?_
        refine eg_get dX7_readNumber_66 fa_X7_15 hS sp111 (Nat.le_of_ble_eq_true rfl) (Nat.le_of_ble_eq_true rfl) rfl rfl ?_
        refine pg_aload_n dX7_readNumber_69 rfl ?_
        refine eg_get dX7_readNumber_70 fa_X7_26 hS sp111 (Nat.le_of_ble_eq_true rfl) (Nat.le_of_ble_eq_true rfl) rfl rfl ?_
        obtain ⟨g1, h⟩ := gd_at h
        refine eg_ialdJ ((r7.2.1 111 4).toNatClampNeg) dX7_readNumber_73 hS sp113 (Nat.le_of_ble_eq_true rfl) (Nat.le_of_ble_eq_true rfl) rfl (inR_vp g1) rfl ?_
        refine pg_iadd dX7_readNumber_74 ?_
        refine pg_bipush 48 dX7_readNumber_75 rfl ?_
        refine pg_isub dX7_readNumber_77 ?_
        obtain ⟨w9, e_w9⟩ : ∃ z : Int32, z = ((10 * s.1) + (r7.2.1 113 ((r7.2.1 111 4).toNatClampNeg))) - 48 := ⟨_, rfl⟩
        replace h := lt_at h e_w9
        refine eg_istore_n [some (.ref 111), some (.int v1), some (.int v2), some (.int w9)] w9 dX7_readNumber_78 e_w9 (Nat.le_of_ble_eq_true rfl) rfl ?_
        refine pg_aload_n dX7_readNumber_79 rfl ?_
        refine pg_dup dX7_readNumber_80 rfl ?_
        refine eg_get dX7_readNumber_81 fa_X7_26 hS sp111 (Nat.le_of_ble_eq_true rfl) (Nat.le_of_ble_eq_true rfl) rfl rfl ?_
        refine pg_iconst 1 dX7_readNumber_84 rfl ?_
        refine pg_iadd dX7_readNumber_85 ?_
        refine eg_put dX7_readNumber_86 fa_X7_26 hS sp111 (Nat.le_of_ble_eq_true rfl) (Nat.le_of_ble_eq_true rfl) rfl (Nat.le_of_ble_eq_true rfl) rfl (fun m10 e_m10 => ?_)
        replace h := lt_at h e_m10
        refine pg_goto 25 dX7_readNumber_89 (by decide) ?_
        obtain rfl := Option.some.inj h
        exact hN _ rfl
set_option maxRecDepth 20000 in
set_option maxHeartbeats 4000000 in
theorem lj_X7_readNumber_92 (hfl : g.1.stackTraces = false) (hS : pS 0 138 S) {v1 : Int32} {v2 : Int32} {v3 : Int32} {m0 : me} {r : (Int32 × me)} (h : j_X7_readNumber_92 v1 v2 v3 m0 = some r) (hE : pm_End g mX7_readNumber X 0 0 (qI S r) qF) : pm_G g mX7_readNumber X 92 [some (.ref 111), some (.int v1), some (.int v2), some (.int v3)] [] (en S m0) 0 0 := by
  unfold j_X7_readNumber_92 at h
  refine pg_aload_n dX7_readNumber_92 rfl ?_
  refine eg_get dX7_readNumber_93 fa_X7_26 hS sp111 (Nat.le_of_ble_eq_true rfl) (Nat.le_of_ble_eq_true rfl) rfl rfl ?_
  refine pg_iload_n dX7_readNumber_96 rfl ?_
  refine pg_icmp_ne 105 dX7_readNumber_97 (by decide) (fun c12 => ?_) (fun c12 => ?_)
  · rw [if_neg c12] at h
    refine pg_aload_n dX7_readNumber_105 rfl ?_
    refine eg_get dX7_readNumber_106 fa_X7_11 hS sp111 (Nat.le_of_ble_eq_true rfl) (Nat.le_of_ble_eq_true rfl) rfl rfl ?_
    refine pg_iload_n dX7_readNumber_109 rfl ?_
    refine pg_iload_n dX7_readNumber_110 rfl ?_
    obtain ⟨g1, h⟩ := gd_at h
    refine eg_iastJ v1.toNatClampNeg dX7_readNumber_111 hS sp112 (Nat.le_of_ble_eq_true rfl) (Nat.le_of_ble_eq_true rfl) (fun _ _ _ => rfl) (inR_vp g1) rfl (fun m13 e_m13 => ?_)
    replace h := lt_at h e_m13
    refine pg_iconst 1 dX7_readNumber_112 rfl ?_
    obtain rfl := Option.some.inj h
    exact hE.2.1 _ _ _ _ _ _ .boolean dX7_readNumber_113 rfl rfl (Nat.zero_le _) (Nat.zero_le _) ⟨rfl, rfl⟩
  · rw [if_pos c12] at h
    refine pg_aload_n dX7_readNumber_100 rfl ?_
    obtain ⟨r14, h_r14, h⟩ := bd_at h
    refine eg_cVi (C := mX7_stopHere) (as := []) dX7_readNumber_101 mw261 cv_X7_stopHere hS sp111 (Nat.le_of_ble_eq_true rfl) (Nat.le_of_ble_eq_true rfl) rfl rfl rfl (Nat.le_of_ble_eq_true rfl) rfl ⟨(Nat.le_of_ble_eq_true rfl), (Nat.le_of_ble_eq_true rfl)⟩ (ct_X7_stopHere hfl (hS.sub (Nat.le_of_ble_eq_true rfl) (Nat.le_of_ble_eq_true rfl)) h_r14) ?_
    obtain ⟨g1, h⟩ := gd_at h
    obtain rfl := Option.some.inj h
    exact hE.2.1 _ _ _ _ _ _ .boolean dX7_readNumber_104 rfl (isB_nar g1) (Nat.zero_le _) (Nat.zero_le _) ⟨rfl, rfl⟩
set_option maxRecDepth 20000 in
set_option maxHeartbeats 4000000 in
theorem ct_X7_readNumber (hfl : g.1.stackTraces = false) (hS : pS 0 138 S) {v1 : Int32} {m0 : me} {x : (Int32 × me)} (h : f_X7_readNumber v1 m0 = some x) : pm_Ct g mX7_readNumber [.ref 111, .int v1] (en S m0) 0 0 (qI S x) qF := by
  refine pm_of (by decide +kernel) rfl hfl (Nat.le_of_ble_eq_true rfl) (fun X hE => ?_)
  show pm_G g mX7_readNumber X 0 [some (.ref 111), some (.int v1), none, none] [] (en S m0) 0 0
  unfold f_X7_readNumber at h
  refine pg_aload_n dX7_readNumber_0 rfl ?_
  obtain ⟨r1, h_r1, h⟩ := bd_at h
  refine eg_cVi (C := mX7_byteHere) (as := []) dX7_readNumber_1 mw256 cv_X7_byteHere hS sp111 (Nat.le_of_ble_eq_true rfl) (Nat.le_of_ble_eq_true rfl) rfl rfl rfl (Nat.le_of_ble_eq_true rfl) rfl ⟨(Nat.le_of_ble_eq_true rfl), (Nat.le_of_ble_eq_true rfl)⟩ (ct_X7_byteHere hfl (hS.sub (Nat.le_of_ble_eq_true rfl) (Nat.le_of_ble_eq_true rfl)) h_r1) ?_
  refine pg_bipush 32 dX7_readNumber_4 rfl ?_
  refine pg_icmp_eq 14 dX7_readNumber_6 (by decide) (fun c2 => ?_) (fun c2 => ?_)
  · rw [if_pos c2] at h
    refine pg_aload_n dX7_readNumber_14 rfl ?_
    obtain ⟨r3, h_r3, h⟩ := bd_at h
    refine eg_cVv (C := mX7_skipSpaces) (as := []) dX7_readNumber_15 mw239 cv_X7_skipSpaces hS sp111 (Nat.le_of_ble_eq_true rfl) (Nat.le_of_ble_eq_true rfl) rfl rfl rfl (Nat.le_of_ble_eq_true rfl) rfl ⟨(Nat.le_of_ble_eq_true rfl), (Nat.le_of_ble_eq_true rfl)⟩ (ct_X7_skipSpaces hfl (hS.sub (Nat.le_of_ble_eq_true rfl) (Nat.le_of_ble_eq_true rfl)) h_r3) ?_
    refine pg_aload_n dX7_readNumber_18 rfl ?_
    refine eg_get dX7_readNumber_19 fa_X7_26 hS sp111 (Nat.le_of_ble_eq_true rfl) (Nat.le_of_ble_eq_true rfl) rfl rfl ?_
    obtain ⟨w4, e_w4⟩ : ∃ z : Int32, z = r3.1 111 4 := ⟨_, rfl⟩
    replace h := lt_at h e_w4
    refine eg_istore_n [some (.ref 111), some (.int v1), some (.int w4), none] w4 dX7_readNumber_22 e_w4 (Nat.le_of_ble_eq_true rfl) rfl ?_
    refine pg_iconst 0 dX7_readNumber_23 rfl ?_
    refine eg_istore_n [some (.ref 111), some (.int v1), some (.int w4), some (.int 0)] 0 dX7_readNumber_24 rfl (Nat.le_of_ble_eq_true rfl) rfl ?_
    obtain ⟨s11, h_s11, h⟩ := bd_at h
    refine lo_at (b := b_X7_readNumber_25 v1 w4) (G := (fun z9 : Int32 × me => pm_G g mX7_readNumber X 25 [some (.ref 111), some (.int v1), some (.int w4), some (.int z9.1)] [] (en S z9.2) 0 0)) (T := (fun z9 : Int32 × me => pm_G g mX7_readNumber X 92 [some (.ref 111), some (.int v1), some (.int w4), some (.int z9.1)] [] (en S z9.2) 0 0)) (fun q9 r9 h1 h2 h3 => lb_X7_readNumber_25 hfl hS h1 h2 h3) 2048 (0, r3) s11 h_s11 ?_
    show pm_G g mX7_readNumber X 92 [some (.ref 111), some (.int v1), some (.int w4), some (.int s11.1)] [] (en S s11.2) 0 0
    exact lj_X7_readNumber_92 hfl hS h hE
  · rw [if_neg c2] at h
    refine pg_aload_n dX7_readNumber_9 rfl ?_
    obtain ⟨r15, h_r15, h⟩ := bd_at h
    refine eg_cVi (C := mX7_stopHere) (as := []) dX7_readNumber_10 mw261 cv_X7_stopHere hS sp111 (Nat.le_of_ble_eq_true rfl) (Nat.le_of_ble_eq_true rfl) rfl rfl rfl (Nat.le_of_ble_eq_true rfl) rfl ⟨(Nat.le_of_ble_eq_true rfl), (Nat.le_of_ble_eq_true rfl)⟩ (ct_X7_stopHere hfl (hS.sub (Nat.le_of_ble_eq_true rfl) (Nat.le_of_ble_eq_true rfl)) h_r15) ?_
    obtain ⟨g1, h⟩ := gd_at h
    obtain rfl := Option.some.inj h
    exact hE.2.1 _ _ _ _ _ _ .boolean dX7_readNumber_13 rfl (isB_nar g1) (Nat.zero_le _) (Nat.zero_le _) ⟨rfl, rfl⟩
def b_X7_readCommand_28 (s : Int32 × me) : Option ((Int32 × me) ⊕ (Int32 × me)) :=
  if 3 ≤ s.1 then
    some (.inr (s.1, s.2))
  else
    gd (inR s.1 3) (
    lt (wI s.2 112 s.1.toNatClampNeg 0) (fun m6 =>
    lt (s.1 + 1) (fun w7 =>
    some (.inl (w7, m6)))))
def b_X7_readCommand_48 (s : Int32 × me) : Option ((Int32 × me) ⊕ ((Int32 × me) ⊕ (Int32 × me))) :=
  gd (inR (s.2.1 111 1) 7) (
  if (pm_nums (s.2.1 111 1).toNatClampNeg) ≤ s.1 then
    some (.inr (.inl (s.1, s.2)))
  else
    if 3 ≤ s.1 then
      some (.inr (.inl (s.1, s.2)))
    else
      bd (f_X7_readNumber s.1 s.2) (fun r11 =>
      if r11.1 = 0 then
        some (.inr (.inr ((0, r11.2))))
      else
        lt (s.1 + 1) (fun w13 =>
        some (.inl (w13, r11.2)))))
def j_X7_readCommand_81 (m0 : me) : Option (Int32 × me) :=
  bd (f_X7_skipSpaces m0) (fun r17 =>
  bd (f_X7_byteHere r17) (fun r18 =>
  if r18.1 = 59 then
    lt (wI r18.2 111 4 ((r18.2.1 111 4) + 1)) (fun m20 =>
    some ((1, m20)))
  else
    bd (f_X7_stopHere r18.2) (fun r21 =>
    gd (isB r21.1) (
    some ((r21.1, r21.2))))))
def f_X7_readCommand (m0 : me) : Option (Int32 × me) :=
  bd (f_X7_skipSpaces m0) (fun r1 =>
  if (r1.1 111 4) < (r1.1 111 0) then
    bd (f_X7_readWord r1) (fun r3 =>
    if r3.1 = 0 then
      some ((0, r3.2))
    else
      bd (lo (b_X7_readCommand_28) 2048 (0, r3.2)) (fun s8 =>
      bd (lo (b_X7_readCommand_48) 2048 (0, s8.2)) (fun s14 =>
      sm s14 (fun s15 =>
        j_X7_readCommand_81 s15.2) (fun x16 => some x16))))
  else
    some ((0, r1)))
set_option maxRecDepth 20000 in
set_option maxHeartbeats 4000000 in
theorem lb_X7_readCommand_28 (hfl : g.1.stackTraces = false) (hS : pS 0 138 S) {s : Int32 × me} {r : (Int32 × me) ⊕ (Int32 × me)} (h : b_X7_readCommand_28 s = some r) (hN : ∀ s', r = .inl s' → (fun z9 : Int32 × me => pm_G g mX7_readCommand X 28 [some (.ref 111), some (.int z9.1)] [] (en S z9.2) 0 0) s') (hT : ∀ t, r = .inr t → (fun z9 : Int32 × me => pm_G g mX7_readCommand X 46 [some (.ref 111), some (.int z9.1)] [] (en S z9.2) 0 0) t) : (fun z9 : Int32 × me => pm_G g mX7_readCommand X 28 [some (.ref 111), some (.int z9.1)] [] (en S z9.2) 0 0) s := by
  unfold b_X7_readCommand_28 at h
  show pm_G g mX7_readCommand X 28 [some (.ref 111), some (.int s.1)] [] (en S s.2) 0 0
  refine pg_iload_n dX7_readCommand_28 rfl ?_
  refine pg_iconst 3 dX7_readCommand_29 rfl ?_
  refine pg_icmp_ge 46 dX7_readCommand_30 (by decide) (fun c5 => ?_) (fun c5 => ?_)
  · rw [if_pos c5] at h
    obtain rfl := Option.some.inj h
    exact hT _ rfl
  · rw [if_neg c5] at h
    refine pg_aload_n dX7_readCommand_33 rfl ?_
    refine eg_get dX7_readCommand_34 fa_X7_11 hS sp111 (Nat.le_of_ble_eq_true rfl) (Nat.le_of_ble_eq_true rfl) rfl rfl ?_
    refine pg_iload_n dX7_readCommand_37 rfl ?_
    refine pg_iconst 0 dX7_readCommand_38 rfl ?_
    obtain ⟨g1, h⟩ := gd_at h
    refine eg_iastJ s.1.toNatClampNeg dX7_readCommand_39 hS sp112 (Nat.le_of_ble_eq_true rfl) (Nat.le_of_ble_eq_true rfl) (fun _ _ _ => rfl) (inR_vp g1) rfl (fun m6 e_m6 => ?_)
    replace h := lt_at h e_m6
    obtain ⟨w7, e_w7⟩ : ∃ z : Int32, z = s.1 + 1 := ⟨_, rfl⟩
    replace h := lt_at h e_w7
    refine eg_iinc [some (.ref 111), some (.int w7)] w7 1 dX7_readCommand_40 rfl rfl e_w7 rfl ?_
    refine pg_goto 28 dX7_readCommand_43 (by decide) ?_
    obtain rfl := Option.some.inj h
    exact hN _ rfl
set_option maxRecDepth 20000 in
set_option maxHeartbeats 4000000 in
theorem lb_X7_readCommand_48 (hfl : g.1.stackTraces = false) (hS : pS 0 138 S) {s : Int32 × me} {r : (Int32 × me) ⊕ ((Int32 × me) ⊕ (Int32 × me))} (h : b_X7_readCommand_48 s = some r) (hN : ∀ s', r = .inl s' → (fun z9 : Int32 × me => pm_G g mX7_readCommand X 48 [some (.ref 111), some (.int z9.1)] [] (en S z9.2) 0 0) s') (hT : ∀ t, r = .inr t → (fun z8 : ((Int32 × me) ⊕ (Int32 × me)) => (∀ z9, z8 = .inl z9 → pm_G g mX7_readCommand X 81 [some (.ref 111), some (.int z9.1)] [] (en S z9.2) 0 0) ∧ (∀ x9, z8 = .inr x9 → pm_End g mX7_readCommand X 0 0 (qI S x9) qF)) t) : (fun z9 : Int32 × me => pm_G g mX7_readCommand X 48 [some (.ref 111), some (.int z9.1)] [] (en S z9.2) 0 0) s := by
  unfold b_X7_readCommand_48 at h
  show pm_G g mX7_readCommand X 48 [some (.ref 111), some (.int s.1)] [] (en S s.2) 0 0
  refine pg_iload_n dX7_readCommand_48 rfl ?_
  refine pg_gets dX7_readCommand_49 mw249 ?_
  refine pg_aload_n dX7_readCommand_52 rfl ?_
  refine eg_get dX7_readCommand_53 fa_X7_47 hS sp111 (Nat.le_of_ble_eq_true rfl) (Nat.le_of_ble_eq_true rfl) rfl rfl ?_
  obtain ⟨g1, h⟩ := gd_at h
  refine pg_nums dX7_readCommand_56 (inR_vp g1) ?_
  refine pg_icmp_ge 81 dX7_readCommand_57 (by decide) (fun c9 => ?_) (fun c9 => ?_)
  · rw [if_pos c9] at h
    obtain rfl := Option.some.inj h
    exact (hT _ rfl).1 _ rfl
  · rw [if_neg c9] at h
    refine pg_iload_n dX7_readCommand_60 rfl ?_
    refine pg_iconst 3 dX7_readCommand_61 rfl ?_
    refine pg_icmp_ge 81 dX7_readCommand_62 (by decide) (fun c10 => ?_) (fun c10 => ?_)
    · rw [if_pos c10] at h
      obtain rfl := Option.some.inj h
      exact (hT _ rfl).1 _ rfl
    · rw [if_neg c10] at h
      refine pg_aload_n dX7_readCommand_65 rfl ?_
      refine pg_iload_n dX7_readCommand_66 rfl ?_
      obtain ⟨r11, h_r11, h⟩ := bd_at h
      refine eg_cVi (C := mX7_readNumber) (as := [(.int s.1)]) dX7_readCommand_67 mw251 cv_X7_readNumber hS sp111 (Nat.le_of_ble_eq_true rfl) (Nat.le_of_ble_eq_true rfl) rfl rfl rfl (Nat.le_of_ble_eq_true rfl) rfl ⟨(Nat.le_of_ble_eq_true rfl), (Nat.le_of_ble_eq_true rfl)⟩ (ct_X7_readNumber hfl (hS.sub (Nat.le_of_ble_eq_true rfl) (Nat.le_of_ble_eq_true rfl)) h_r11) ?_
      refine pg_if_ne 75 dX7_readCommand_70 (by decide) (fun c12 => ?_) (fun c12 => ?_)
      · rw [if_neg c12] at h
        obtain ⟨w13, e_w13⟩ : ∃ z : Int32, z = s.1 + 1 := ⟨_, rfl⟩
        replace h := lt_at h e_w13
        refine eg_iinc [some (.ref 111), some (.int w13)] w13 1 dX7_readCommand_75 rfl rfl e_w13 rfl ?_
        refine pg_goto 48 dX7_readCommand_78 (by decide) ?_
        obtain rfl := Option.some.inj h
        exact hN _ rfl
      · rw [if_pos c12] at h
        refine pg_iconst 0 dX7_readCommand_73 rfl ?_
        obtain rfl := Option.some.inj h
        exact ((hT _ rfl).2 _ rfl).2.1 _ _ _ _ _ _ .boolean dX7_readCommand_74 rfl rfl (Nat.zero_le _) (Nat.zero_le _) ⟨rfl, rfl⟩
set_option maxRecDepth 20000 in
set_option maxHeartbeats 4000000 in
theorem lj_X7_readCommand_81 (hfl : g.1.stackTraces = false) (hS : pS 0 138 S) {m0 : me} {r : (Int32 × me)} (h : j_X7_readCommand_81 m0 = some r) (hE : pm_End g mX7_readCommand X 0 0 (qI S r) qF) : pm_G g mX7_readCommand X 81 [some (.ref 111), none] [] (en S m0) 0 0 := by
  unfold j_X7_readCommand_81 at h
  refine pg_aload_n dX7_readCommand_81 rfl ?_
  obtain ⟨r17, h_r17, h⟩ := bd_at h
  refine eg_cVv (C := mX7_skipSpaces) (as := []) dX7_readCommand_82 mw239 cv_X7_skipSpaces hS sp111 (Nat.le_of_ble_eq_true rfl) (Nat.le_of_ble_eq_true rfl) rfl rfl rfl (Nat.le_of_ble_eq_true rfl) rfl ⟨(Nat.le_of_ble_eq_true rfl), (Nat.le_of_ble_eq_true rfl)⟩ (ct_X7_skipSpaces hfl (hS.sub (Nat.le_of_ble_eq_true rfl) (Nat.le_of_ble_eq_true rfl)) h_r17) ?_
  refine pg_aload_n dX7_readCommand_85 rfl ?_
  obtain ⟨r18, h_r18, h⟩ := bd_at h
  refine eg_cVi (C := mX7_byteHere) (as := []) dX7_readCommand_86 mw256 cv_X7_byteHere hS sp111 (Nat.le_of_ble_eq_true rfl) (Nat.le_of_ble_eq_true rfl) rfl rfl rfl (Nat.le_of_ble_eq_true rfl) rfl ⟨(Nat.le_of_ble_eq_true rfl), (Nat.le_of_ble_eq_true rfl)⟩ (ct_X7_byteHere hfl (hS.sub (Nat.le_of_ble_eq_true rfl) (Nat.le_of_ble_eq_true rfl)) h_r18) ?_
  refine pg_bipush 59 dX7_readCommand_89 rfl ?_
  refine pg_icmp_eq 99 dX7_readCommand_91 (by decide) (fun c19 => ?_) (fun c19 => ?_)
  · rw [if_pos c19] at h
    refine pg_aload_n dX7_readCommand_99 rfl ?_
    refine pg_dup dX7_readCommand_100 rfl ?_
    refine eg_get dX7_readCommand_101 fa_X7_26 hS sp111 (Nat.le_of_ble_eq_true rfl) (Nat.le_of_ble_eq_true rfl) rfl rfl ?_
    refine pg_iconst 1 dX7_readCommand_104 rfl ?_
    refine pg_iadd dX7_readCommand_105 ?_
    refine eg_put dX7_readCommand_106 fa_X7_26 hS sp111 (Nat.le_of_ble_eq_true rfl) (Nat.le_of_ble_eq_true rfl) rfl (Nat.le_of_ble_eq_true rfl) rfl (fun m20 e_m20 => ?_)
    replace h := lt_at h e_m20
    refine pg_iconst 1 dX7_readCommand_109 rfl ?_
    obtain rfl := Option.some.inj h
    exact hE.2.1 _ _ _ _ _ _ .boolean dX7_readCommand_110 rfl rfl (Nat.zero_le _) (Nat.zero_le _) ⟨rfl, rfl⟩
  · rw [if_neg c19] at h
    refine pg_aload_n dX7_readCommand_94 rfl ?_
    obtain ⟨r21, h_r21, h⟩ := bd_at h
    refine eg_cVi (C := mX7_stopHere) (as := []) dX7_readCommand_95 mw261 cv_X7_stopHere hS sp111 (Nat.le_of_ble_eq_true rfl) (Nat.le_of_ble_eq_true rfl) rfl rfl rfl (Nat.le_of_ble_eq_true rfl) rfl ⟨(Nat.le_of_ble_eq_true rfl), (Nat.le_of_ble_eq_true rfl)⟩ (ct_X7_stopHere hfl (hS.sub (Nat.le_of_ble_eq_true rfl) (Nat.le_of_ble_eq_true rfl)) h_r21) ?_
    obtain ⟨g1, h⟩ := gd_at h
    obtain rfl := Option.some.inj h
    exact hE.2.1 _ _ _ _ _ _ .boolean dX7_readCommand_98 rfl (isB_nar g1) (Nat.zero_le _) (Nat.zero_le _) ⟨rfl, rfl⟩
set_option maxRecDepth 20000 in
set_option maxHeartbeats 4000000 in
theorem ct_X7_readCommand (hfl : g.1.stackTraces = false) (hS : pS 0 138 S) {m0 : me} {x : (Int32 × me)} (h : f_X7_readCommand m0 = some x) : pm_Ct g mX7_readCommand [.ref 111] (en S m0) 0 0 (qI S x) qF := by
  refine pm_of (by decide +kernel) rfl hfl (Nat.le_of_ble_eq_true rfl) (fun X hE => ?_)
  show pm_G g mX7_readCommand X 0 [some (.ref 111), none] [] (en S m0) 0 0
  unfold f_X7_readCommand at h
  refine pg_aload_n dX7_readCommand_0 rfl ?_
  obtain ⟨r1, h_r1, h⟩ := bd_at h
  refine eg_cVv (C := mX7_skipSpaces) (as := []) dX7_readCommand_1 mw239 cv_X7_skipSpaces hS sp111 (Nat.le_of_ble_eq_true rfl) (Nat.le_of_ble_eq_true rfl) rfl rfl rfl (Nat.le_of_ble_eq_true rfl) rfl ⟨(Nat.le_of_ble_eq_true rfl), (Nat.le_of_ble_eq_true rfl)⟩ (ct_X7_skipSpaces hfl (hS.sub (Nat.le_of_ble_eq_true rfl) (Nat.le_of_ble_eq_true rfl)) h_r1) ?_
  refine pg_aload_n dX7_readCommand_4 rfl ?_
  refine eg_get dX7_readCommand_5 fa_X7_26 hS sp111 (Nat.le_of_ble_eq_true rfl) (Nat.le_of_ble_eq_true rfl) rfl rfl ?_
  refine pg_aload_n dX7_readCommand_8 rfl ?_
  refine eg_get dX7_readCommand_9 fa_X7_18 hS sp111 (Nat.le_of_ble_eq_true rfl) (Nat.le_of_ble_eq_true rfl) rfl rfl ?_
  refine pg_icmp_lt 17 dX7_readCommand_12 (by decide) (fun c2 => ?_) (fun c2 => ?_)
  · rw [if_pos c2] at h
    refine pg_aload_n dX7_readCommand_17 rfl ?_
    obtain ⟨r3, h_r3, h⟩ := bd_at h
    refine eg_cVi (C := mX7_readWord) (as := []) dX7_readCommand_18 mw244 cv_X7_readWord hS sp111 (Nat.le_of_ble_eq_true rfl) (Nat.le_of_ble_eq_true rfl) rfl rfl rfl (Nat.le_of_ble_eq_true rfl) rfl ⟨(Nat.le_of_ble_eq_true rfl), (Nat.le_of_ble_eq_true rfl)⟩ (ct_X7_readWord hfl (hS.sub (Nat.le_of_ble_eq_true rfl) (Nat.le_of_ble_eq_true rfl)) h_r3) ?_
    refine pg_if_ne 26 dX7_readCommand_21 (by decide) (fun c4 => ?_) (fun c4 => ?_)
    · rw [if_neg c4] at h
      refine pg_iconst 0 dX7_readCommand_26 rfl ?_
      refine eg_istore_n [some (.ref 111), some (.int 0)] 0 dX7_readCommand_27 rfl (Nat.le_of_ble_eq_true rfl) rfl ?_
      obtain ⟨s8, h_s8, h⟩ := bd_at h
      refine lo_at (b := b_X7_readCommand_28) (G := (fun z9 : Int32 × me => pm_G g mX7_readCommand X 28 [some (.ref 111), some (.int z9.1)] [] (en S z9.2) 0 0)) (T := (fun z9 : Int32 × me => pm_G g mX7_readCommand X 46 [some (.ref 111), some (.int z9.1)] [] (en S z9.2) 0 0)) (fun q9 r9 h1 h2 h3 => lb_X7_readCommand_28 hfl hS h1 h2 h3) 2048 (0, r3.2) s8 h_s8 ?_
      show pm_G g mX7_readCommand X 46 [some (.ref 111), some (.int s8.1)] [] (en S s8.2) 0 0
      refine pg_iconst 0 dX7_readCommand_46 rfl ?_
      refine eg_istore_n [some (.ref 111), some (.int 0)] 0 dX7_readCommand_47 rfl (Nat.le_of_ble_eq_true rfl) rfl ?_
      obtain ⟨s14, h_s14, h⟩ := bd_at h
      refine lo_at (b := b_X7_readCommand_48) (G := (fun z9 : Int32 × me => pm_G g mX7_readCommand X 48 [some (.ref 111), some (.int z9.1)] [] (en S z9.2) 0 0)) (T := (fun z8 : ((Int32 × me) ⊕ (Int32 × me)) => (∀ z9, z8 = .inl z9 → pm_G g mX7_readCommand X 81 [some (.ref 111), some (.int z9.1)] [] (en S z9.2) 0 0) ∧ (∀ x9, z8 = .inr x9 → pm_End g mX7_readCommand X 0 0 (qI S x9) qF))) (fun q9 r9 h1 h2 h3 => lb_X7_readCommand_48 hfl hS h1 h2 h3) 2048 (0, s8.2) s14 h_s14 ⟨fun s15 k_s15 => ?_, fun x16 k_x16 => ?_⟩
      · rw [k_s15] at h
        replace h := sm_l h
        show pm_G g mX7_readCommand X 81 [some (.ref 111), some (.int s15.1)] [] (en S s15.2) 0 0
        refine eg_forget [some (.ref 111), none] (show pm_sub _ _ from ⟨rfl, trivial⟩) ?_
        exact lj_X7_readCommand_81 hfl hS h hE
      · rw [k_x16] at h
        replace h := sm_r h
        obtain rfl := Option.some.inj h
        exact hE
    · rw [if_pos c4] at h
      refine pg_iconst 0 dX7_readCommand_24 rfl ?_
      obtain rfl := Option.some.inj h
      exact hE.2.1 _ _ _ _ _ _ .boolean dX7_readCommand_25 rfl rfl (Nat.zero_le _) (Nat.zero_le _) ⟨rfl, rfl⟩
  · rw [if_neg c2] at h
    refine pg_iconst 0 dX7_readCommand_15 rfl ?_
    obtain rfl := Option.some.inj h
    exact hE.2.1 _ _ _ _ _ _ .boolean dX7_readCommand_16 rfl rfl (Nat.zero_le _) (Nat.zero_le _) ⟨rfl, rfl⟩
def b_X7_findFault_6 (s : Int32 × me) : Option ((Int32 × me) ⊕ ((Int32 × me) ⊕ (Int32 × me))) :=
  if (s.2.1 111 0) < s.1 then
    some (.inr (.inl (s.1, s.2)))
  else
    bd (f_X7_readCommand s.2) (fun r3 =>
    if r3.1 = 0 then
      some (.inr (.inr ((r3.2.1 111 5, r3.2))))
    else
      lt (s.1 + 1) (fun w5 =>
      some (.inl (w5, r3.2))))
def f_X7_findFault (m0 : me) : Option (Int32 × me) :=
  bd (f_X7_rewind m0) (fun r1 =>
  bd (lo (b_X7_findFault_6) 2048 (0, r1)) (fun s6 =>
  sm s6 (fun s7 =>
    some ((s7.2.1 111 5, s7.2))) (fun x8 => some x8)))
set_option maxRecDepth 20000 in
set_option maxHeartbeats 4000000 in
theorem lb_X7_findFault_6 (hfl : g.1.stackTraces = false) (hS : pS 0 138 S) {s : Int32 × me} {r : (Int32 × me) ⊕ ((Int32 × me) ⊕ (Int32 × me))} (h : b_X7_findFault_6 s = some r) (hN : ∀ s', r = .inl s' → (fun z9 : Int32 × me => pm_G g mX7_findFault X 6 [some (.ref 111), some (.int z9.1)] [] (en S z9.2) 0 0) s') (hT : ∀ t, r = .inr t → (fun z8 : ((Int32 × me) ⊕ (Int32 × me)) => (∀ z9, z8 = .inl z9 → pm_G g mX7_findFault X 32 [some (.ref 111), some (.int z9.1)] [] (en S z9.2) 0 0) ∧ (∀ x9, z8 = .inr x9 → pm_End g mX7_findFault X 0 0 (qI S x9) qF)) t) : (fun z9 : Int32 × me => pm_G g mX7_findFault X 6 [some (.ref 111), some (.int z9.1)] [] (en S z9.2) 0 0) s := by
  unfold b_X7_findFault_6 at h
  show pm_G g mX7_findFault X 6 [some (.ref 111), some (.int s.1)] [] (en S s.2) 0 0
  refine pg_iload_n dX7_findFault_6 rfl ?_
  refine pg_aload_n dX7_findFault_7 rfl ?_
  refine eg_get dX7_findFault_8 fa_X7_18 hS sp111 (Nat.le_of_ble_eq_true rfl) (Nat.le_of_ble_eq_true rfl) rfl rfl ?_
  refine pg_icmp_gt 32 dX7_findFault_11 (by decide) (fun c2 => ?_) (fun c2 => ?_)
  · rw [if_pos c2] at h
    obtain rfl := Option.some.inj h
    exact (hT _ rfl).1 _ rfl
  · rw [if_neg c2] at h
    refine pg_aload_n dX7_findFault_14 rfl ?_
    obtain ⟨r3, h_r3, h⟩ := bd_at h
    refine eg_cVi (C := mX7_readCommand) (as := []) dX7_findFault_15 mw236 cv_X7_readCommand hS sp111 (Nat.le_of_ble_eq_true rfl) (Nat.le_of_ble_eq_true rfl) rfl rfl rfl (Nat.le_of_ble_eq_true rfl) rfl ⟨(Nat.le_of_ble_eq_true rfl), (Nat.le_of_ble_eq_true rfl)⟩ (ct_X7_readCommand hfl (hS.sub (Nat.le_of_ble_eq_true rfl) (Nat.le_of_ble_eq_true rfl)) h_r3) ?_
    refine pg_if_ne 26 dX7_findFault_18 (by decide) (fun c4 => ?_) (fun c4 => ?_)
    · rw [if_neg c4] at h
      obtain ⟨w5, e_w5⟩ : ∃ z : Int32, z = s.1 + 1 := ⟨_, rfl⟩
      replace h := lt_at h e_w5
      refine eg_iinc [some (.ref 111), some (.int w5)] w5 1 dX7_findFault_26 rfl rfl e_w5 rfl ?_
      refine pg_goto 6 dX7_findFault_29 (by decide) ?_
      obtain rfl := Option.some.inj h
      exact hN _ rfl
    · rw [if_pos c4] at h
      refine pg_aload_n dX7_findFault_21 rfl ?_
      refine eg_get dX7_findFault_22 fa_X7_29 hS sp111 (Nat.le_of_ble_eq_true rfl) (Nat.le_of_ble_eq_true rfl) rfl rfl ?_
      obtain rfl := Option.some.inj h
      exact ((hT _ rfl).2 _ rfl).2.1 _ _ _ _ _ _ .int dX7_findFault_25 rfl rfl (Nat.zero_le _) (Nat.zero_le _) ⟨rfl, rfl⟩
set_option maxRecDepth 20000 in
set_option maxHeartbeats 4000000 in
theorem ct_X7_findFault (hfl : g.1.stackTraces = false) (hS : pS 0 138 S) {m0 : me} {x : (Int32 × me)} (h : f_X7_findFault m0 = some x) : pm_Ct g mX7_findFault [.ref 111] (en S m0) 0 0 (qI S x) qF := by
  refine pm_of (by decide +kernel) rfl hfl (Nat.le_of_ble_eq_true rfl) (fun X hE => ?_)
  show pm_G g mX7_findFault X 0 [some (.ref 111), none] [] (en S m0) 0 0
  unfold f_X7_findFault at h
  refine pg_aload_n dX7_findFault_0 rfl ?_
  obtain ⟨r1, h_r1, h⟩ := bd_at h
  refine eg_cVv (C := mX7_rewind) (as := []) dX7_findFault_1 mw234 cv_X7_rewind hS sp111 (Nat.le_of_ble_eq_true rfl) (Nat.le_of_ble_eq_true rfl) rfl rfl rfl (Nat.le_of_ble_eq_true rfl) rfl ⟨(Nat.le_of_ble_eq_true rfl), (Nat.le_of_ble_eq_true rfl)⟩ (ct_X7_rewind hfl (hS.sub (Nat.le_of_ble_eq_true rfl) (Nat.le_of_ble_eq_true rfl)) h_r1) ?_
  refine pg_iconst 0 dX7_findFault_4 rfl ?_
  refine eg_istore_n [some (.ref 111), some (.int 0)] 0 dX7_findFault_5 rfl (Nat.le_of_ble_eq_true rfl) rfl ?_
  obtain ⟨s6, h_s6, h⟩ := bd_at h
  refine lo_at (b := b_X7_findFault_6) (G := (fun z9 : Int32 × me => pm_G g mX7_findFault X 6 [some (.ref 111), some (.int z9.1)] [] (en S z9.2) 0 0)) (T := (fun z8 : ((Int32 × me) ⊕ (Int32 × me)) => (∀ z9, z8 = .inl z9 → pm_G g mX7_findFault X 32 [some (.ref 111), some (.int z9.1)] [] (en S z9.2) 0 0) ∧ (∀ x9, z8 = .inr x9 → pm_End g mX7_findFault X 0 0 (qI S x9) qF))) (fun q9 r9 h1 h2 h3 => lb_X7_findFault_6 hfl hS h1 h2 h3) 2048 (0, r1) s6 h_s6 ⟨fun s7 k_s7 => ?_, fun x8 k_x8 => ?_⟩
  · rw [k_s7] at h
    replace h := sm_l h
    show pm_G g mX7_findFault X 32 [some (.ref 111), some (.int s7.1)] [] (en S s7.2) 0 0
    refine pg_aload_n dX7_findFault_32 rfl ?_
    refine eg_get dX7_findFault_33 fa_X7_29 hS sp111 (Nat.le_of_ble_eq_true rfl) (Nat.le_of_ble_eq_true rfl) rfl rfl ?_
    obtain rfl := Option.some.inj h
    exact hE.2.1 _ _ _ _ _ _ .int dX7_findFault_36 rfl rfl (Nat.zero_le _) (Nat.zero_le _) ⟨rfl, rfl⟩
  · rw [k_x8] at h
    replace h := sm_r h
    obtain rfl := Option.some.inj h
    exact hE
def f_X1_copyFrom_31_2 (m0 : me) : Option me :=
  lt (cp m0 3 32 0 0 8) (fun m1 =>
  lt (cp m1 4 33 0 0 8) (fun m2 =>
  lt (cp m2 5 34 0 0 8) (fun m3 =>
  lt (cp m3 6 35 0 0 8) (fun m4 =>
  lt (cp m4 7 36 0 0 8) (fun m5 =>
  lt (cp m5 8 37 0 0 8) (fun m6 =>
  lt (cp m6 9 38 0 0 64) (fun m7 =>
  lt (cp m7 10 39 0 0 64) (fun m8 =>
  some (m8)))))))))
set_option maxRecDepth 20000 in
set_option maxHeartbeats 4000000 in
theorem ct_X1_copyFrom_31_2 (hfl : g.1.stackTraces = false) (hS : pS 0 138 S) {m0 : me} {x : me} (h : f_X1_copyFrom_31_2 m0 = some x) : pm_Ct g mX1_copyFrom [.ref 31, .ref 2] (en S m0) 0 0 (qV S x) qF := by
  refine pm_of (by decide +kernel) rfl hfl (Nat.le_of_ble_eq_true rfl) (fun X hE => ?_)
  show pm_G g mX1_copyFrom X 0 [some (.ref 31), some (.ref 2)] [] (en S m0) 0 0
  unfold f_X1_copyFrom_31_2 at h
  refine pg_aload_n dX1_copyFrom_0 rfl ?_
  refine eg_get dX1_copyFrom_1 fa_X1_9 hS sp2 (Nat.le_of_ble_eq_true rfl) (Nat.le_of_ble_eq_true rfl) rfl rfl ?_
  refine pg_iconst 0 dX1_copyFrom_4 rfl ?_
  refine pg_aload_n dX1_copyFrom_5 rfl ?_
  refine eg_get dX1_copyFrom_6 fa_X1_9 hS sp31 (Nat.le_of_ble_eq_true rfl) (Nat.le_of_ble_eq_true rfl) rfl rfl ?_
  refine pg_iconst 0 dX1_copyFrom_9 rfl ?_
  refine pg_bipush 8 dX1_copyFrom_10 rfl ?_
  refine eg_copyI (n9 := 8) dX1_copyFrom_12 mw306 mw308 mw307 mw309 hS sp3 (Nat.le_of_ble_eq_true rfl) (Nat.le_of_ble_eq_true rfl) rfl sp32 (Nat.le_of_ble_eq_true rfl) (Nat.le_of_ble_eq_true rfl) (fun _ _ _ => rfl) (by decide) rfl (Nat.le_of_ble_eq_true rfl) (Nat.le_of_ble_eq_true rfl) rfl (Nat.le_of_ble_eq_true rfl) (Nat.le_of_ble_eq_true rfl) (fun m1 e_m1 => ?_)
  replace h := lt_at h e_m1
  refine pg_aload_n dX1_copyFrom_15 rfl ?_
  refine eg_get dX1_copyFrom_16 fa_X1_15 hS sp2 (Nat.le_of_ble_eq_true rfl) (Nat.le_of_ble_eq_true rfl) rfl rfl ?_
  refine pg_iconst 0 dX1_copyFrom_19 rfl ?_
  refine pg_aload_n dX1_copyFrom_20 rfl ?_
  refine eg_get dX1_copyFrom_21 fa_X1_15 hS sp31 (Nat.le_of_ble_eq_true rfl) (Nat.le_of_ble_eq_true rfl) rfl rfl ?_
  refine pg_iconst 0 dX1_copyFrom_24 rfl ?_
  refine pg_bipush 8 dX1_copyFrom_25 rfl ?_
  refine eg_copyI (n9 := 8) dX1_copyFrom_27 mw306 mw308 mw307 mw309 hS sp4 (Nat.le_of_ble_eq_true rfl) (Nat.le_of_ble_eq_true rfl) rfl sp33 (Nat.le_of_ble_eq_true rfl) (Nat.le_of_ble_eq_true rfl) (fun _ _ _ => rfl) (by decide) rfl (Nat.le_of_ble_eq_true rfl) (Nat.le_of_ble_eq_true rfl) rfl (Nat.le_of_ble_eq_true rfl) (Nat.le_of_ble_eq_true rfl) (fun m2 e_m2 => ?_)
  replace h := lt_at h e_m2
  refine pg_aload_n dX1_copyFrom_30 rfl ?_
  refine eg_get dX1_copyFrom_31 fa_X1_18 hS sp2 (Nat.le_of_ble_eq_true rfl) (Nat.le_of_ble_eq_true rfl) rfl rfl ?_
  refine pg_iconst 0 dX1_copyFrom_34 rfl ?_
  refine pg_aload_n dX1_copyFrom_35 rfl ?_
  refine eg_get dX1_copyFrom_36 fa_X1_18 hS sp31 (Nat.le_of_ble_eq_true rfl) (Nat.le_of_ble_eq_true rfl) rfl rfl ?_
  refine pg_iconst 0 dX1_copyFrom_39 rfl ?_
  refine pg_bipush 8 dX1_copyFrom_40 rfl ?_
  refine eg_copyI (n9 := 8) dX1_copyFrom_42 mw306 mw308 mw307 mw309 hS sp5 (Nat.le_of_ble_eq_true rfl) (Nat.le_of_ble_eq_true rfl) rfl sp34 (Nat.le_of_ble_eq_true rfl) (Nat.le_of_ble_eq_true rfl) (fun _ _ _ => rfl) (by decide) rfl (Nat.le_of_ble_eq_true rfl) (Nat.le_of_ble_eq_true rfl) rfl (Nat.le_of_ble_eq_true rfl) (Nat.le_of_ble_eq_true rfl) (fun m3 e_m3 => ?_)
  replace h := lt_at h e_m3
  refine pg_aload_n dX1_copyFrom_45 rfl ?_
  refine eg_get dX1_copyFrom_46 fa_X1_21 hS sp2 (Nat.le_of_ble_eq_true rfl) (Nat.le_of_ble_eq_true rfl) rfl rfl ?_
  refine pg_iconst 0 dX1_copyFrom_49 rfl ?_
  refine pg_aload_n dX1_copyFrom_50 rfl ?_
  refine eg_get dX1_copyFrom_51 fa_X1_21 hS sp31 (Nat.le_of_ble_eq_true rfl) (Nat.le_of_ble_eq_true rfl) rfl rfl ?_
  refine pg_iconst 0 dX1_copyFrom_54 rfl ?_
  refine pg_bipush 8 dX1_copyFrom_55 rfl ?_
  refine eg_copyI (n9 := 8) dX1_copyFrom_57 mw306 mw308 mw307 mw309 hS sp6 (Nat.le_of_ble_eq_true rfl) (Nat.le_of_ble_eq_true rfl) rfl sp35 (Nat.le_of_ble_eq_true rfl) (Nat.le_of_ble_eq_true rfl) (fun _ _ _ => rfl) (by decide) rfl (Nat.le_of_ble_eq_true rfl) (Nat.le_of_ble_eq_true rfl) rfl (Nat.le_of_ble_eq_true rfl) (Nat.le_of_ble_eq_true rfl) (fun m4 e_m4 => ?_)
  replace h := lt_at h e_m4
  refine pg_aload_n dX1_copyFrom_60 rfl ?_
  refine eg_get dX1_copyFrom_61 fa_X1_24 hS sp2 (Nat.le_of_ble_eq_true rfl) (Nat.le_of_ble_eq_true rfl) rfl rfl ?_
  refine pg_iconst 0 dX1_copyFrom_64 rfl ?_
  refine pg_aload_n dX1_copyFrom_65 rfl ?_
  refine eg_get dX1_copyFrom_66 fa_X1_24 hS sp31 (Nat.le_of_ble_eq_true rfl) (Nat.le_of_ble_eq_true rfl) rfl rfl ?_
  refine pg_iconst 0 dX1_copyFrom_69 rfl ?_
  refine pg_bipush 8 dX1_copyFrom_70 rfl ?_
  refine eg_copyI (n9 := 8) dX1_copyFrom_72 mw306 mw308 mw307 mw309 hS sp7 (Nat.le_of_ble_eq_true rfl) (Nat.le_of_ble_eq_true rfl) rfl sp36 (Nat.le_of_ble_eq_true rfl) (Nat.le_of_ble_eq_true rfl) (fun _ _ _ => rfl) (by decide) rfl (Nat.le_of_ble_eq_true rfl) (Nat.le_of_ble_eq_true rfl) rfl (Nat.le_of_ble_eq_true rfl) (Nat.le_of_ble_eq_true rfl) (fun m5 e_m5 => ?_)
  replace h := lt_at h e_m5
  refine pg_aload_n dX1_copyFrom_75 rfl ?_
  refine eg_get dX1_copyFrom_76 fa_X1_27 hS sp2 (Nat.le_of_ble_eq_true rfl) (Nat.le_of_ble_eq_true rfl) rfl rfl ?_
  refine pg_iconst 0 dX1_copyFrom_79 rfl ?_
  refine pg_aload_n dX1_copyFrom_80 rfl ?_
  refine eg_get dX1_copyFrom_81 fa_X1_27 hS sp31 (Nat.le_of_ble_eq_true rfl) (Nat.le_of_ble_eq_true rfl) rfl rfl ?_
  refine pg_iconst 0 dX1_copyFrom_84 rfl ?_
  refine pg_bipush 8 dX1_copyFrom_85 rfl ?_
  refine eg_copyI (n9 := 8) dX1_copyFrom_87 mw306 mw308 mw307 mw309 hS sp8 (Nat.le_of_ble_eq_true rfl) (Nat.le_of_ble_eq_true rfl) rfl sp37 (Nat.le_of_ble_eq_true rfl) (Nat.le_of_ble_eq_true rfl) (fun _ _ _ => rfl) (by decide) rfl (Nat.le_of_ble_eq_true rfl) (Nat.le_of_ble_eq_true rfl) rfl (Nat.le_of_ble_eq_true rfl) (Nat.le_of_ble_eq_true rfl) (fun m6 e_m6 => ?_)
  replace h := lt_at h e_m6
  refine pg_aload_n dX1_copyFrom_90 rfl ?_
  refine eg_get dX1_copyFrom_91 fa_X1_30 hS sp2 (Nat.le_of_ble_eq_true rfl) (Nat.le_of_ble_eq_true rfl) rfl rfl ?_
  refine pg_iconst 0 dX1_copyFrom_94 rfl ?_
  refine pg_aload_n dX1_copyFrom_95 rfl ?_
  refine eg_get dX1_copyFrom_96 fa_X1_30 hS sp31 (Nat.le_of_ble_eq_true rfl) (Nat.le_of_ble_eq_true rfl) rfl rfl ?_
  refine pg_iconst 0 dX1_copyFrom_99 rfl ?_
  refine pg_bipush 64 dX1_copyFrom_100 rfl ?_
  refine eg_copyI (n9 := 64) dX1_copyFrom_102 mw306 mw308 mw307 mw309 hS sp9 (Nat.le_of_ble_eq_true rfl) (Nat.le_of_ble_eq_true rfl) rfl sp38 (Nat.le_of_ble_eq_true rfl) (Nat.le_of_ble_eq_true rfl) (fun _ _ _ => rfl) (by decide) rfl (Nat.le_of_ble_eq_true rfl) (Nat.le_of_ble_eq_true rfl) rfl (Nat.le_of_ble_eq_true rfl) (Nat.le_of_ble_eq_true rfl) (fun m7 e_m7 => ?_)
  replace h := lt_at h e_m7
  refine pg_aload_n dX1_copyFrom_105 rfl ?_
  refine eg_get dX1_copyFrom_106 fa_X1_33 hS sp2 (Nat.le_of_ble_eq_true rfl) (Nat.le_of_ble_eq_true rfl) rfl rfl ?_
  refine pg_iconst 0 dX1_copyFrom_109 rfl ?_
  refine pg_aload_n dX1_copyFrom_110 rfl ?_
  refine eg_get dX1_copyFrom_111 fa_X1_33 hS sp31 (Nat.le_of_ble_eq_true rfl) (Nat.le_of_ble_eq_true rfl) rfl rfl ?_
  refine pg_iconst 0 dX1_copyFrom_114 rfl ?_
  refine pg_bipush 64 dX1_copyFrom_115 rfl ?_
  refine eg_copyI (n9 := 64) dX1_copyFrom_117 mw306 mw308 mw307 mw309 hS sp10 (Nat.le_of_ble_eq_true rfl) (Nat.le_of_ble_eq_true rfl) rfl sp39 (Nat.le_of_ble_eq_true rfl) (Nat.le_of_ble_eq_true rfl) (fun _ _ _ => rfl) (by decide) rfl (Nat.le_of_ble_eq_true rfl) (Nat.le_of_ble_eq_true rfl) rfl (Nat.le_of_ble_eq_true rfl) (Nat.le_of_ble_eq_true rfl) (fun m8 e_m8 => ?_)
  replace h := lt_at h e_m8
  obtain rfl := Option.some.inj h
  exact hE.2.2.1 _ _ _ _ _ dX1_copyFrom_120 rfl (Nat.zero_le _) (Nat.zero_le _) ⟨rfl, rfl⟩
def f_X3_copyFrom_40_11 (m0 : me) : Option me :=
  lt (wI m0 40 0 (m0.1 11 0)) (fun m1 =>
  lt (cp m1 12 41 0 0 16) (fun m2 =>
  lt (cp m2 13 42 0 0 16) (fun m3 =>
  lt (cp m3 14 43 0 0 16) (fun m4 =>
  lt (cp m4 15 44 0 0 16) (fun m5 =>
  gd ((List.range 16).all (fun i => isB (m5.1 16 i))) (
  lt (cp m5 16 45 0 0 16) (fun m6 =>
  lt (cp m6 17 46 0 0 16) (fun m7 =>
  lt (cp m7 18 47 0 0 16) (fun m8 =>
  lt (cp m8 19 48 0 0 16) (fun m9 =>
  lt (cp m9 20 49 0 0 32) (fun m10 =>
  lt (cp m10 21 50 0 0 32) (fun m11 =>
  lt (cp m11 22 51 0 0 32) (fun m12 =>
  some (m12))))))))))))))
set_option maxRecDepth 20000 in
set_option maxHeartbeats 4000000 in
theorem ct_X3_copyFrom_40_11 (hfl : g.1.stackTraces = false) (hS : pS 0 138 S) {m0 : me} {x : me} (h : f_X3_copyFrom_40_11 m0 = some x) : pm_Ct g mX3_copyFrom [.ref 40, .ref 11] (en S m0) 0 0 (qV S x) qF := by
  refine pm_of (by decide +kernel) rfl hfl (Nat.le_of_ble_eq_true rfl) (fun X hE => ?_)
  show pm_G g mX3_copyFrom X 0 [some (.ref 40), some (.ref 11)] [] (en S m0) 0 0
  unfold f_X3_copyFrom_40_11 at h
  refine pg_aload_n dX3_copyFrom_0 rfl ?_
  refine pg_aload_n dX3_copyFrom_1 rfl ?_
  refine eg_get dX3_copyFrom_2 fa_X3_46 hS sp11 (Nat.le_of_ble_eq_true rfl) (Nat.le_of_ble_eq_true rfl) rfl rfl ?_
  refine eg_put dX3_copyFrom_5 fa_X3_46 hS sp40 (Nat.le_of_ble_eq_true rfl) (Nat.le_of_ble_eq_true rfl) rfl (Nat.le_of_ble_eq_true rfl) rfl (fun m1 e_m1 => ?_)
  replace h := lt_at h e_m1
  refine pg_aload_n dX3_copyFrom_8 rfl ?_
  refine eg_get dX3_copyFrom_9 fa_X3_9 hS sp11 (Nat.le_of_ble_eq_true rfl) (Nat.le_of_ble_eq_true rfl) rfl rfl ?_
  refine pg_iconst 0 dX3_copyFrom_12 rfl ?_
  refine pg_aload_n dX3_copyFrom_13 rfl ?_
  refine eg_get dX3_copyFrom_14 fa_X3_9 hS sp40 (Nat.le_of_ble_eq_true rfl) (Nat.le_of_ble_eq_true rfl) rfl rfl ?_
  refine pg_iconst 0 dX3_copyFrom_17 rfl ?_
  refine pg_bipush 16 dX3_copyFrom_18 rfl ?_
  refine eg_copyI (n9 := 16) dX3_copyFrom_20 mw310 mw308 mw307 mw309 hS sp12 (Nat.le_of_ble_eq_true rfl) (Nat.le_of_ble_eq_true rfl) rfl sp41 (Nat.le_of_ble_eq_true rfl) (Nat.le_of_ble_eq_true rfl) (fun _ _ _ => rfl) (by decide) rfl (Nat.le_of_ble_eq_true rfl) (Nat.le_of_ble_eq_true rfl) rfl (Nat.le_of_ble_eq_true rfl) (Nat.le_of_ble_eq_true rfl) (fun m2 e_m2 => ?_)
  replace h := lt_at h e_m2
  refine pg_aload_n dX3_copyFrom_23 rfl ?_
  refine eg_get dX3_copyFrom_24 fa_X3_15 hS sp11 (Nat.le_of_ble_eq_true rfl) (Nat.le_of_ble_eq_true rfl) rfl rfl ?_
  refine pg_iconst 0 dX3_copyFrom_27 rfl ?_
  refine pg_aload_n dX3_copyFrom_28 rfl ?_
  refine eg_get dX3_copyFrom_29 fa_X3_15 hS sp40 (Nat.le_of_ble_eq_true rfl) (Nat.le_of_ble_eq_true rfl) rfl rfl ?_
  refine pg_iconst 0 dX3_copyFrom_32 rfl ?_
  refine pg_bipush 16 dX3_copyFrom_33 rfl ?_
  refine eg_copyI (n9 := 16) dX3_copyFrom_35 mw310 mw308 mw307 mw309 hS sp13 (Nat.le_of_ble_eq_true rfl) (Nat.le_of_ble_eq_true rfl) rfl sp42 (Nat.le_of_ble_eq_true rfl) (Nat.le_of_ble_eq_true rfl) (fun _ _ _ => rfl) (by decide) rfl (Nat.le_of_ble_eq_true rfl) (Nat.le_of_ble_eq_true rfl) rfl (Nat.le_of_ble_eq_true rfl) (Nat.le_of_ble_eq_true rfl) (fun m3 e_m3 => ?_)
  replace h := lt_at h e_m3
  refine pg_aload_n dX3_copyFrom_38 rfl ?_
  refine eg_get dX3_copyFrom_39 fa_X3_18 hS sp11 (Nat.le_of_ble_eq_true rfl) (Nat.le_of_ble_eq_true rfl) rfl rfl ?_
  refine pg_iconst 0 dX3_copyFrom_42 rfl ?_
  refine pg_aload_n dX3_copyFrom_43 rfl ?_
  refine eg_get dX3_copyFrom_44 fa_X3_18 hS sp40 (Nat.le_of_ble_eq_true rfl) (Nat.le_of_ble_eq_true rfl) rfl rfl ?_
  refine pg_iconst 0 dX3_copyFrom_47 rfl ?_
  refine pg_bipush 16 dX3_copyFrom_48 rfl ?_
  refine eg_copyI (n9 := 16) dX3_copyFrom_50 mw310 mw308 mw307 mw309 hS sp14 (Nat.le_of_ble_eq_true rfl) (Nat.le_of_ble_eq_true rfl) rfl sp43 (Nat.le_of_ble_eq_true rfl) (Nat.le_of_ble_eq_true rfl) (fun _ _ _ => rfl) (by decide) rfl (Nat.le_of_ble_eq_true rfl) (Nat.le_of_ble_eq_true rfl) rfl (Nat.le_of_ble_eq_true rfl) (Nat.le_of_ble_eq_true rfl) (fun m4 e_m4 => ?_)
  replace h := lt_at h e_m4
  refine pg_aload_n dX3_copyFrom_53 rfl ?_
  refine eg_get dX3_copyFrom_54 fa_X3_21 hS sp11 (Nat.le_of_ble_eq_true rfl) (Nat.le_of_ble_eq_true rfl) rfl rfl ?_
  refine pg_iconst 0 dX3_copyFrom_57 rfl ?_
  refine pg_aload_n dX3_copyFrom_58 rfl ?_
  refine eg_get dX3_copyFrom_59 fa_X3_21 hS sp40 (Nat.le_of_ble_eq_true rfl) (Nat.le_of_ble_eq_true rfl) rfl rfl ?_
  refine pg_iconst 0 dX3_copyFrom_62 rfl ?_
  refine pg_bipush 16 dX3_copyFrom_63 rfl ?_
  refine eg_copyI (n9 := 16) dX3_copyFrom_65 mw310 mw308 mw307 mw309 hS sp15 (Nat.le_of_ble_eq_true rfl) (Nat.le_of_ble_eq_true rfl) rfl sp44 (Nat.le_of_ble_eq_true rfl) (Nat.le_of_ble_eq_true rfl) (fun _ _ _ => rfl) (by decide) rfl (Nat.le_of_ble_eq_true rfl) (Nat.le_of_ble_eq_true rfl) rfl (Nat.le_of_ble_eq_true rfl) (Nat.le_of_ble_eq_true rfl) (fun m5 e_m5 => ?_)
  replace h := lt_at h e_m5
  refine pg_aload_n dX3_copyFrom_68 rfl ?_
  refine eg_get dX3_copyFrom_69 fa_X3_24 hS sp11 (Nat.le_of_ble_eq_true rfl) (Nat.le_of_ble_eq_true rfl) rfl rfl ?_
  refine pg_iconst 0 dX3_copyFrom_72 rfl ?_
  refine pg_aload_n dX3_copyFrom_73 rfl ?_
  refine eg_get dX3_copyFrom_74 fa_X3_24 hS sp40 (Nat.le_of_ble_eq_true rfl) (Nat.le_of_ble_eq_true rfl) rfl rfl ?_
  refine pg_iconst 0 dX3_copyFrom_77 rfl ?_
  refine pg_bipush 16 dX3_copyFrom_78 rfl ?_
  obtain ⟨g2, h⟩ := gd_at h
  refine eg_copyZ (n9 := 16) dX3_copyFrom_80 mw310 mw308 mw307 mw309 hS sp16 (Nat.le_of_ble_eq_true rfl) (Nat.le_of_ble_eq_true rfl) rfl sp45 (Nat.le_of_ble_eq_true rfl) (Nat.le_of_ble_eq_true rfl) (fun _ _ _ => rfl) (by decide) rfl (Nat.le_of_ble_eq_true rfl) (Nat.le_of_ble_eq_true rfl) g2 rfl (Nat.le_of_ble_eq_true rfl) (Nat.le_of_ble_eq_true rfl) (fun m6 e_m6 => ?_)
  replace h := lt_at h e_m6
  refine pg_aload_n dX3_copyFrom_83 rfl ?_
  refine eg_get dX3_copyFrom_84 fa_X3_28 hS sp11 (Nat.le_of_ble_eq_true rfl) (Nat.le_of_ble_eq_true rfl) rfl rfl ?_
  refine pg_iconst 0 dX3_copyFrom_87 rfl ?_
  refine pg_aload_n dX3_copyFrom_88 rfl ?_
  refine eg_get dX3_copyFrom_89 fa_X3_28 hS sp40 (Nat.le_of_ble_eq_true rfl) (Nat.le_of_ble_eq_true rfl) rfl rfl ?_
  refine pg_iconst 0 dX3_copyFrom_92 rfl ?_
  refine pg_bipush 16 dX3_copyFrom_93 rfl ?_
  refine eg_copyI (n9 := 16) dX3_copyFrom_95 mw310 mw308 mw307 mw309 hS sp17 (Nat.le_of_ble_eq_true rfl) (Nat.le_of_ble_eq_true rfl) rfl sp46 (Nat.le_of_ble_eq_true rfl) (Nat.le_of_ble_eq_true rfl) (fun _ _ _ => rfl) (by decide) rfl (Nat.le_of_ble_eq_true rfl) (Nat.le_of_ble_eq_true rfl) rfl (Nat.le_of_ble_eq_true rfl) (Nat.le_of_ble_eq_true rfl) (fun m7 e_m7 => ?_)
  replace h := lt_at h e_m7
  refine pg_aload_n dX3_copyFrom_98 rfl ?_
  refine eg_get dX3_copyFrom_99 fa_X3_31 hS sp11 (Nat.le_of_ble_eq_true rfl) (Nat.le_of_ble_eq_true rfl) rfl rfl ?_
  refine pg_iconst 0 dX3_copyFrom_102 rfl ?_
  refine pg_aload_n dX3_copyFrom_103 rfl ?_
  refine eg_get dX3_copyFrom_104 fa_X3_31 hS sp40 (Nat.le_of_ble_eq_true rfl) (Nat.le_of_ble_eq_true rfl) rfl rfl ?_
  refine pg_iconst 0 dX3_copyFrom_107 rfl ?_
  refine pg_bipush 16 dX3_copyFrom_108 rfl ?_
  refine eg_copyI (n9 := 16) dX3_copyFrom_110 mw310 mw308 mw307 mw309 hS sp18 (Nat.le_of_ble_eq_true rfl) (Nat.le_of_ble_eq_true rfl) rfl sp47 (Nat.le_of_ble_eq_true rfl) (Nat.le_of_ble_eq_true rfl) (fun _ _ _ => rfl) (by decide) rfl (Nat.le_of_ble_eq_true rfl) (Nat.le_of_ble_eq_true rfl) rfl (Nat.le_of_ble_eq_true rfl) (Nat.le_of_ble_eq_true rfl) (fun m8 e_m8 => ?_)
  replace h := lt_at h e_m8
  refine pg_aload_n dX3_copyFrom_113 rfl ?_
  refine eg_get dX3_copyFrom_114 fa_X3_34 hS sp11 (Nat.le_of_ble_eq_true rfl) (Nat.le_of_ble_eq_true rfl) rfl rfl ?_
  refine pg_iconst 0 dX3_copyFrom_117 rfl ?_
  refine pg_aload_n dX3_copyFrom_118 rfl ?_
  refine eg_get dX3_copyFrom_119 fa_X3_34 hS sp40 (Nat.le_of_ble_eq_true rfl) (Nat.le_of_ble_eq_true rfl) rfl rfl ?_
  refine pg_iconst 0 dX3_copyFrom_122 rfl ?_
  refine pg_bipush 16 dX3_copyFrom_123 rfl ?_
  refine eg_copyI (n9 := 16) dX3_copyFrom_125 mw310 mw308 mw307 mw309 hS sp19 (Nat.le_of_ble_eq_true rfl) (Nat.le_of_ble_eq_true rfl) rfl sp48 (Nat.le_of_ble_eq_true rfl) (Nat.le_of_ble_eq_true rfl) (fun _ _ _ => rfl) (by decide) rfl (Nat.le_of_ble_eq_true rfl) (Nat.le_of_ble_eq_true rfl) rfl (Nat.le_of_ble_eq_true rfl) (Nat.le_of_ble_eq_true rfl) (fun m9 e_m9 => ?_)
  replace h := lt_at h e_m9
  refine pg_aload_n dX3_copyFrom_128 rfl ?_
  refine eg_get dX3_copyFrom_129 fa_X3_37 hS sp11 (Nat.le_of_ble_eq_true rfl) (Nat.le_of_ble_eq_true rfl) rfl rfl ?_
  refine pg_iconst 0 dX3_copyFrom_132 rfl ?_
  refine pg_aload_n dX3_copyFrom_133 rfl ?_
  refine eg_get dX3_copyFrom_134 fa_X3_37 hS sp40 (Nat.le_of_ble_eq_true rfl) (Nat.le_of_ble_eq_true rfl) rfl rfl ?_
  refine pg_iconst 0 dX3_copyFrom_137 rfl ?_
  refine pg_bipush 32 dX3_copyFrom_138 rfl ?_
  refine eg_copyI (n9 := 32) dX3_copyFrom_140 mw310 mw308 mw307 mw309 hS sp20 (Nat.le_of_ble_eq_true rfl) (Nat.le_of_ble_eq_true rfl) rfl sp49 (Nat.le_of_ble_eq_true rfl) (Nat.le_of_ble_eq_true rfl) (fun _ _ _ => rfl) (by decide) rfl (Nat.le_of_ble_eq_true rfl) (Nat.le_of_ble_eq_true rfl) rfl (Nat.le_of_ble_eq_true rfl) (Nat.le_of_ble_eq_true rfl) (fun m10 e_m10 => ?_)
  replace h := lt_at h e_m10
  refine pg_aload_n dX3_copyFrom_143 rfl ?_
  refine eg_get dX3_copyFrom_144 fa_X3_40 hS sp11 (Nat.le_of_ble_eq_true rfl) (Nat.le_of_ble_eq_true rfl) rfl rfl ?_
  refine pg_iconst 0 dX3_copyFrom_147 rfl ?_
  refine pg_aload_n dX3_copyFrom_148 rfl ?_
  refine eg_get dX3_copyFrom_149 fa_X3_40 hS sp40 (Nat.le_of_ble_eq_true rfl) (Nat.le_of_ble_eq_true rfl) rfl rfl ?_
  refine pg_iconst 0 dX3_copyFrom_152 rfl ?_
  refine pg_bipush 32 dX3_copyFrom_153 rfl ?_
  refine eg_copyI (n9 := 32) dX3_copyFrom_155 mw310 mw308 mw307 mw309 hS sp21 (Nat.le_of_ble_eq_true rfl) (Nat.le_of_ble_eq_true rfl) rfl sp50 (Nat.le_of_ble_eq_true rfl) (Nat.le_of_ble_eq_true rfl) (fun _ _ _ => rfl) (by decide) rfl (Nat.le_of_ble_eq_true rfl) (Nat.le_of_ble_eq_true rfl) rfl (Nat.le_of_ble_eq_true rfl) (Nat.le_of_ble_eq_true rfl) (fun m11 e_m11 => ?_)
  replace h := lt_at h e_m11
  refine pg_aload_n dX3_copyFrom_158 rfl ?_
  refine eg_get dX3_copyFrom_159 fa_X3_43 hS sp11 (Nat.le_of_ble_eq_true rfl) (Nat.le_of_ble_eq_true rfl) rfl rfl ?_
  refine pg_iconst 0 dX3_copyFrom_162 rfl ?_
  refine pg_aload_n dX3_copyFrom_163 rfl ?_
  refine eg_get dX3_copyFrom_164 fa_X3_43 hS sp40 (Nat.le_of_ble_eq_true rfl) (Nat.le_of_ble_eq_true rfl) rfl rfl ?_
  refine pg_iconst 0 dX3_copyFrom_167 rfl ?_
  refine pg_bipush 32 dX3_copyFrom_168 rfl ?_
  refine eg_copyI (n9 := 32) dX3_copyFrom_170 mw310 mw308 mw307 mw309 hS sp22 (Nat.le_of_ble_eq_true rfl) (Nat.le_of_ble_eq_true rfl) rfl sp51 (Nat.le_of_ble_eq_true rfl) (Nat.le_of_ble_eq_true rfl) (fun _ _ _ => rfl) (by decide) rfl (Nat.le_of_ble_eq_true rfl) (Nat.le_of_ble_eq_true rfl) rfl (Nat.le_of_ble_eq_true rfl) (Nat.le_of_ble_eq_true rfl) (fun m12 e_m12 => ?_)
  replace h := lt_at h e_m12
  obtain rfl := Option.some.inj h
  exact hE.2.2.1 _ _ _ _ _ dX3_copyFrom_173 rfl (Nat.zero_le _) (Nat.zero_le _) ⟨rfl, rfl⟩
def f_X8_copyFrom_52_23 (m0 : me) : Option me :=
  lt (cp m0 24 53 0 0 4) (fun m1 =>
  lt (cp m1 25 54 0 0 4) (fun m2 =>
  lt (cp m2 26 55 0 0 4) (fun m3 =>
  lt (cp m3 27 56 0 0 64) (fun m4 =>
  some (m4)))))
set_option maxRecDepth 20000 in
set_option maxHeartbeats 4000000 in
theorem ct_X8_copyFrom_52_23 (hfl : g.1.stackTraces = false) (hS : pS 0 138 S) {m0 : me} {x : me} (h : f_X8_copyFrom_52_23 m0 = some x) : pm_Ct g mX8_copyFrom [.ref 52, .ref 23] (en S m0) 0 0 (qV S x) qF := by
  refine pm_of (by decide +kernel) rfl hfl (Nat.le_of_ble_eq_true rfl) (fun X hE => ?_)
  show pm_G g mX8_copyFrom X 0 [some (.ref 52), some (.ref 23)] [] (en S m0) 0 0
  unfold f_X8_copyFrom_52_23 at h
  refine pg_aload_n dX8_copyFrom_0 rfl ?_
  refine eg_get dX8_copyFrom_1 fa_X8_9 hS sp23 (Nat.le_of_ble_eq_true rfl) (Nat.le_of_ble_eq_true rfl) rfl rfl ?_
  refine pg_iconst 0 dX8_copyFrom_4 rfl ?_
  refine pg_aload_n dX8_copyFrom_5 rfl ?_
  refine eg_get dX8_copyFrom_6 fa_X8_9 hS sp52 (Nat.le_of_ble_eq_true rfl) (Nat.le_of_ble_eq_true rfl) rfl rfl ?_
  refine pg_iconst 0 dX8_copyFrom_9 rfl ?_
  refine pg_iconst 4 dX8_copyFrom_10 rfl ?_
  refine eg_copyI (n9 := 4) dX8_copyFrom_11 mw311 mw308 mw307 mw309 hS sp24 (Nat.le_of_ble_eq_true rfl) (Nat.le_of_ble_eq_true rfl) rfl sp53 (Nat.le_of_ble_eq_true rfl) (Nat.le_of_ble_eq_true rfl) (fun _ _ _ => rfl) (by decide) rfl (Nat.le_of_ble_eq_true rfl) (Nat.le_of_ble_eq_true rfl) rfl (Nat.le_of_ble_eq_true rfl) (Nat.le_of_ble_eq_true rfl) (fun m1 e_m1 => ?_)
  replace h := lt_at h e_m1
  refine pg_aload_n dX8_copyFrom_14 rfl ?_
  refine eg_get dX8_copyFrom_15 fa_X8_15 hS sp23 (Nat.le_of_ble_eq_true rfl) (Nat.le_of_ble_eq_true rfl) rfl rfl ?_
  refine pg_iconst 0 dX8_copyFrom_18 rfl ?_
  refine pg_aload_n dX8_copyFrom_19 rfl ?_
  refine eg_get dX8_copyFrom_20 fa_X8_15 hS sp52 (Nat.le_of_ble_eq_true rfl) (Nat.le_of_ble_eq_true rfl) rfl rfl ?_
  refine pg_iconst 0 dX8_copyFrom_23 rfl ?_
  refine pg_iconst 4 dX8_copyFrom_24 rfl ?_
  refine eg_copyI (n9 := 4) dX8_copyFrom_25 mw311 mw308 mw307 mw309 hS sp25 (Nat.le_of_ble_eq_true rfl) (Nat.le_of_ble_eq_true rfl) rfl sp54 (Nat.le_of_ble_eq_true rfl) (Nat.le_of_ble_eq_true rfl) (fun _ _ _ => rfl) (by decide) rfl (Nat.le_of_ble_eq_true rfl) (Nat.le_of_ble_eq_true rfl) rfl (Nat.le_of_ble_eq_true rfl) (Nat.le_of_ble_eq_true rfl) (fun m2 e_m2 => ?_)
  replace h := lt_at h e_m2
  refine pg_aload_n dX8_copyFrom_28 rfl ?_
  refine eg_get dX8_copyFrom_29 fa_X8_18 hS sp23 (Nat.le_of_ble_eq_true rfl) (Nat.le_of_ble_eq_true rfl) rfl rfl ?_
  refine pg_iconst 0 dX8_copyFrom_32 rfl ?_
  refine pg_aload_n dX8_copyFrom_33 rfl ?_
  refine eg_get dX8_copyFrom_34 fa_X8_18 hS sp52 (Nat.le_of_ble_eq_true rfl) (Nat.le_of_ble_eq_true rfl) rfl rfl ?_
  refine pg_iconst 0 dX8_copyFrom_37 rfl ?_
  refine pg_iconst 4 dX8_copyFrom_38 rfl ?_
  refine eg_copyI (n9 := 4) dX8_copyFrom_39 mw311 mw308 mw307 mw309 hS sp26 (Nat.le_of_ble_eq_true rfl) (Nat.le_of_ble_eq_true rfl) rfl sp55 (Nat.le_of_ble_eq_true rfl) (Nat.le_of_ble_eq_true rfl) (fun _ _ _ => rfl) (by decide) rfl (Nat.le_of_ble_eq_true rfl) (Nat.le_of_ble_eq_true rfl) rfl (Nat.le_of_ble_eq_true rfl) (Nat.le_of_ble_eq_true rfl) (fun m3 e_m3 => ?_)
  replace h := lt_at h e_m3
  refine pg_aload_n dX8_copyFrom_42 rfl ?_
  refine eg_get dX8_copyFrom_43 fa_X8_21 hS sp23 (Nat.le_of_ble_eq_true rfl) (Nat.le_of_ble_eq_true rfl) rfl rfl ?_
  refine pg_iconst 0 dX8_copyFrom_46 rfl ?_
  refine pg_aload_n dX8_copyFrom_47 rfl ?_
  refine eg_get dX8_copyFrom_48 fa_X8_21 hS sp52 (Nat.le_of_ble_eq_true rfl) (Nat.le_of_ble_eq_true rfl) rfl rfl ?_
  refine pg_iconst 0 dX8_copyFrom_51 rfl ?_
  refine pg_bipush 64 dX8_copyFrom_52 rfl ?_
  refine eg_copyI (n9 := 64) dX8_copyFrom_54 mw311 mw308 mw307 mw309 hS sp27 (Nat.le_of_ble_eq_true rfl) (Nat.le_of_ble_eq_true rfl) rfl sp56 (Nat.le_of_ble_eq_true rfl) (Nat.le_of_ble_eq_true rfl) (fun _ _ _ => rfl) (by decide) rfl (Nat.le_of_ble_eq_true rfl) (Nat.le_of_ble_eq_true rfl) rfl (Nat.le_of_ble_eq_true rfl) (Nat.le_of_ble_eq_true rfl) (fun m4 e_m4 => ?_)
  replace h := lt_at h e_m4
  obtain rfl := Option.some.inj h
  exact hE.2.2.1 _ _ _ _ _ dX8_copyFrom_57 rfl (Nat.zero_le _) (Nat.zero_le _) ⟨rfl, rfl⟩
end
