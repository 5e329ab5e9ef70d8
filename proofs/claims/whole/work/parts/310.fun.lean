section
variable {g : pm_Gl} {X : pm_X} {S : List sF}
def b_X12_mixLink_2 (v1 : Int32) (s : Int32 × me) : Option ((Int32 × me) ⊕ (Int32 × me)) :=
  if 9 ≤ s.1 then
    some (.inr (s.1, s.2))
  else
    bd (f_X12_linkValue v1 s.1 s.2) (fun r2 =>
    bd (f_X12_mix r2.1 r2.2) (fun r3 =>
    lt (s.1 + 1) (fun w4 =>
    some (.inl (w4, r3)))))
def b_X12_mixLink_27 (v1 : Int32) (s : Int32 × me) : Option ((Int32 × me) ⊕ (Int32 × me)) :=
  if 18 ≤ s.1 then
    some (.inr (s.1, s.2))
  else
    bd (f_X12_of v1 s.1 s.2) (fun r7 =>
    bd (f_X12_mix r7.1 r7.2) (fun r8 =>
    lt (s.1 + 1) (fun w9 =>
    some (.inl (w9, r8)))))
def f_X12_mixLink (v1 : Int32) (m0 : me) : Option me :=
  bd (lo (b_X12_mixLink_2 v1) 2048 (0, m0)) (fun s5 =>
  bd (lo (b_X12_mixLink_27 v1) 2048 (8, s5.2)) (fun s10 =>
  some (s10.2)))
set_option maxRecDepth 20000 in
set_option maxHeartbeats 4000000 in
theorem lb_X12_mixLink_2 (hfl : g.1.stackTraces = false) (hS : pS 128 137 S) {v1 : Int32} {s : Int32 × me} {r : (Int32 × me) ⊕ (Int32 × me)} (h : b_X12_mixLink_2 v1 s = some r) (hN : ∀ s', r = .inl s' → (fun z9 : Int32 × me => pm_G g mX12_mixLink X 2 [some (.ref 128), some (.int v1), some (.int z9.1)] [] (en S z9.2) 0 0) s') (hT : ∀ t, r = .inr t → (fun z9 : Int32 × me => pm_G g mX12_mixLink X 24 [some (.ref 128), some (.int v1), some (.int z9.1)] [] (en S z9.2) 0 0) t) : (fun z9 : Int32 × me => pm_G g mX12_mixLink X 2 [some (.ref 128), some (.int v1), some (.int z9.1)] [] (en S z9.2) 0 0) s := by
  unfold b_X12_mixLink_2 at h
  show pm_G g mX12_mixLink X 2 [some (.ref 128), some (.int v1), some (.int s.1)] [] (en S s.2) 0 0
  refine pg_iload_n dX12_mixLink_2 rfl ?_
  refine pg_bipush 9 dX12_mixLink_3 rfl ?_
  refine pg_icmp_ge 24 dX12_mixLink_5 (by decide) (fun c1 => ?_) (fun c1 => ?_)
  · rw [if_pos c1] at h
    obtain rfl := Option.some.inj h
    exact hT _ rfl
  · rw [if_neg c1] at h
    refine pg_aload_n dX12_mixLink_8 rfl ?_
    refine pg_aload_n dX12_mixLink_9 rfl ?_
    refine pg_iload_n dX12_mixLink_10 rfl ?_
    refine pg_iload_n dX12_mixLink_11 rfl ?_
    obtain ⟨r2, h_r2, h⟩ := bd_at h
    refine eg_cVi (C := mX12_linkValue) (as := [(.int v1), (.int s.1)]) dX12_mixLink_12 mw992 cv_X12_linkValue hS sp128 (Nat.le_of_ble_eq_true rfl) (Nat.le_of_ble_eq_true rfl) rfl rfl rfl (Nat.le_of_ble_eq_true rfl) rfl ⟨(Nat.le_of_ble_eq_true rfl), (Nat.le_of_ble_eq_true rfl)⟩ (ct_X12_linkValue hfl (hS.sub (Nat.le_of_ble_eq_true rfl) (Nat.le_of_ble_eq_true rfl)) h_r2) ?_
    obtain ⟨r3, h_r3, h⟩ := bd_at h
    refine eg_cVv (C := mX12_mix) (as := [(.int r2.1)]) dX12_mixLink_15 mw1072 cv_X12_mix hS sp128 (Nat.le_of_ble_eq_true rfl) (Nat.le_of_ble_eq_true rfl) rfl rfl rfl (Nat.le_of_ble_eq_true rfl) rfl ⟨(Nat.le_of_ble_eq_true rfl), (Nat.le_of_ble_eq_true rfl)⟩ (ct_X12_mix hfl (hS.sub (Nat.le_of_ble_eq_true rfl) (Nat.le_of_ble_eq_true rfl)) h_r3) ?_
    obtain ⟨w4, e_w4⟩ : ∃ z : Int32, z = s.1 + 1 := ⟨_, rfl⟩
    replace h := lt_at h e_w4
    refine eg_iinc [some (.ref 128), some (.int v1), some (.int w4)] w4 1 dX12_mixLink_18 rfl rfl e_w4 rfl ?_
    refine pg_goto 2 dX12_mixLink_21 (by decide) ?_
    obtain rfl := Option.some.inj h
    exact hN _ rfl
set_option maxRecDepth 20000 in
set_option maxHeartbeats 4000000 in
theorem lb_X12_mixLink_27 (hfl : g.1.stackTraces = false) (hS : pS 128 137 S) {v1 : Int32} {s : Int32 × me} {r : (Int32 × me) ⊕ (Int32 × me)} (h : b_X12_mixLink_27 v1 s = some r) (hN : ∀ s', r = .inl s' → (fun z9 : Int32 × me => pm_G g mX12_mixLink X 27 [some (.ref 128), some (.int v1), some (.int z9.1)] [] (en S z9.2) 0 0) s') (hT : ∀ t, r = .inr t → (fun z9 : Int32 × me => pm_G g mX12_mixLink X 49 [some (.ref 128), some (.int v1), some (.int z9.1)] [] (en S z9.2) 0 0) t) : (fun z9 : Int32 × me => pm_G g mX12_mixLink X 27 [some (.ref 128), some (.int v1), some (.int z9.1)] [] (en S z9.2) 0 0) s := by
  unfold b_X12_mixLink_27 at h
  show pm_G g mX12_mixLink X 27 [some (.ref 128), some (.int v1), some (.int s.1)] [] (en S s.2) 0 0
  refine pg_iload_n dX12_mixLink_27 rfl ?_
  refine pg_bipush 18 dX12_mixLink_28 rfl ?_
  refine pg_icmp_ge 49 dX12_mixLink_30 (by decide) (fun c6 => ?_) (fun c6 => ?_)
  · rw [if_pos c6] at h
    obtain rfl := Option.some.inj h
    exact hT _ rfl
  · rw [if_neg c6] at h
    refine pg_aload_n dX12_mixLink_33 rfl ?_
    refine pg_aload_n dX12_mixLink_34 rfl ?_
    refine pg_iload_n dX12_mixLink_35 rfl ?_
    refine pg_iload_n dX12_mixLink_36 rfl ?_
    obtain ⟨r7, h_r7, h⟩ := bd_at h
    refine eg_cVi (C := mX12_of) (as := [(.int v1), (.int s.1)]) dX12_mixLink_37 mw863 cv_X12_of hS sp128 (Nat.le_of_ble_eq_true rfl) (Nat.le_of_ble_eq_true rfl) rfl rfl rfl (Nat.le_of_ble_eq_true rfl) rfl ⟨(Nat.le_of_ble_eq_true rfl), (Nat.le_of_ble_eq_true rfl)⟩ (ct_X12_of hfl (hS.sub (Nat.le_of_ble_eq_true rfl) (Nat.le_of_ble_eq_true rfl)) h_r7) ?_
    obtain ⟨r8, h_r8, h⟩ := bd_at h
    refine eg_cVv (C := mX12_mix) (as := [(.int r7.1)]) dX12_mixLink_40 mw1072 cv_X12_mix hS sp128 (Nat.le_of_ble_eq_true rfl) (Nat.le_of_ble_eq_true rfl) rfl rfl rfl (Nat.le_of_ble_eq_true rfl) rfl ⟨(Nat.le_of_ble_eq_true rfl), (Nat.le_of_ble_eq_true rfl)⟩ (ct_X12_mix hfl (hS.sub (Nat.le_of_ble_eq_true rfl) (Nat.le_of_ble_eq_true rfl)) h_r8) ?_
    obtain ⟨w9, e_w9⟩ : ∃ z : Int32, z = s.1 + 1 := ⟨_, rfl⟩
    replace h := lt_at h e_w9
    refine eg_iinc [some (.ref 128), some (.int v1), some (.int w9)] w9 1 dX12_mixLink_43 rfl rfl e_w9 rfl ?_
    refine pg_goto 27 dX12_mixLink_46 (by decide) ?_
    obtain rfl := Option.some.inj h
    exact hN _ rfl
set_option maxRecDepth 20000 in
set_option maxHeartbeats 4000000 in
theorem ct_X12_mixLink (hfl : g.1.stackTraces = false) (hS : pS 128 137 S) {v1 : Int32} {m0 : me} {x : me} (h : f_X12_mixLink v1 m0 = some x) : pm_Ct g mX12_mixLink [.ref 128, .int v1] (en S m0) 0 0 (qV S x) qF := by
  refine pm_of (by decide +kernel) rfl hfl (Nat.le_of_ble_eq_true rfl) (fun X hE => ?_)
  show pm_G g mX12_mixLink X 0 [some (.ref 128), some (.int v1), none] [] (en S m0) 0 0
  unfold f_X12_mixLink at h
  refine pg_iconst 0 dX12_mixLink_0 rfl ?_
  refine eg_istore_n [some (.ref 128), some (.int v1), some (.int 0)] 0 dX12_mixLink_1 rfl (Nat.le_of_ble_eq_true rfl) rfl ?_
  obtain ⟨s5, h_s5, h⟩ := bd_at h
  refine lo_at (b := b_X12_mixLink_2 v1) (G := (fun z9 : Int32 × me => pm_G g mX12_mixLink X 2 [some (.ref 128), some (.int v1), some (.int z9.1)] [] (en S z9.2) 0 0)) (T := (fun z9 : Int32 × me => pm_G g mX12_mixLink X 24 [some (.ref 128), some (.int v1), some (.int z9.1)] [] (en S z9.2) 0 0)) (fun q9 r9 h1 h2 h3 => lb_X12_mixLink_2 hfl hS h1 h2 h3) 2048 (0, m0) s5 h_s5 ?_
  show pm_G g mX12_mixLink X 24 [some (.ref 128), some (.int v1), some (.int s5.1)] [] (en S s5.2) 0 0
  refine pg_bipush 8 dX12_mixLink_24 rfl ?_
  refine eg_istore_n [some (.ref 128), some (.int v1), some (.int 8)] 8 dX12_mixLink_26 rfl (Nat.le_of_ble_eq_true rfl) rfl ?_
  obtain ⟨s10, h_s10, h⟩ := bd_at h
  refine lo_at (b := b_X12_mixLink_27 v1) (G := (fun z9 : Int32 × me => pm_G g mX12_mixLink X 27 [some (.ref 128), some (.int v1), some (.int z9.1)] [] (en S z9.2) 0 0)) (T := (fun z9 : Int32 × me => pm_G g mX12_mixLink X 49 [some (.ref 128), some (.int v1), some (.int z9.1)] [] (en S z9.2) 0 0)) (fun q9 r9 h1 h2 h3 => lb_X12_mixLink_27 hfl hS h1 h2 h3) 2048 (8, s5.2) s10 h_s10 ?_
  show pm_G g mX12_mixLink X 49 [some (.ref 128), some (.int v1), some (.int s10.1)] [] (en S s10.2) 0 0
  obtain rfl := Option.some.inj h
  exact hE.2.2.1 _ _ _ _ _ dX12_mixLink_49 rfl (Nat.zero_le _) (Nat.zero_le _) ⟨rfl, rfl⟩
def b_X12_digest_30 (s : Int32 × me) : Option ((Int32 × me) ⊕ (Int32 × me)) :=
  if 5 ≤ s.1 then
    some (.inr (s.1, s.2))
  else
    gd (inR s.1 487) (
    bd (f_X12_mix (s.2.1 129 s.1.toNatClampNeg) s.2) (fun r6 =>
    lt (s.1 + 1) (fun w7 =>
    some (.inl (w7, r6)))))
def b_X12_digest_53 (s : Int32 × me) : Option ((Int32 × me) ⊕ (Int32 × me)) :=
  if (s.2.1 129 0) ≤ s.1 then
    some (.inr (s.1, s.2))
  else
    bd (f_X12_mixBridge s.1 s.2) (fun r10 =>
    lt (s.1 + 1) (fun w11 =>
    some (.inl (w11, r10))))
def b_X12_digest_76 (s : Int32 × me) : Option ((Int32 × me) ⊕ (Int32 × me)) :=
  if 8 ≤ s.1 then
    some (.inr (s.1, s.2))
  else
    gd (inR (179 + s.1) 487) (
    bd (f_X12_mix (s.2.1 129 ((179 + s.1).toNatClampNeg)) s.2) (fun r14 =>
    lt (s.1 + 1) (fun w15 =>
    some (.inl (w15, r14)))))
def b_X12_digest_114 (s : Int32 × me) : Option ((Int32 × me) ⊕ (Int32 × me)) :=
  if (s.2.1 129 5) ≤ s.1 then
    some (.inr (s.1, s.2))
  else
    bd (f_X12_mixLink s.1 s.2) (fun r19 =>
    lt (s.1 + 1) (fun w20 =>
    some (.inl (w20, r19))))
def b_X12_digest_137 (s : Int32 × me) : Option ((Int32 × me) ⊕ (Int32 × me)) :=
  if 16 ≤ s.1 then
    some (.inr (s.1, s.2))
  else
    bd (f_X12_tenantValue (s.1 / 4) (s.1 - s.1 / 4 * 4) s.2) (fun r23 =>
    bd (f_X12_mix r23.1 r23.2) (fun r24 =>
    lt (s.1 + 1) (fun w25 =>
    some (.inl (w25, r24)))))
def b_X12_digest_165 (s : Int32 × me) : Option ((Int32 × me) ⊕ (Int32 × me)) :=
  if 7 ≤ s.1 then
    some (.inr (s.1, s.2))
  else
    bd (f_X12_counted s.1 s.2) (fun r28 =>
    bd (f_X12_mix r28.1 r28.2) (fun r29 =>
    lt (s.1 + 1) (fun w30 =>
    some (.inl (w30, r29)))))
def j_X12_digest_199 (u1 : Int32) (m0 : me) : Option (Int64 × me) :=
  bd (f_X12_mix u1 m0) (fun r34 =>
  some ((r34.2.1 128 14, r34)))
def f_X12_digest (m0 : me) : Option (Int64 × me) :=
  lt (wI m0 128 6 0) (fun m1 =>
  lt (wJ m1 128 14 18498) (fun m2 =>
  bd (f_X12_mix (m2.1 128 3) m2) (fun r3 =>
  bd (f_X12_mix (r3.1 128 5) r3) (fun r4 =>
  bd (lo (b_X12_digest_30) 2048 (0, r4)) (fun s8 =>
  bd (lo (b_X12_digest_53) 2048 (0, s8.2)) (fun s12 =>
  bd (lo (b_X12_digest_76) 2048 (0, s12.2)) (fun s16 =>
  bd (f_X12_mix (s16.2.1 129 5) s16.2) (fun r17 =>
  bd (lo (b_X12_digest_114) 2048 (0, r17)) (fun s21 =>
  bd (lo (b_X12_digest_137) 2048 (0, s21.2)) (fun s26 =>
  bd (lo (b_X12_digest_165) 2048 (0, s26.2)) (fun s31 =>
  bd (f_X12_isWithoutCycle s31.2) (fun r32 =>
  if r32.1 = 0 then
    j_X12_digest_199 0 r32.2
  else
    j_X12_digest_199 1 r32.2))))))))))))
set_option maxRecDepth 20000 in
set_option maxHeartbeats 4000000 in
theorem lb_X12_digest_30 (hfl : g.1.stackTraces = false) (hS : pS 128 137 S) {s : Int32 × me} {r : (Int32 × me) ⊕ (Int32 × me)} (h : b_X12_digest_30 s = some r) (hN : ∀ s', r = .inl s' → (fun z9 : Int32 × me => pm_G g mX12_digest X 30 [some (.ref 128), some (.int z9.1)] [] (en S z9.2) 0 0) s') (hT : ∀ t, r = .inr t → (fun z9 : Int32 × me => pm_G g mX12_digest X 51 [some (.ref 128), some (.int z9.1)] [] (en S z9.2) 0 0) t) : (fun z9 : Int32 × me => pm_G g mX12_digest X 30 [some (.ref 128), some (.int z9.1)] [] (en S z9.2) 0 0) s := by
  unfold b_X12_digest_30 at h
  show pm_G g mX12_digest X 30 [some (.ref 128), some (.int s.1)] [] (en S s.2) 0 0
  refine pg_iload_n dX12_digest_30 rfl ?_
  refine pg_iconst 5 dX12_digest_31 rfl ?_
  refine pg_icmp_ge 51 dX12_digest_32 (by decide) (fun c5 => ?_) (fun c5 => ?_)
  · rw [if_pos c5] at h
    obtain rfl := Option.some.inj h
    exact hT _ rfl
  · rw [if_neg c5] at h
    refine pg_aload_n dX12_digest_35 rfl ?_
    refine pg_aload_n dX12_digest_36 rfl ?_
    refine eg_get dX12_digest_37 fa_X12_7 hS sp128 (Nat.le_of_ble_eq_true rfl) (Nat.le_of_ble_eq_true rfl) rfl rfl ?_
    refine pg_iload_n dX12_digest_40 rfl ?_
    obtain ⟨g1, h⟩ := gd_at h
    refine eg_ialdJ s.1.toNatClampNeg dX12_digest_41 hS sp129 (Nat.le_of_ble_eq_true rfl) (Nat.le_of_ble_eq_true rfl) rfl (inR_vp g1) rfl ?_
    obtain ⟨r6, h_r6, h⟩ := bd_at h
    refine eg_cVv (C := mX12_mix) (as := [(.int (s.2.1 129 s.1.toNatClampNeg))]) dX12_digest_42 mw1072 cv_X12_mix hS sp128 (Nat.le_of_ble_eq_true rfl) (Nat.le_of_ble_eq_true rfl) rfl rfl rfl (Nat.le_of_ble_eq_true rfl) rfl ⟨(Nat.le_of_ble_eq_true rfl), (Nat.le_of_ble_eq_true rfl)⟩ (ct_X12_mix hfl (hS.sub (Nat.le_of_ble_eq_true rfl) (Nat.le_of_ble_eq_true rfl)) h_r6) ?_
    obtain ⟨w7, e_w7⟩ : ∃ z : Int32, z = s.1 + 1 := ⟨_, rfl⟩
    replace h := lt_at h e_w7
    refine eg_iinc [some (.ref 128), some (.int w7)] w7 1 dX12_digest_45 rfl rfl e_w7 rfl ?_
    refine pg_goto 30 dX12_digest_48 (by decide) ?_
    obtain rfl := Option.some.inj h
    exact hN _ rfl
set_option maxRecDepth 20000 in
set_option maxHeartbeats 4000000 in
theorem lb_X12_digest_53 (hfl : g.1.stackTraces = false) (hS : pS 128 137 S) {s : Int32 × me} {r : (Int32 × me) ⊕ (Int32 × me)} (h : b_X12_digest_53 s = some r) (hN : ∀ s', r = .inl s' → (fun z9 : Int32 × me => pm_G g mX12_digest X 53 [some (.ref 128), some (.int z9.1)] [] (en S z9.2) 0 0) s') (hT : ∀ t, r = .inr t → (fun z9 : Int32 × me => pm_G g mX12_digest X 74 [some (.ref 128), some (.int z9.1)] [] (en S z9.2) 0 0) t) : (fun z9 : Int32 × me => pm_G g mX12_digest X 53 [some (.ref 128), some (.int z9.1)] [] (en S z9.2) 0 0) s := by
  unfold b_X12_digest_53 at h
  show pm_G g mX12_digest X 53 [some (.ref 128), some (.int s.1)] [] (en S s.2) 0 0
  refine pg_iload_n dX12_digest_53 rfl ?_
  refine pg_aload_n dX12_digest_54 rfl ?_
  refine eg_get dX12_digest_55 fa_X12_7 hS sp128 (Nat.le_of_ble_eq_true rfl) (Nat.le_of_ble_eq_true rfl) rfl rfl ?_
  refine pg_iconst 0 dX12_digest_58 rfl ?_
  refine eg_ialdJ 0 dX12_digest_59 hS sp129 (Nat.le_of_ble_eq_true rfl) (Nat.le_of_ble_eq_true rfl) rfl (inR_vp rfl) rfl ?_
  refine pg_icmp_ge 74 dX12_digest_60 (by decide) (fun c9 => ?_) (fun c9 => ?_)
  · rw [if_pos c9] at h
    obtain rfl := Option.some.inj h
    exact hT _ rfl
  · rw [if_neg c9] at h
    refine pg_aload_n dX12_digest_63 rfl ?_
    refine pg_iload_n dX12_digest_64 rfl ?_
    obtain ⟨r10, h_r10, h⟩ := bd_at h
    refine eg_cVv (C := mX12_mixBridge) (as := [(.int s.1)]) dX12_digest_65 mw1077 cv_X12_mixBridge hS sp128 (Nat.le_of_ble_eq_true rfl) (Nat.le_of_ble_eq_true rfl) rfl rfl rfl (Nat.le_of_ble_eq_true rfl) rfl ⟨(Nat.le_of_ble_eq_true rfl), (Nat.le_of_ble_eq_true rfl)⟩ (ct_X12_mixBridge hfl (hS.sub (Nat.le_of_ble_eq_true rfl) (Nat.le_of_ble_eq_true rfl)) h_r10) ?_
    obtain ⟨w11, e_w11⟩ : ∃ z : Int32, z = s.1 + 1 := ⟨_, rfl⟩
    replace h := lt_at h e_w11
    refine eg_iinc [some (.ref 128), some (.int w11)] w11 1 dX12_digest_68 rfl rfl e_w11 rfl ?_
    refine pg_goto 53 dX12_digest_71 (by decide) ?_
    obtain rfl := Option.some.inj h
    exact hN _ rfl
set_option maxRecDepth 20000 in
set_option maxHeartbeats 4000000 in
theorem lb_X12_digest_76 (hfl : g.1.stackTraces = false) (hS : pS 128 137 S) {s : Int32 × me} {r : (Int32 × me) ⊕ (Int32 × me)} (h : b_X12_digest_76 s = some r) (hN : ∀ s', r = .inl s' → (fun z9 : Int32 × me => pm_G g mX12_digest X 76 [some (.ref 128), some (.int z9.1)] [] (en S z9.2) 0 0) s') (hT : ∀ t, r = .inr t → (fun z9 : Int32 × me => pm_G g mX12_digest X 102 [some (.ref 128), some (.int z9.1)] [] (en S z9.2) 0 0) t) : (fun z9 : Int32 × me => pm_G g mX12_digest X 76 [some (.ref 128), some (.int z9.1)] [] (en S z9.2) 0 0) s := by
  unfold b_X12_digest_76 at h
  show pm_G g mX12_digest X 76 [some (.ref 128), some (.int s.1)] [] (en S s.2) 0 0
  refine pg_iload_n dX12_digest_76 rfl ?_
  refine pg_bipush 8 dX12_digest_77 rfl ?_
  refine pg_icmp_ge 102 dX12_digest_79 (by decide) (fun c13 => ?_) (fun c13 => ?_)
  · rw [if_pos c13] at h
    obtain rfl := Option.some.inj h
    exact hT _ rfl
  · rw [if_neg c13] at h
    refine pg_aload_n dX12_digest_82 rfl ?_
    refine pg_aload_n dX12_digest_83 rfl ?_
    refine eg_get dX12_digest_84 fa_X12_7 hS sp128 (Nat.le_of_ble_eq_true rfl) (Nat.le_of_ble_eq_true rfl) rfl rfl ?_
    refine pg_sipush 179 dX12_digest_87 rfl ?_
    refine pg_iload_n dX12_digest_90 rfl ?_
    refine pg_iadd dX12_digest_91 ?_
    obtain ⟨g1, h⟩ := gd_at h
    refine eg_ialdJ ((179 + s.1).toNatClampNeg) dX12_digest_92 hS sp129 (Nat.le_of_ble_eq_true rfl) (Nat.le_of_ble_eq_true rfl) rfl (inR_vp g1) rfl ?_
    obtain ⟨r14, h_r14, h⟩ := bd_at h
    refine eg_cVv (C := mX12_mix) (as := [(.int (s.2.1 129 ((179 + s.1).toNatClampNeg)))]) dX12_digest_93 mw1072 cv_X12_mix hS sp128 (Nat.le_of_ble_eq_true rfl) (Nat.le_of_ble_eq_true rfl) rfl rfl rfl (Nat.le_of_ble_eq_true rfl) rfl ⟨(Nat.le_of_ble_eq_true rfl), (Nat.le_of_ble_eq_true rfl)⟩ (ct_X12_mix hfl (hS.sub (Nat.le_of_ble_eq_true rfl) (Nat.le_of_ble_eq_true rfl)) h_r14) ?_
    obtain ⟨w15, e_w15⟩ : ∃ z : Int32, z = s.1 + 1 := ⟨_, rfl⟩
    replace h := lt_at h e_w15
    refine eg_iinc [some (.ref 128), some (.int w15)] w15 1 dX12_digest_96 rfl rfl e_w15 rfl ?_
    refine pg_goto 76 dX12_digest_99 (by decide) ?_
    obtain rfl := Option.some.inj h
    exact hN _ rfl
set_option maxRecDepth 20000 in
set_option maxHeartbeats 4000000 in
theorem lb_X12_digest_114 (hfl : g.1.stackTraces = false) (hS : pS 128 137 S) {s : Int32 × me} {r : (Int32 × me) ⊕ (Int32 × me)} (h : b_X12_digest_114 s = some r) (hN : ∀ s', r = .inl s' → (fun z9 : Int32 × me => pm_G g mX12_digest X 114 [some (.ref 128), some (.int z9.1)] [] (en S z9.2) 0 0) s') (hT : ∀ t, r = .inr t → (fun z9 : Int32 × me => pm_G g mX12_digest X 135 [some (.ref 128), some (.int z9.1)] [] (en S z9.2) 0 0) t) : (fun z9 : Int32 × me => pm_G g mX12_digest X 114 [some (.ref 128), some (.int z9.1)] [] (en S z9.2) 0 0) s := by
  unfold b_X12_digest_114 at h
  show pm_G g mX12_digest X 114 [some (.ref 128), some (.int s.1)] [] (en S s.2) 0 0
  refine pg_iload_n dX12_digest_114 rfl ?_
  refine pg_aload_n dX12_digest_115 rfl ?_
  refine eg_get dX12_digest_116 fa_X12_7 hS sp128 (Nat.le_of_ble_eq_true rfl) (Nat.le_of_ble_eq_true rfl) rfl rfl ?_
  refine pg_iconst 5 dX12_digest_119 rfl ?_
  refine eg_ialdJ 5 dX12_digest_120 hS sp129 (Nat.le_of_ble_eq_true rfl) (Nat.le_of_ble_eq_true rfl) rfl (inR_vp rfl) rfl ?_
  refine pg_icmp_ge 135 dX12_digest_121 (by decide) (fun c18 => ?_) (fun c18 => ?_)
  · rw [if_pos c18] at h
    obtain rfl := Option.some.inj h
    exact hT _ rfl
  · rw [if_neg c18] at h
    refine pg_aload_n dX12_digest_124 rfl ?_
    refine pg_iload_n dX12_digest_125 rfl ?_
    obtain ⟨r19, h_r19, h⟩ := bd_at h
    refine eg_cVv (C := mX12_mixLink) (as := [(.int s.1)]) dX12_digest_126 mw1082 cv_X12_mixLink hS sp128 (Nat.le_of_ble_eq_true rfl) (Nat.le_of_ble_eq_true rfl) rfl rfl rfl (Nat.le_of_ble_eq_true rfl) rfl ⟨(Nat.le_of_ble_eq_true rfl), (Nat.le_of_ble_eq_true rfl)⟩ (ct_X12_mixLink hfl (hS.sub (Nat.le_of_ble_eq_true rfl) (Nat.le_of_ble_eq_true rfl)) h_r19) ?_
    obtain ⟨w20, e_w20⟩ : ∃ z : Int32, z = s.1 + 1 := ⟨_, rfl⟩
    replace h := lt_at h e_w20
    refine eg_iinc [some (.ref 128), some (.int w20)] w20 1 dX12_digest_129 rfl rfl e_w20 rfl ?_
    refine pg_goto 114 dX12_digest_132 (by decide) ?_
    obtain rfl := Option.some.inj h
    exact hN _ rfl
set_option maxRecDepth 20000 in
set_option maxHeartbeats 4000000 in
theorem lb_X12_digest_137 (hfl : g.1.stackTraces = false) (hS : pS 128 137 S) {s : Int32 × me} {r : (Int32 × me) ⊕ (Int32 × me)} (h : b_X12_digest_137 s = some r) (hN : ∀ s', r = .inl s' → (fun z9 : Int32 × me => pm_G g mX12_digest X 137 [some (.ref 128), some (.int z9.1)] [] (en S z9.2) 0 0) s') (hT : ∀ t, r = .inr t → (fun z9 : Int32 × me => pm_G g mX12_digest X 163 [some (.ref 128), some (.int z9.1)] [] (en S z9.2) 0 0) t) : (fun z9 : Int32 × me => pm_G g mX12_digest X 137 [some (.ref 128), some (.int z9.1)] [] (en S z9.2) 0 0) s := by
  unfold b_X12_digest_137 at h
  show pm_G g mX12_digest X 137 [some (.ref 128), some (.int s.1)] [] (en S s.2) 0 0
  refine pg_iload_n dX12_digest_137 rfl ?_
  refine pg_bipush 16 dX12_digest_138 rfl ?_
  refine pg_icmp_ge 163 dX12_digest_140 (by decide) (fun c22 => ?_) (fun c22 => ?_)
  · rw [if_pos c22] at h
    obtain rfl := Option.some.inj h
    exact hT _ rfl
  · rw [if_neg c22] at h
    refine pg_aload_n dX12_digest_143 rfl ?_
    refine pg_aload_n dX12_digest_144 rfl ?_
    refine pg_iload_n dX12_digest_145 rfl ?_
    refine pg_iconst 4 dX12_digest_146 rfl ?_
    refine pg_idiv dX12_digest_147 (by decide) ?_
    refine pg_iload_n dX12_digest_148 rfl ?_
    refine pg_iconst 4 dX12_digest_149 rfl ?_
    refine pg_irem dX12_digest_150 (by decide) ?_
    obtain ⟨r23, h_r23, h⟩ := bd_at h
    refine eg_cVi (C := mX12_tenantValue) (as := [(.int (s.1 / 4)), (.int (s.1 - s.1 / 4 * 4))]) dX12_digest_151 mw997 cv_X12_tenantValue hS sp128 (Nat.le_of_ble_eq_true rfl) (Nat.le_of_ble_eq_true rfl) rfl rfl rfl (Nat.le_of_ble_eq_true rfl) rfl ⟨(Nat.le_of_ble_eq_true rfl), (Nat.le_of_ble_eq_true rfl)⟩ (ct_X12_tenantValue hfl (hS.sub (Nat.le_of_ble_eq_true rfl) (Nat.le_of_ble_eq_true rfl)) h_r23) ?_
    obtain ⟨r24, h_r24, h⟩ := bd_at h
    refine eg_cVv (C := mX12_mix) (as := [(.int r23.1)]) dX12_digest_154 mw1072 cv_X12_mix hS sp128 (Nat.le_of_ble_eq_true rfl) (Nat.le_of_ble_eq_true rfl) rfl rfl rfl (Nat.le_of_ble_eq_true rfl) rfl ⟨(Nat.le_of_ble_eq_true rfl), (Nat.le_of_ble_eq_true rfl)⟩ (ct_X12_mix hfl (hS.sub (Nat.le_of_ble_eq_true rfl) (Nat.le_of_ble_eq_true rfl)) h_r24) ?_
    obtain ⟨w25, e_w25⟩ : ∃ z : Int32, z = s.1 + 1 := ⟨_, rfl⟩
    replace h := lt_at h e_w25
    refine eg_iinc [some (.ref 128), some (.int w25)] w25 1 dX12_digest_157 rfl rfl e_w25 rfl ?_
    refine pg_goto 137 dX12_digest_160 (by decide) ?_
    obtain rfl := Option.some.inj h
    exact hN _ rfl
set_option maxRecDepth 20000 in
set_option maxHeartbeats 4000000 in
theorem lb_X12_digest_165 (hfl : g.1.stackTraces = false) (hS : pS 128 137 S) {s : Int32 × me} {r : (Int32 × me) ⊕ (Int32 × me)} (h : b_X12_digest_165 s = some r) (hN : ∀ s', r = .inl s' → (fun z9 : Int32 × me => pm_G g mX12_digest X 165 [some (.ref 128), some (.int z9.1)] [] (en S z9.2) 0 0) s') (hT : ∀ t, r = .inr t → (fun z9 : Int32 × me => pm_G g mX12_digest X 186 [some (.ref 128), some (.int z9.1)] [] (en S z9.2) 0 0) t) : (fun z9 : Int32 × me => pm_G g mX12_digest X 165 [some (.ref 128), some (.int z9.1)] [] (en S z9.2) 0 0) s := by
  unfold b_X12_digest_165 at h
  show pm_G g mX12_digest X 165 [some (.ref 128), some (.int s.1)] [] (en S s.2) 0 0
  refine pg_iload_n dX12_digest_165 rfl ?_
  refine pg_bipush 7 dX12_digest_166 rfl ?_
  refine pg_icmp_ge 186 dX12_digest_168 (by decide) (fun c27 => ?_) (fun c27 => ?_)
  · rw [if_pos c27] at h
    obtain rfl := Option.some.inj h
    exact hT _ rfl
  · rw [if_neg c27] at h
    refine pg_aload_n dX12_digest_171 rfl ?_
    refine pg_aload_n dX12_digest_172 rfl ?_
    refine pg_iload_n dX12_digest_173 rfl ?_
    obtain ⟨r28, h_r28, h⟩ := bd_at h
    refine eg_cVi (C := mX12_counted) (as := [(.int s.1)]) dX12_digest_174 mw1007 cv_X12_counted hS sp128 (Nat.le_of_ble_eq_true rfl) (Nat.le_of_ble_eq_true rfl) rfl rfl rfl (Nat.le_of_ble_eq_true rfl) rfl ⟨(Nat.le_of_ble_eq_true rfl), (Nat.le_of_ble_eq_true rfl)⟩ (ct_X12_counted hfl (hS.sub (Nat.le_of_ble_eq_true rfl) (Nat.le_of_ble_eq_true rfl)) h_r28) ?_
    obtain ⟨r29, h_r29, h⟩ := bd_at h
    refine eg_cVv (C := mX12_mix) (as := [(.int r28.1)]) dX12_digest_177 mw1072 cv_X12_mix hS sp128 (Nat.le_of_ble_eq_true rfl) (Nat.le_of_ble_eq_true rfl) rfl rfl rfl (Nat.le_of_ble_eq_true rfl) rfl ⟨(Nat.le_of_ble_eq_true rfl), (Nat.le_of_ble_eq_true rfl)⟩ (ct_X12_mix hfl (hS.sub (Nat.le_of_ble_eq_true rfl) (Nat.le_of_ble_eq_true rfl)) h_r29) ?_
    obtain ⟨w30, e_w30⟩ : ∃ z : Int32, z = s.1 + 1 := ⟨_, rfl⟩
    replace h := lt_at h e_w30
    refine eg_iinc [some (.ref 128), some (.int w30)] w30 1 dX12_digest_180 rfl rfl e_w30 rfl ?_
    refine pg_goto 165 dX12_digest_183 (by decide) ?_
    obtain rfl := Option.some.inj h
    exact hN _ rfl
set_option maxRecDepth 20000 in
set_option maxHeartbeats 4000000 in
theorem lj_X12_digest_199 (hfl : g.1.stackTraces = false) (hS : pS 128 137 S) {u1 : Int32} {m0 : me} {r : (Int64 × me)} (h : j_X12_digest_199 u1 m0 = some r) (hE : pm_End g mX12_digest X 0 0 (qJ S r) qF) : pm_G g mX12_digest X 199 [some (.ref 128), none] [(.int u1), (.ref 128)] (en S m0) 0 0 := by
  unfold j_X12_digest_199 at h
  obtain ⟨r34, h_r34, h⟩ := bd_at h
  refine eg_cVv (C := mX12_mix) (as := [(.int u1)]) dX12_digest_199 mw1072 cv_X12_mix hS sp128 (Nat.le_of_ble_eq_true rfl) (Nat.le_of_ble_eq_true rfl) rfl rfl rfl (Nat.le_of_ble_eq_true rfl) rfl ⟨(Nat.le_of_ble_eq_true rfl), (Nat.le_of_ble_eq_true rfl)⟩ (ct_X12_mix hfl (hS.sub (Nat.le_of_ble_eq_true rfl) (Nat.le_of_ble_eq_true rfl)) h_r34) ?_
  refine pg_aload_n dX12_digest_202 rfl ?_
  refine eg_get dX12_digest_203 fa_X12_241 hS sp128 (Nat.le_of_ble_eq_true rfl) (Nat.le_of_ble_eq_true rfl) rfl rfl ?_
  obtain rfl := Option.some.inj h
  exact hE.2.2.2.1 _ _ _ _ _ _ dX12_digest_206 rfl (Nat.zero_le _) (Nat.zero_le _) ⟨rfl, rfl⟩
set_option maxRecDepth 20000 in
set_option maxHeartbeats 4000000 in
theorem ct_X12_digest (hfl : g.1.stackTraces = false) (hS : pS 128 137 S) {m0 : me} {x : (Int64 × me)} (h : f_X12_digest m0 = some x) : pm_Ct g mX12_digest [.ref 128] (en S m0) 0 0 (qJ S x) qF := by
  refine pm_of (by decide +kernel) rfl hfl (Nat.le_of_ble_eq_true rfl) (fun X hE => ?_)
  show pm_G g mX12_digest X 0 [some (.ref 128), none] [] (en S m0) 0 0
  unfold f_X12_digest at h
  refine pg_aload_n dX12_digest_0 rfl ?_
  refine pg_iconst 0 dX12_digest_1 rfl ?_
  refine eg_put dX12_digest_2 fa_X12_38 hS sp128 (Nat.le_of_ble_eq_true rfl) (Nat.le_of_ble_eq_true rfl) rfl (Nat.le_of_ble_eq_true rfl) rfl (fun m1 e_m1 => ?_)
  replace h := lt_at h e_m1
  refine pg_aload_n dX12_digest_5 rfl ?_
  refine pg_ldc2 dX12_digest_6 mw1070 ?_
  refine eg_putJ dX12_digest_9 fa_X12_241 hS sp128 (Nat.le_of_ble_eq_true rfl) (Nat.le_of_ble_eq_true rfl) rfl (Nat.le_of_ble_eq_true rfl) rfl (fun m2 e_m2 => ?_)
  replace h := lt_at h e_m2
  refine pg_aload_n dX12_digest_12 rfl ?_
  refine pg_aload_n dX12_digest_13 rfl ?_
  refine eg_get dX12_digest_14 fa_X12_42 hS sp128 (Nat.le_of_ble_eq_true rfl) (Nat.le_of_ble_eq_true rfl) rfl rfl ?_
  obtain ⟨r3, h_r3, h⟩ := bd_at h
  refine eg_cVv (C := mX12_mix) (as := [(.int (m2.1 128 3))]) dX12_digest_17 mw1072 cv_X12_mix hS sp128 (Nat.le_of_ble_eq_true rfl) (Nat.le_of_ble_eq_true rfl) rfl rfl rfl (Nat.le_of_ble_eq_true rfl) rfl ⟨(Nat.le_of_ble_eq_true rfl), (Nat.le_of_ble_eq_true rfl)⟩ (ct_X12_mix hfl (hS.sub (Nat.le_of_ble_eq_true rfl) (Nat.le_of_ble_eq_true rfl)) h_r3) ?_
  refine pg_aload_n dX12_digest_20 rfl ?_
  refine pg_aload_n dX12_digest_21 rfl ?_
  refine eg_get dX12_digest_22 fa_X12_202 hS sp128 (Nat.le_of_ble_eq_true rfl) (Nat.le_of_ble_eq_true rfl) rfl rfl ?_
  obtain ⟨r4, h_r4, h⟩ := bd_at h
  refine eg_cVv (C := mX12_mix) (as := [(.int (r3.1 128 5))]) dX12_digest_25 mw1072 cv_X12_mix hS sp128 (Nat.le_of_ble_eq_true rfl) (Nat.le_of_ble_eq_true rfl) rfl rfl rfl (Nat.le_of_ble_eq_true rfl) rfl ⟨(Nat.le_of_ble_eq_true rfl), (Nat.le_of_ble_eq_true rfl)⟩ (ct_X12_mix hfl (hS.sub (Nat.le_of_ble_eq_true rfl) (Nat.le_of_ble_eq_true rfl)) h_r4) ?_
  refine pg_iconst 0 dX12_digest_28 rfl ?_
  refine eg_istore_n [some (.ref 128), some (.int 0)] 0 dX12_digest_29 rfl (Nat.le_of_ble_eq_true rfl) rfl ?_
  obtain ⟨s8, h_s8, h⟩ := bd_at h
  refine lo_at (b := b_X12_digest_30) (G := (fun z9 : Int32 × me => pm_G g mX12_digest X 30 [some (.ref 128), some (.int z9.1)] [] (en S z9.2) 0 0)) (T := (fun z9 : Int32 × me => pm_G g mX12_digest X 51 [some (.ref 128), some (.int z9.1)] [] (en S z9.2) 0 0)) (fun q9 r9 h1 h2 h3 => lb_X12_digest_30 hfl hS h1 h2 h3) 2048 (0, r4) s8 h_s8 ?_
  show pm_G g mX12_digest X 51 [some (.ref 128), some (.int s8.1)] [] (en S s8.2) 0 0
  refine pg_iconst 0 dX12_digest_51 rfl ?_
  refine eg_istore_n [some (.ref 128), some (.int 0)] 0 dX12_digest_52 rfl (Nat.le_of_ble_eq_true rfl) rfl ?_
  obtain ⟨s12, h_s12, h⟩ := bd_at h
  refine lo_at (b := b_X12_digest_53) (G := (fun z9 : Int32 × me => pm_G g mX12_digest X 53 [some (.ref 128), some (.int z9.1)] [] (en S z9.2) 0 0)) (T := (fun z9 : Int32 × me => pm_G g mX12_digest X 74 [some (.ref 128), some (.int z9.1)] [] (en S z9.2) 0 0)) (fun q9 r9 h1 h2 h3 => lb_X12_digest_53 hfl hS h1 h2 h3) 2048 (0, s8.2) s12 h_s12 ?_
  show pm_G g mX12_digest X 74 [some (.ref 128), some (.int s12.1)] [] (en S s12.2) 0 0
  refine pg_iconst 0 dX12_digest_74 rfl ?_
  refine eg_istore_n [some (.ref 128), some (.int 0)] 0 dX12_digest_75 rfl (Nat.le_of_ble_eq_true rfl) rfl ?_
  obtain ⟨s16, h_s16, h⟩ := bd_at h
  refine lo_at (b := b_X12_digest_76) (G := (fun z9 : Int32 × me => pm_G g mX12_digest X 76 [some (.ref 128), some (.int z9.1)] [] (en S z9.2) 0 0)) (T := (fun z9 : Int32 × me => pm_G g mX12_digest X 102 [some (.ref 128), some (.int z9.1)] [] (en S z9.2) 0 0)) (fun q9 r9 h1 h2 h3 => lb_X12_digest_76 hfl hS h1 h2 h3) 2048 (0, s12.2) s16 h_s16 ?_
  show pm_G g mX12_digest X 102 [some (.ref 128), some (.int s16.1)] [] (en S s16.2) 0 0
  refine pg_aload_n dX12_digest_102 rfl ?_
  refine pg_aload_n dX12_digest_103 rfl ?_
  refine eg_get dX12_digest_104 fa_X12_7 hS sp128 (Nat.le_of_ble_eq_true rfl) (Nat.le_of_ble_eq_true rfl) rfl rfl ?_
  refine pg_iconst 5 dX12_digest_107 rfl ?_
  refine eg_ialdJ 5 dX12_digest_108 hS sp129 (Nat.le_of_ble_eq_true rfl) (Nat.le_of_ble_eq_true rfl) rfl (inR_vp rfl) rfl ?_
  obtain ⟨r17, h_r17, h⟩ := bd_at h
  refine eg_cVv (C := mX12_mix) (as := [(.int (s16.2.1 129 5))]) dX12_digest_109 mw1072 cv_X12_mix hS sp128 (Nat.le_of_ble_eq_true rfl) (Nat.le_of_ble_eq_true rfl) rfl rfl rfl (Nat.le_of_ble_eq_true rfl) rfl ⟨(Nat.le_of_ble_eq_true rfl), (Nat.le_of_ble_eq_true rfl)⟩ (ct_X12_mix hfl (hS.sub (Nat.le_of_ble_eq_true rfl) (Nat.le_of_ble_eq_true rfl)) h_r17) ?_
  refine pg_iconst 0 dX12_digest_112 rfl ?_
  refine eg_istore_n [some (.ref 128), some (.int 0)] 0 dX12_digest_113 rfl (Nat.le_of_ble_eq_true rfl) rfl ?_
  obtain ⟨s21, h_s21, h⟩ := bd_at h
  refine lo_at (b := b_X12_digest_114) (G := (fun z9 : Int32 × me => pm_G g mX12_digest X 114 [some (.ref 128), some (.int z9.1)] [] (en S z9.2) 0 0)) (T := (fun z9 : Int32 × me => pm_G g mX12_digest X 135 [some (.ref 128), some (.int z9.1)] [] (en S z9.2) 0 0)) (fun q9 r9 h1 h2 h3 => lb_X12_digest_114 hfl hS h1 h2 h3) 2048 (0, r17) s21 h_s21 ?_
  show pm_G g mX12_digest X 135 [some (.ref 128), some (.int s21.1)] [] (en S s21.2) 0 0
  refine pg_iconst 0 dX12_digest_135 rfl ?_
  refine eg_istore_n [some (.ref 128), some (.int 0)] 0 dX12_digest_136 rfl (Nat.le_of_ble_eq_true rfl) rfl ?_
  obtain ⟨s26, h_s26, h⟩ := bd_at h
  refine lo_at (b := b_X12_digest_137) (G := (fun z9 : Int32 × me => pm_G g mX12_digest X 137 [some (.ref 128), some (.int z9.1)] [] (en S z9.2) 0 0)) (T := (fun z9 : Int32 × me => pm_G g mX12_digest X 163 [some (.ref 128), some (.int z9.1)] [] (en S z9.2) 0 0)) (fun q9 r9 h1 h2 h3 => lb_X12_digest_137 hfl hS h1 h2 h3) 2048 (0, s21.2) s26 h_s26 ?_
  show pm_G g mX12_digest X 163 [some (.ref 128), some (.int s26.1)] [] (en S s26.2) 0 0
  refine pg_iconst 0 dX12_digest_163 rfl ?_
  refine eg_istore_n [some (.ref 128), some (.int 0)] 0 dX12_digest_164 rfl (Nat.le_of_ble_eq_true rfl) rfl ?_
  obtain ⟨s31, h_s31, h⟩ := bd_at h
  refine lo_at (b := b_X12_digest_165) (G := (fun z9 : Int32 × me => pm_G g mX12_digest X 165 [some (.ref 128), some (.int z9.1)] [] (en S z9.2) 0 0)) (T := (fun z9 : Int32 × me => pm_G g mX12_digest X 186 [some (.ref 128), some (.int z9.1)] [] (en S z9.2) 0 0)) (fun q9 r9 h1 h2 h3 => lb_X12_digest_165 hfl hS h1 h2 h3) 2048 (0, s26.2) s31 h_s31 ?_
  show pm_G g mX12_digest X 186 [some (.ref 128), some (.int s31.1)] [] (en S s31.2) 0 0
  refine pg_aload_n dX12_digest_186 rfl ?_
  refine pg_aload_n dX12_digest_187 rfl ?_
  obtain ⟨r32, h_r32, h⟩ := bd_at h
  refine eg_cVi (C := mX12_isWithoutCycle) (as := []) dX12_digest_188 mw1022 cv_X12_isWithoutCycle hS sp128 (Nat.le_of_ble_eq_true rfl) (Nat.le_of_ble_eq_true rfl) rfl rfl rfl (Nat.le_of_ble_eq_true rfl) rfl ⟨(Nat.le_of_ble_eq_true rfl), (Nat.le_of_ble_eq_true rfl)⟩ (ct_X12_isWithoutCycle hfl (hS.sub (Nat.le_of_ble_eq_true rfl) (Nat.le_of_ble_eq_true rfl)) h_r32) ?_
  refine pg_if_eq 198 dX12_digest_191 (by decide) (fun c33 => ?_) (fun c33 => ?_)
  · rw [if_pos c33] at h
    refine pg_iconst 0 dX12_digest_198 rfl ?_
    refine eg_forget [some (.ref 128), none] (show pm_sub _ _ from ⟨rfl, trivial⟩) ?_
    exact lj_X12_digest_199 hfl hS h hE
  · rw [if_neg c33] at h
    refine pg_iconst 1 dX12_digest_194 rfl ?_
    refine pg_goto 199 dX12_digest_195 (by decide) ?_
    refine eg_forget [some (.ref 128), none] (show pm_sub _ _ from ⟨rfl, trivial⟩) ?_
    exact lj_X12_digest_199 hfl hS h hE
end
