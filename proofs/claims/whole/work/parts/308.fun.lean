section
variable {g : pm_Gl} {X : pm_X} {S : List sF}
def b_X12_carrying_4 (s : Int32 × Int32 × me) : Option ((Int32 × Int32 × me) ⊕ (Int32 × Int32 × me)) :=
  if (s.2.2.1 129 5) ≤ s.2.1 then
    some (.inr (s.1, s.2.1, s.2.2))
  else
    bd (f_X12_carries s.2.1 s.2.2) (fun r2 =>
    if r2.1 = 0 then
      lt (s.1 + 0) (fun w4 =>
      lt (s.2.1 + 1) (fun w5 =>
      some (.inl (w4, w5, r2.2))))
    else
      lt (s.1 + 1) (fun w6 =>
      lt (s.2.1 + 1) (fun w7 =>
      some (.inl (w6, w7, r2.2)))))
def f_X12_carrying (m0 : me) : Option (Int32 × me) :=
  bd (lo (b_X12_carrying_4) 2048 (0, 0, m0)) (fun s8 =>
  some ((s8.1, s8.2.2)))
set_option maxRecDepth 20000 in
set_option maxHeartbeats 4000000 in
theorem lb_X12_carrying_4 (hfl : g.1.stackTraces = false) (hS : pS 128 137 S) {s : Int32 × Int32 × me} {r : (Int32 × Int32 × me) ⊕ (Int32 × Int32 × me)} (h : b_X12_carrying_4 s = some r) (hN : ∀ s', r = .inl s' → (fun z9 : Int32 × Int32 × me => pm_G g mX12_carrying X 4 [some (.ref 128), some (.int z9.1), some (.int z9.2.1)] [] (en S z9.2.2) 0 0) s') (hT : ∀ t, r = .inr t → (fun z9 : Int32 × Int32 × me => pm_G g mX12_carrying X 36 [some (.ref 128), some (.int z9.1), some (.int z9.2.1)] [] (en S z9.2.2) 0 0) t) : (fun z9 : Int32 × Int32 × me => pm_G g mX12_carrying X 4 [some (.ref 128), some (.int z9.1), some (.int z9.2.1)] [] (en S z9.2.2) 0 0) s := by
  unfold b_X12_carrying_4 at h
  show pm_G g mX12_carrying X 4 [some (.ref 128), some (.int s.1), some (.int s.2.1)] [] (en S s.2.2) 0 0
  refine pg_iload_n dX12_carrying_4 rfl ?_
  refine pg_aload_n dX12_carrying_5 rfl ?_
  refine eg_get dX12_carrying_6 fa_X12_7 hS sp128 (Nat.le_of_ble_eq_true rfl) (Nat.le_of_ble_eq_true rfl) rfl rfl ?_
  refine pg_iconst 5 dX12_carrying_9 rfl ?_
  refine eg_ialdJ 5 dX12_carrying_10 hS sp129 (Nat.le_of_ble_eq_true rfl) (Nat.le_of_ble_eq_true rfl) rfl (inR_vp rfl) rfl ?_
  refine pg_icmp_ge 36 dX12_carrying_11 (by decide) (fun c1 => ?_) (fun c1 => ?_)
  · rw [if_pos c1] at h
    obtain rfl := Option.some.inj h
    exact hT _ rfl
  · rw [if_neg c1] at h
    refine pg_iload_n dX12_carrying_14 rfl ?_
    refine pg_aload_n dX12_carrying_15 rfl ?_
    refine pg_iload_n dX12_carrying_16 rfl ?_
    obtain ⟨r2, h_r2, h⟩ := bd_at h
    refine eg_cVi (C := mX12_carries) (as := [(.int s.2.1)]) dX12_carrying_17 mw967 cv_X12_carries hS sp128 (Nat.le_of_ble_eq_true rfl) (Nat.le_of_ble_eq_true rfl) rfl rfl rfl (Nat.le_of_ble_eq_true rfl) rfl ⟨(Nat.le_of_ble_eq_true rfl), (Nat.le_of_ble_eq_true rfl)⟩ (ct_X12_carries hfl (hS.sub (Nat.le_of_ble_eq_true rfl) (Nat.le_of_ble_eq_true rfl)) h_r2) ?_
    refine pg_if_eq 27 dX12_carrying_20 (by decide) (fun c3 => ?_) (fun c3 => ?_)
    · rw [if_pos c3] at h
      refine pg_iconst 0 dX12_carrying_27 rfl ?_
      refine pg_iadd dX12_carrying_28 ?_
      obtain ⟨w4, e_w4⟩ : ∃ z : Int32, z = s.1 + 0 := ⟨_, rfl⟩
      replace h := lt_at h e_w4
      refine eg_istore_n [some (.ref 128), some (.int w4), some (.int s.2.1)] w4 dX12_carrying_29 e_w4 (Nat.le_of_ble_eq_true rfl) rfl ?_
      obtain ⟨w5, e_w5⟩ : ∃ z : Int32, z = s.2.1 + 1 := ⟨_, rfl⟩
      replace h := lt_at h e_w5
      refine eg_iinc [some (.ref 128), some (.int w4), some (.int w5)] w5 1 dX12_carrying_30 rfl rfl e_w5 rfl ?_
      refine pg_goto 4 dX12_carrying_33 (by decide) ?_
      obtain rfl := Option.some.inj h
      exact hN _ rfl
    · rw [if_neg c3] at h
      refine pg_iconst 1 dX12_carrying_23 rfl ?_
      refine pg_goto 28 dX12_carrying_24 (by decide) ?_
      refine pg_iadd dX12_carrying_28 ?_
      obtain ⟨w6, e_w6⟩ : ∃ z : Int32, z = s.1 + 1 := ⟨_, rfl⟩
      replace h := lt_at h e_w6
      refine eg_istore_n [some (.ref 128), some (.int w6), some (.int s.2.1)] w6 dX12_carrying_29 e_w6 (Nat.le_of_ble_eq_true rfl) rfl ?_
      obtain ⟨w7, e_w7⟩ : ∃ z : Int32, z = s.2.1 + 1 := ⟨_, rfl⟩
      replace h := lt_at h e_w7
      refine eg_iinc [some (.ref 128), some (.int w6), some (.int w7)] w7 1 dX12_carrying_30 rfl rfl e_w7 rfl ?_
      refine pg_goto 4 dX12_carrying_33 (by decide) ?_
      obtain rfl := Option.some.inj h
      exact hN _ rfl
set_option maxRecDepth 20000 in
set_option maxHeartbeats 4000000 in
theorem ct_X12_carrying (hfl : g.1.stackTraces = false) (hS : pS 128 137 S) {m0 : me} {x : (Int32 × me)} (h : f_X12_carrying m0 = some x) : pm_Ct g mX12_carrying [.ref 128] (en S m0) 0 0 (qI S x) qF := by
  refine pm_of (by decide +kernel) rfl hfl (Nat.le_of_ble_eq_true rfl) (fun X hE => ?_)
  show pm_G g mX12_carrying X 0 [some (.ref 128), none, none] [] (en S m0) 0 0
  unfold f_X12_carrying at h
  refine pg_iconst 0 dX12_carrying_0 rfl ?_
  refine eg_istore_n [some (.ref 128), some (.int 0), none] 0 dX12_carrying_1 rfl (Nat.le_of_ble_eq_true rfl) rfl ?_
  refine pg_iconst 0 dX12_carrying_2 rfl ?_
  refine eg_istore_n [some (.ref 128), some (.int 0), some (.int 0)] 0 dX12_carrying_3 rfl (Nat.le_of_ble_eq_true rfl) rfl ?_
  obtain ⟨s8, h_s8, h⟩ := bd_at h
  refine lo_at (b := b_X12_carrying_4) (G := (fun z9 : Int32 × Int32 × me => pm_G g mX12_carrying X 4 [some (.ref 128), some (.int z9.1), some (.int z9.2.1)] [] (en S z9.2.2) 0 0)) (T := (fun z9 : Int32 × Int32 × me => pm_G g mX12_carrying X 36 [some (.ref 128), some (.int z9.1), some (.int z9.2.1)] [] (en S z9.2.2) 0 0)) (fun q9 r9 h1 h2 h3 => lb_X12_carrying_4 hfl hS h1 h2 h3) 2048 (0, 0, m0) s8 h_s8 ?_
  show pm_G g mX12_carrying X 36 [some (.ref 128), some (.int s8.1), some (.int s8.2.1)] [] (en S s8.2.2) 0 0
  refine pg_iload_n dX12_carrying_36 rfl ?_
  obtain rfl := Option.some.inj h
  exact hE.2.1 _ _ _ _ _ _ .int dX12_carrying_37 rfl rfl (Nat.zero_le _) (Nat.zero_le _) ⟨rfl, rfl⟩
def f_X12_counted (v1 : Int32) (m0 : me) : Option (Int32 × me) :=
  if 5 ≤ v1 then
    if v1 = 5 then
      bd (f_X12_carrying m0) (fun r4 =>
      some ((r4.1, r4.2)))
    else
      bd (f_X12_pairs m0) (fun r3 =>
      some ((r3.1, r3.2)))
  else
    gd (inR (6 + v1) 487) (
    some ((m0.1 129 ((6 + v1).toNatClampNeg), m0)))
set_option maxRecDepth 20000 in
set_option maxHeartbeats 4000000 in
theorem ct_X12_counted (hfl : g.1.stackTraces = false) (hS : pS 128 137 S) {v1 : Int32} {m0 : me} {x : (Int32 × me)} (h : f_X12_counted v1 m0 = some x) : pm_Ct g mX12_counted [.ref 128, .int v1] (en S m0) 0 0 (qI S x) qF := by
  refine pm_of (by decide +kernel) rfl hfl (Nat.le_of_ble_eq_true rfl) (fun X hE => ?_)
  show pm_G g mX12_counted X 0 [some (.ref 128), some (.int v1)] [] (en S m0) 0 0
  unfold f_X12_counted at h
  refine pg_iload_n dX12_counted_0 rfl ?_
  refine pg_iconst 5 dX12_counted_1 rfl ?_
  refine pg_icmp_ge 17 dX12_counted_2 (by decide) (fun c1 => ?_) (fun c1 => ?_)
  · rw [if_pos c1] at h
    refine pg_iload_n dX12_counted_17 rfl ?_
    refine pg_iconst 5 dX12_counted_18 rfl ?_
    refine pg_icmp_ne 29 dX12_counted_19 (by decide) (fun c2 => ?_) (fun c2 => ?_)
    · rw [if_neg c2] at h
      refine pg_aload_n dX12_counted_29 rfl ?_
      obtain ⟨r3, h_r3, h⟩ := bd_at h
      refine eg_cVi (C := mX12_pairs) (as := []) dX12_counted_30 mw1017 cv_X12_pairs hS sp128 (Nat.le_of_ble_eq_true rfl) (Nat.le_of_ble_eq_true rfl) rfl rfl rfl (Nat.le_of_ble_eq_true rfl) rfl ⟨(Nat.le_of_ble_eq_true rfl), (Nat.le_of_ble_eq_true rfl)⟩ (ct_X12_pairs hfl (hS.sub (Nat.le_of_ble_eq_true rfl) (Nat.le_of_ble_eq_true rfl)) h_r3) ?_
      obtain rfl := Option.some.inj h
      exact hE.2.1 _ _ _ _ _ _ .int dX12_counted_33 rfl rfl (Nat.zero_le _) (Nat.zero_le _) ⟨rfl, rfl⟩
    · rw [if_pos c2] at h
      refine pg_aload_n dX12_counted_22 rfl ?_
      obtain ⟨r4, h_r4, h⟩ := bd_at h
      refine eg_cVi (C := mX12_carrying) (as := []) dX12_counted_23 mw1012 cv_X12_carrying hS sp128 (Nat.le_of_ble_eq_true rfl) (Nat.le_of_ble_eq_true rfl) rfl rfl rfl (Nat.le_of_ble_eq_true rfl) rfl ⟨(Nat.le_of_ble_eq_true rfl), (Nat.le_of_ble_eq_true rfl)⟩ (ct_X12_carrying hfl (hS.sub (Nat.le_of_ble_eq_true rfl) (Nat.le_of_ble_eq_true rfl)) h_r4) ?_
      refine pg_goto 33 dX12_counted_26 (by decide) ?_
      obtain rfl := Option.some.inj h
      exact hE.2.1 _ _ _ _ _ _ .int dX12_counted_33 rfl rfl (Nat.zero_le _) (Nat.zero_le _) ⟨rfl, rfl⟩
  · rw [if_neg c1] at h
    refine pg_aload_n dX12_counted_5 rfl ?_
    refine eg_get dX12_counted_6 fa_X12_7 hS sp128 (Nat.le_of_ble_eq_true rfl) (Nat.le_of_ble_eq_true rfl) rfl rfl ?_
    refine pg_bipush 6 dX12_counted_9 rfl ?_
    refine pg_iload_n dX12_counted_11 rfl ?_
    refine pg_iadd dX12_counted_12 ?_
    obtain ⟨g1, h⟩ := gd_at h
    refine eg_ialdJ ((6 + v1).toNatClampNeg) dX12_counted_13 hS sp129 (Nat.le_of_ble_eq_true rfl) (Nat.le_of_ble_eq_true rfl) rfl (inR_vp g1) rfl ?_
    refine pg_goto 33 dX12_counted_14 (by decide) ?_
    obtain rfl := Option.some.inj h
    exact hE.2.1 _ _ _ _ _ _ .int dX12_counted_33 rfl rfl (Nat.zero_le _) (Nat.zero_le _) ⟨rfl, rfl⟩
def f_X12_count (v1 : Int32) (m0 : me) : Option (Int32 × me) :=
  bd (f_X12_in v1 0 6 m0) (fun r1 =>
  if r1.1 = 0 then
    bd (f_X12_fails 1 r1.2) (fun r3 =>
    some ((r3.1, r3.2)))
  else
    bd (f_X12_counted v1 r1.2) (fun r4 =>
    bd (f_X12_tells r4.1 r4.2) (fun r5 =>
    some ((r5.1, r5.2)))))
set_option maxRecDepth 20000 in
set_option maxHeartbeats 4000000 in
theorem ct_X12_count (hfl : g.1.stackTraces = false) (hS : pS 128 137 S) {v1 : Int32} {m0 : me} {x : (Int32 × me)} (h : f_X12_count v1 m0 = some x) : pm_Ct g mX12_count [.ref 128, .int v1] (en S m0) 0 0 (qI S x) qF := by
  refine pm_of (by decide +kernel) rfl hfl (Nat.le_of_ble_eq_true rfl) (fun X hE => ?_)
  show pm_G g mX12_count X 0 [some (.ref 128), some (.int v1)] [] (en S m0) 0 0
  unfold f_X12_count at h
  refine pg_iload_n dX12_count_0 rfl ?_
  refine pg_iconst 0 dX12_count_1 rfl ?_
  refine pg_bipush 6 dX12_count_2 rfl ?_
  obtain ⟨r1, h_r1, h⟩ := bd_at h
  refine eg_cSi (C := mX12_in) (as := [(.int v1), (.int 0), (.int 6)]) dX12_count_4 mw786 cs_X12_in rfl rfl (Nat.le_of_ble_eq_true rfl) rfl ⟨(Nat.le_of_ble_eq_true rfl), (Nat.le_of_ble_eq_true rfl)⟩ (ct_X12_in hfl h_r1) ?_
  refine pg_if_eq 22 dX12_count_7 (by decide) (fun c2 => ?_) (fun c2 => ?_)
  · rw [if_pos c2] at h
    refine pg_aload_n dX12_count_22 rfl ?_
    refine pg_iconst 1 dX12_count_23 rfl ?_
    obtain ⟨r3, h_r3, h⟩ := bd_at h
    refine eg_cVi (C := mX12_fails) (as := [(.int 1)]) dX12_count_24 mw806 cv_X12_fails hS sp128 (Nat.le_of_ble_eq_true rfl) (Nat.le_of_ble_eq_true rfl) rfl rfl rfl (Nat.le_of_ble_eq_true rfl) rfl ⟨(Nat.le_of_ble_eq_true rfl), (Nat.le_of_ble_eq_true rfl)⟩ (ct_X12_fails hfl (hS.sub (Nat.le_of_ble_eq_true rfl) (Nat.le_of_ble_eq_true rfl)) h_r3) ?_
    obtain rfl := Option.some.inj h
    exact hE.2.1 _ _ _ _ _ _ .int dX12_count_27 rfl rfl (Nat.zero_le _) (Nat.zero_le _) ⟨rfl, rfl⟩
  · rw [if_neg c2] at h
    refine pg_aload_n dX12_count_10 rfl ?_
    refine pg_aload_n dX12_count_11 rfl ?_
    refine pg_iload_n dX12_count_12 rfl ?_
    obtain ⟨r4, h_r4, h⟩ := bd_at h
    refine eg_cVi (C := mX12_counted) (as := [(.int v1)]) dX12_count_13 mw1007 cv_X12_counted hS sp128 (Nat.le_of_ble_eq_true rfl) (Nat.le_of_ble_eq_true rfl) rfl rfl rfl (Nat.le_of_ble_eq_true rfl) rfl ⟨(Nat.le_of_ble_eq_true rfl), (Nat.le_of_ble_eq_true rfl)⟩ (ct_X12_counted hfl (hS.sub (Nat.le_of_ble_eq_true rfl) (Nat.le_of_ble_eq_true rfl)) h_r4) ?_
    obtain ⟨r5, h_r5, h⟩ := bd_at h
    refine eg_cVi (C := mX12_tells) (as := [(.int r4.1)]) dX12_count_16 mw822 cv_X12_tells hS sp128 (Nat.le_of_ble_eq_true rfl) (Nat.le_of_ble_eq_true rfl) rfl rfl rfl (Nat.le_of_ble_eq_true rfl) rfl ⟨(Nat.le_of_ble_eq_true rfl), (Nat.le_of_ble_eq_true rfl)⟩ (ct_X12_tells hfl (hS.sub (Nat.le_of_ble_eq_true rfl) (Nat.le_of_ble_eq_true rfl)) h_r5) ?_
    refine pg_goto 27 dX12_count_19 (by decide) ?_
    obtain rfl := Option.some.inj h
    exact hE.2.1 _ _ _ _ _ _ .int dX12_count_27 rfl rfl (Nat.zero_le _) (Nat.zero_le _) ⟨rfl, rfl⟩
def b_X12_isWithoutCycle_4 (s : Int32 × Int32 × me) : Option ((Int32 × Int32 × me) ⊕ (Int32 × Int32 × me)) :=
  if (s.2.2.1 129 0) ≤ s.2.1 then
    some (.inr (s.1, s.2.1, s.2.2))
  else
    bd (f_X12_reached s.2.1 s.2.2) (fun r2 =>
    if (r2.1 &&& ((1 <<< (s.2.1 &&& 31)) - 1)) = 0 then
      lt (s.1 + 1) (fun w6 =>
      lt (s.2.1 + 1) (fun w7 =>
      some (.inl (w6, w7, r2.2))))
    else
      lt (s.1 + 0) (fun w4 =>
      lt (s.2.1 + 1) (fun w5 =>
      some (.inl (w4, w5, r2.2)))))
def f_X12_isWithoutCycle (m0 : me) : Option (Int32 × me) :=
  bd (lo (b_X12_isWithoutCycle_4) 2048 (0, 0, m0)) (fun s8 =>
  bd (f_X12_carrying s8.2.2) (fun r9 =>
  if (r9.1 + s8.1) = (r9.2.1 129 0) then
    some ((1, r9.2))
  else
    some ((0, r9.2))))
set_option maxRecDepth 20000 in
set_option maxHeartbeats 4000000 in
theorem lb_X12_isWithoutCycle_4 (hfl : g.1.stackTraces = false) (hS : pS 128 137 S) {s : Int32 × Int32 × me} {r : (Int32 × Int32 × me) ⊕ (Int32 × Int32 × me)} (h : b_X12_isWithoutCycle_4 s = some r) (hN : ∀ s', r = .inl s' → (fun z9 : Int32 × Int32 × me => pm_G g mX12_isWithoutCycle X 4 [some (.ref 128), some (.int z9.1), some (.int z9.2.1)] [] (en S z9.2.2) 0 0) s') (hT : ∀ t, r = .inr t → (fun z9 : Int32 × Int32 × me => pm_G g mX12_isWithoutCycle X 42 [some (.ref 128), some (.int z9.1), some (.int z9.2.1)] [] (en S z9.2.2) 0 0) t) : (fun z9 : Int32 × Int32 × me => pm_G g mX12_isWithoutCycle X 4 [some (.ref 128), some (.int z9.1), some (.int z9.2.1)] [] (en S z9.2.2) 0 0) s := by
  unfold b_X12_isWithoutCycle_4 at h
  show pm_G g mX12_isWithoutCycle X 4 [some (.ref 128), some (.int s.1), some (.int s.2.1)] [] (en S s.2.2) 0 0
  refine pg_iload_n dX12_isWithoutCycle_4 rfl ?_
  refine pg_aload_n dX12_isWithoutCycle_5 rfl ?_
  refine eg_get dX12_isWithoutCycle_6 fa_X12_7 hS sp128 (Nat.le_of_ble_eq_true rfl) (Nat.le_of_ble_eq_true rfl) rfl rfl ?_
  refine pg_iconst 0 dX12_isWithoutCycle_9 rfl ?_
  refine eg_ialdJ 0 dX12_isWithoutCycle_10 hS sp129 (Nat.le_of_ble_eq_true rfl) (Nat.le_of_ble_eq_true rfl) rfl (inR_vp rfl) rfl ?_
  refine pg_icmp_ge 42 dX12_isWithoutCycle_11 (by decide) (fun c1 => ?_) (fun c1 => ?_)
  · rw [if_pos c1] at h
    obtain rfl := Option.some.inj h
    exact hT _ rfl
  · rw [if_neg c1] at h
    refine pg_iload_n dX12_isWithoutCycle_14 rfl ?_
    refine pg_aload_n dX12_isWithoutCycle_15 rfl ?_
    refine pg_iload_n dX12_isWithoutCycle_16 rfl ?_
    obtain ⟨r2, h_r2, h⟩ := bd_at h
    refine eg_cVi (C := mX12_reached) (as := [(.int s.2.1)]) dX12_isWithoutCycle_17 mw952 cv_X12_reached hS sp128 (Nat.le_of_ble_eq_true rfl) (Nat.le_of_ble_eq_true rfl) rfl rfl rfl (Nat.le_of_ble_eq_true rfl) rfl ⟨(Nat.le_of_ble_eq_true rfl), (Nat.le_of_ble_eq_true rfl)⟩ (ct_X12_reached hfl (hS.sub (Nat.le_of_ble_eq_true rfl) (Nat.le_of_ble_eq_true rfl)) h_r2) ?_
    refine pg_iconst 1 dX12_isWithoutCycle_20 rfl ?_
    refine pg_iload_n dX12_isWithoutCycle_21 rfl ?_
    refine pg_ishl dX12_isWithoutCycle_22 ?_
    refine pg_iconst 1 dX12_isWithoutCycle_23 rfl ?_
    refine pg_isub dX12_isWithoutCycle_24 ?_
    refine pg_iand dX12_isWithoutCycle_25 ?_
    refine pg_if_ne 33 dX12_isWithoutCycle_26 (by decide) (fun c3 => ?_) (fun c3 => ?_)
    · rw [if_neg c3] at h
      refine pg_iconst 0 dX12_isWithoutCycle_33 rfl ?_
      refine pg_iadd dX12_isWithoutCycle_34 ?_
      obtain ⟨w4, e_w4⟩ : ∃ z : Int32, z = s.1 + 0 := ⟨_, rfl⟩
      replace h := lt_at h e_w4
      refine eg_istore_n [some (.ref 128), some (.int w4), some (.int s.2.1)] w4 dX12_isWithoutCycle_35 e_w4 (Nat.le_of_ble_eq_true rfl) rfl ?_
      obtain ⟨w5, e_w5⟩ : ∃ z : Int32, z = s.2.1 + 1 := ⟨_, rfl⟩
      replace h := lt_at h e_w5
      refine eg_iinc [some (.ref 128), some (.int w4), some (.int w5)] w5 1 dX12_isWithoutCycle_36 rfl rfl e_w5 rfl ?_
      refine pg_goto 4 dX12_isWithoutCycle_39 (by decide) ?_
      obtain rfl := Option.some.inj h
      exact hN _ rfl
    · rw [if_pos c3] at h
      refine pg_iconst 1 dX12_isWithoutCycle_29 rfl ?_
      refine pg_goto 34 dX12_isWithoutCycle_30 (by decide) ?_
      refine pg_iadd dX12_isWithoutCycle_34 ?_
      obtain ⟨w6, e_w6⟩ : ∃ z : Int32, z = s.1 + 1 := ⟨_, rfl⟩
      replace h := lt_at h e_w6
      refine eg_istore_n [some (.ref 128), some (.int w6), some (.int s.2.1)] w6 dX12_isWithoutCycle_35 e_w6 (Nat.le_of_ble_eq_true rfl) rfl ?_
      obtain ⟨w7, e_w7⟩ : ∃ z : Int32, z = s.2.1 + 1 := ⟨_, rfl⟩
      replace h := lt_at h e_w7
      refine eg_iinc [some (.ref 128), some (.int w6), some (.int w7)] w7 1 dX12_isWithoutCycle_36 rfl rfl e_w7 rfl ?_
      refine pg_goto 4 dX12_isWithoutCycle_39 (by decide) ?_
      obtain rfl := Option.some.inj h
      exact hN _ rfl
set_option maxRecDepth 20000 in
set_option maxHeartbeats 4000000 in
theorem ct_X12_isWithoutCycle (hfl : g.1.stackTraces = false) (hS : pS 128 137 S) {m0 : me} {x : (Int32 × me)} (h : f_X12_isWithoutCycle m0 = some x) : pm_Ct g mX12_isWithoutCycle [.ref 128] (en S m0) 0 0 (qI S x) qF := by
  refine pm_of (by decide +kernel) rfl hfl (Nat.le_of_ble_eq_true rfl) (fun X hE => ?_)
  show pm_G g mX12_isWithoutCycle X 0 [some (.ref 128), none, none] [] (en S m0) 0 0
  unfold f_X12_isWithoutCycle at h
  refine pg_iconst 0 dX12_isWithoutCycle_0 rfl ?_
  refine eg_istore_n [some (.ref 128), some (.int 0), none] 0 dX12_isWithoutCycle_1 rfl (Nat.le_of_ble_eq_true rfl) rfl ?_
  refine pg_iconst 0 dX12_isWithoutCycle_2 rfl ?_
  refine eg_istore_n [some (.ref 128), some (.int 0), some (.int 0)] 0 dX12_isWithoutCycle_3 rfl (Nat.le_of_ble_eq_true rfl) rfl ?_
  obtain ⟨s8, h_s8, h⟩ := bd_at h
  refine lo_at (b := b_X12_isWithoutCycle_4) (G := (fun z9 : Int32 × Int32 × me => pm_G g mX12_isWithoutCycle X 4 [some (.ref 128), some (.int z9.1), some (.int z9.2.1)] [] (en S z9.2.2) 0 0)) (T := (fun z9 : Int32 × Int32 × me => pm_G g mX12_isWithoutCycle X 42 [some (.ref 128), some (.int z9.1), some (.int z9.2.1)] [] (en S z9.2.2) 0 0)) (fun q9 r9 h1 h2 h3 => lb_X12_isWithoutCycle_4 hfl hS h1 h2 h3) 2048 (0, 0, m0) s8 h_s8 ?_
  show pm_G g mX12_isWithoutCycle X 42 [some (.ref 128), some (.int s8.1), some (.int s8.2.1)] [] (en S s8.2.2) 0 0
  refine pg_aload_n dX12_isWithoutCycle_42 rfl ?_
  obtain ⟨r9, h_r9, h⟩ := bd_at h
  refine eg_cVi (C := mX12_carrying) (as := []) dX12_isWithoutCycle_43 mw1012 cv_X12_carrying hS sp128 (Nat.le_of_ble_eq_true rfl) (Nat.le_of_ble_eq_true rfl) rfl rfl rfl (Nat.le_of_ble_eq_true rfl) rfl ⟨(Nat.le_of_ble_eq_true rfl), (Nat.le_of_ble_eq_true rfl)⟩ (ct_X12_carrying hfl (hS.sub (Nat.le_of_ble_eq_true rfl) (Nat.le_of_ble_eq_true rfl)) h_r9) ?_
  refine pg_iload_n dX12_isWithoutCycle_46 rfl ?_
  refine pg_iadd dX12_isWithoutCycle_47 ?_
  refine pg_aload_n dX12_isWithoutCycle_48 rfl ?_
  refine eg_get dX12_isWithoutCycle_49 fa_X12_7 hS sp128 (Nat.le_of_ble_eq_true rfl) (Nat.le_of_ble_eq_true rfl) rfl rfl ?_
  refine pg_iconst 0 dX12_isWithoutCycle_52 rfl ?_
  refine eg_ialdJ 0 dX12_isWithoutCycle_53 hS sp129 (Nat.le_of_ble_eq_true rfl) (Nat.le_of_ble_eq_true rfl) rfl (inR_vp rfl) rfl ?_
  refine pg_icmp_ne 61 dX12_isWithoutCycle_54 (by decide) (fun c10 => ?_) (fun c10 => ?_)
  · rw [if_neg c10] at h
    refine pg_iconst 0 dX12_isWithoutCycle_61 rfl ?_
    obtain rfl := Option.some.inj h
    exact hE.2.1 _ _ _ _ _ _ .boolean dX12_isWithoutCycle_62 rfl rfl (Nat.zero_le _) (Nat.zero_le _) ⟨rfl, rfl⟩
  · rw [if_pos c10] at h
    refine pg_iconst 1 dX12_isWithoutCycle_57 rfl ?_
    refine pg_goto 62 dX12_isWithoutCycle_58 (by decide) ?_
    obtain rfl := Option.some.inj h
    exact hE.2.1 _ _ _ _ _ _ .boolean dX12_isWithoutCycle_62 rfl rfl (Nat.zero_le _) (Nat.zero_le _) ⟨rfl, rfl⟩
def f_X12_isForest (m0 : me) : Option (Int32 × me) :=
  lt (wI m0 128 6 0) (fun m1 =>
  bd (f_X12_isWithoutCycle m1) (fun r2 =>
  gd (isB r2.1) (
  some ((r2.1, r2.2)))))
set_option maxRecDepth 20000 in
set_option maxHeartbeats 4000000 in
theorem ct_X12_isForest (hfl : g.1.stackTraces = false) (hS : pS 128 137 S) {m0 : me} {x : (Int32 × me)} (h : f_X12_isForest m0 = some x) : pm_Ct g mX12_isForest [.ref 128] (en S m0) 0 0 (qI S x) qF := by
  refine pm_of (by decide +kernel) rfl hfl (Nat.le_of_ble_eq_true rfl) (fun X hE => ?_)
  show pm_G g mX12_isForest X 0 [some (.ref 128)] [] (en S m0) 0 0
  unfold f_X12_isForest at h
  refine pg_aload_n dX12_isForest_0 rfl ?_
  refine pg_iconst 0 dX12_isForest_1 rfl ?_
  refine eg_put dX12_isForest_2 fa_X12_38 hS sp128 (Nat.le_of_ble_eq_true rfl) (Nat.le_of_ble_eq_true rfl) rfl (Nat.le_of_ble_eq_true rfl) rfl (fun m1 e_m1 => ?_)
  replace h := lt_at h e_m1
  refine pg_aload_n dX12_isForest_5 rfl ?_
  obtain ⟨r2, h_r2, h⟩ := bd_at h
  refine eg_cVi (C := mX12_isWithoutCycle) (as := []) dX12_isForest_6 mw1022 cv_X12_isWithoutCycle hS sp128 (Nat.le_of_ble_eq_true rfl) (Nat.le_of_ble_eq_true rfl) rfl rfl rfl (Nat.le_of_ble_eq_true rfl) rfl ⟨(Nat.le_of_ble_eq_true rfl), (Nat.le_of_ble_eq_true rfl)⟩ (ct_X12_isWithoutCycle hfl (hS.sub (Nat.le_of_ble_eq_true rfl) (Nat.le_of_ble_eq_true rfl)) h_r2) ?_
  obtain ⟨g1, h⟩ := gd_at h
  obtain rfl := Option.some.inj h
  exact hE.2.1 _ _ _ _ _ _ .boolean dX12_isForest_9 rfl (isB_nar g1) (Nat.zero_le _) (Nat.zero_le _) ⟨rfl, rfl⟩
def f_X12_type (v1 : Int32) (m0 : me) : Option (Int32 × me) :=
  bd (f_X12_in v1 0 127 m0) (fun r1 =>
  if r1.1 = 0 then
    bd (f_X12_fails 1 r1.2) (fun r8 =>
    some ((r8.1, r8.2)))
  else
    if (r1.2.1 128 5) = 120 then
      bd (f_X12_fails 2 r1.2) (fun r7 =>
      some ((r7.1, r7.2)))
    else
      gd (inR (r1.2.1 128 5) 120) (
      lt (wI r1.2 132 ((r1.2.1 128 5).toNatClampNeg) v1) (fun m4 =>
      lt (wI m4 128 5 ((m4.1 128 5) + 1)) (fun m5 =>
      bd (f_X12_tells (m5.1 128 5) m5) (fun r6 =>
      some ((r6.1, r6.2)))))))
set_option maxRecDepth 20000 in
set_option maxHeartbeats 4000000 in
theorem ct_X12_type (hfl : g.1.stackTraces = false) (hS : pS 128 137 S) {v1 : Int32} {m0 : me} {x : (Int32 × me)} (h : f_X12_type v1 m0 = some x) : pm_Ct g mX12_type [.ref 128, .int v1] (en S m0) 0 0 (qI S x) qF := by
  refine pm_of (by decide +kernel) rfl hfl (Nat.le_of_ble_eq_true rfl) (fun X hE => ?_)
  show pm_G g mX12_type X 0 [some (.ref 128), some (.int v1)] [] (en S m0) 0 0
  unfold f_X12_type at h
  refine pg_iload_n dX12_type_0 rfl ?_
  refine pg_iconst 0 dX12_type_1 rfl ?_
  refine pg_bipush 127 dX12_type_2 rfl ?_
  obtain ⟨r1, h_r1, h⟩ := bd_at h
  refine eg_cSi (C := mX12_in) (as := [(.int v1), (.int 0), (.int 127)]) dX12_type_4 mw786 cs_X12_in rfl rfl (Nat.le_of_ble_eq_true rfl) rfl ⟨(Nat.le_of_ble_eq_true rfl), (Nat.le_of_ble_eq_true rfl)⟩ (ct_X12_in hfl h_r1) ?_
  refine pg_if_ne 16 dX12_type_7 (by decide) (fun c2 => ?_) (fun c2 => ?_)
  · rw [if_neg c2] at h
    refine pg_aload_n dX12_type_16 rfl ?_
    refine eg_get dX12_type_17 fa_X12_202 hS sp128 (Nat.le_of_ble_eq_true rfl) (Nat.le_of_ble_eq_true rfl) rfl rfl ?_
    refine pg_bipush 120 dX12_type_20 rfl ?_
    refine pg_icmp_ne 31 dX12_type_22 (by decide) (fun c3 => ?_) (fun c3 => ?_)
    · rw [if_neg c3] at h
      refine pg_aload_n dX12_type_31 rfl ?_
      refine eg_get dX12_type_32 fa_X12_19 hS sp128 (Nat.le_of_ble_eq_true rfl) (Nat.le_of_ble_eq_true rfl) rfl rfl ?_
      refine pg_aload_n dX12_type_35 rfl ?_
      refine eg_get dX12_type_36 fa_X12_202 hS sp128 (Nat.le_of_ble_eq_true rfl) (Nat.le_of_ble_eq_true rfl) rfl rfl ?_
      refine pg_iload_n dX12_type_39 rfl ?_
      obtain ⟨g1, h⟩ := gd_at h
      refine eg_iastJ ((r1.2.1 128 5).toNatClampNeg) dX12_type_40 hS sp132 (Nat.le_of_ble_eq_true rfl) (Nat.le_of_ble_eq_true rfl) (fun _ _ _ => rfl) (inR_vp g1) rfl (fun m4 e_m4 => ?_)
      replace h := lt_at h e_m4
      refine pg_aload_n dX12_type_41 rfl ?_
      refine pg_dup dX12_type_42 rfl ?_
      refine eg_get dX12_type_43 fa_X12_202 hS sp128 (Nat.le_of_ble_eq_true rfl) (Nat.le_of_ble_eq_true rfl) rfl rfl ?_
      refine pg_iconst 1 dX12_type_46 rfl ?_
      refine pg_iadd dX12_type_47 ?_
      refine eg_put dX12_type_48 fa_X12_202 hS sp128 (Nat.le_of_ble_eq_true rfl) (Nat.le_of_ble_eq_true rfl) rfl (Nat.le_of_ble_eq_true rfl) rfl (fun m5 e_m5 => ?_)
      replace h := lt_at h e_m5
      refine pg_aload_n dX12_type_51 rfl ?_
      refine pg_aload_n dX12_type_52 rfl ?_
      refine eg_get dX12_type_53 fa_X12_202 hS sp128 (Nat.le_of_ble_eq_true rfl) (Nat.le_of_ble_eq_true rfl) rfl rfl ?_
      obtain ⟨r6, h_r6, h⟩ := bd_at h
      refine eg_cVi (C := mX12_tells) (as := [(.int (m5.1 128 5))]) dX12_type_56 mw822 cv_X12_tells hS sp128 (Nat.le_of_ble_eq_true rfl) (Nat.le_of_ble_eq_true rfl) rfl rfl rfl (Nat.le_of_ble_eq_true rfl) rfl ⟨(Nat.le_of_ble_eq_true rfl), (Nat.le_of_ble_eq_true rfl)⟩ (ct_X12_tells hfl (hS.sub (Nat.le_of_ble_eq_true rfl) (Nat.le_of_ble_eq_true rfl)) h_r6) ?_
      obtain rfl := Option.some.inj h
      exact hE.2.1 _ _ _ _ _ _ .int dX12_type_59 rfl rfl (Nat.zero_le _) (Nat.zero_le _) ⟨rfl, rfl⟩
    · rw [if_pos c3] at h
      refine pg_aload_n dX12_type_25 rfl ?_
      refine pg_iconst 2 dX12_type_26 rfl ?_
      obtain ⟨r7, h_r7, h⟩ := bd_at h
      refine eg_cVi (C := mX12_fails) (as := [(.int 2)]) dX12_type_27 mw806 cv_X12_fails hS sp128 (Nat.le_of_ble_eq_true rfl) (Nat.le_of_ble_eq_true rfl) rfl rfl rfl (Nat.le_of_ble_eq_true rfl) rfl ⟨(Nat.le_of_ble_eq_true rfl), (Nat.le_of_ble_eq_true rfl)⟩ (ct_X12_fails hfl (hS.sub (Nat.le_of_ble_eq_true rfl) (Nat.le_of_ble_eq_true rfl)) h_r7) ?_
      obtain rfl := Option.some.inj h
      exact hE.2.1 _ _ _ _ _ _ .int dX12_type_30 rfl rfl (Nat.zero_le _) (Nat.zero_le _) ⟨rfl, rfl⟩
  · rw [if_pos c2] at h
    refine pg_aload_n dX12_type_10 rfl ?_
    refine pg_iconst 1 dX12_type_11 rfl ?_
    obtain ⟨r8, h_r8, h⟩ := bd_at h
    refine eg_cVi (C := mX12_fails) (as := [(.int 1)]) dX12_type_12 mw806 cv_X12_fails hS sp128 (Nat.le_of_ble_eq_true rfl) (Nat.le_of_ble_eq_true rfl) rfl rfl rfl (Nat.le_of_ble_eq_true rfl) rfl ⟨(Nat.le_of_ble_eq_true rfl), (Nat.le_of_ble_eq_true rfl)⟩ (ct_X12_fails hfl (hS.sub (Nat.le_of_ble_eq_true rfl) (Nat.le_of_ble_eq_true rfl)) h_r8) ?_
    obtain rfl := Option.some.inj h
    exact hE.2.1 _ _ _ _ _ _ .int dX12_type_15 rfl rfl (Nat.zero_le _) (Nat.zero_le _) ⟨rfl, rfl⟩
def f_X12_clearScript (m0 : me) : Option (Int32 × me) :=
  lt (m0.1 128 5) (fun w1 =>
  lt (wI m0 128 5 0) (fun m2 =>
  bd (f_X12_tells w1 m2) (fun r3 =>
  some ((r3.1, r3.2)))))
set_option maxRecDepth 20000 in
set_option maxHeartbeats 4000000 in
theorem ct_X12_clearScript (hfl : g.1.stackTraces = false) (hS : pS 128 137 S) {m0 : me} {x : (Int32 × me)} (h : f_X12_clearScript m0 = some x) : pm_Ct g mX12_clearScript [.ref 128] (en S m0) 0 0 (qI S x) qF := by
  refine pm_of (by decide +kernel) rfl hfl (Nat.le_of_ble_eq_true rfl) (fun X hE => ?_)
  show pm_G g mX12_clearScript X 0 [some (.ref 128), none] [] (en S m0) 0 0
  unfold f_X12_clearScript at h
  refine pg_aload_n dX12_clearScript_0 rfl ?_
  refine eg_get dX12_clearScript_1 fa_X12_202 hS sp128 (Nat.le_of_ble_eq_true rfl) (Nat.le_of_ble_eq_true rfl) rfl rfl ?_
  obtain ⟨w1, e_w1⟩ : ∃ z : Int32, z = m0.1 128 5 := ⟨_, rfl⟩
  replace h := lt_at h e_w1
  refine eg_istore_n [some (.ref 128), some (.int w1)] w1 dX12_clearScript_4 e_w1 (Nat.le_of_ble_eq_true rfl) rfl ?_
  refine pg_aload_n dX12_clearScript_5 rfl ?_
  refine pg_iconst 0 dX12_clearScript_6 rfl ?_
  refine eg_put dX12_clearScript_7 fa_X12_202 hS sp128 (Nat.le_of_ble_eq_true rfl) (Nat.le_of_ble_eq_true rfl) rfl (Nat.le_of_ble_eq_true rfl) rfl (fun m2 e_m2 => ?_)
  replace h := lt_at h e_m2
  refine pg_aload_n dX12_clearScript_10 rfl ?_
  refine pg_iload_n dX12_clearScript_11 rfl ?_
  obtain ⟨r3, h_r3, h⟩ := bd_at h
  refine eg_cVi (C := mX12_tells) (as := [(.int w1)]) dX12_clearScript_12 mw822 cv_X12_tells hS sp128 (Nat.le_of_ble_eq_true rfl) (Nat.le_of_ble_eq_true rfl) rfl rfl rfl (Nat.le_of_ble_eq_true rfl) rfl ⟨(Nat.le_of_ble_eq_true rfl), (Nat.le_of_ble_eq_true rfl)⟩ (ct_X12_tells hfl (hS.sub (Nat.le_of_ble_eq_true rfl) (Nat.le_of_ble_eq_true rfl)) h_r3) ?_
  obtain rfl := Option.some.inj h
  exact hE.2.1 _ _ _ _ _ _ .int dX12_clearScript_15 rfl rfl (Nat.zero_le _) (Nat.zero_le _) ⟨rfl, rfl⟩
def f_X12_isIn (v1 : Int32) (v2 : Int32) (m0 : me) : Option (Int32 × me) :=
  if (m0.1 128 5) ≤ (m0.1 128 11) then
    some ((0, m0))
  else
    gd (inR (m0.1 128 11) 120) (
    bd (f_X12_in (m0.1 132 ((m0.1 128 11).toNatClampNeg)) v1 v2 m0) (fun r2 =>
    if r2.1 = 0 then
      some ((0, r2.2))
    else
      some ((1, r2.2))))
set_option maxRecDepth 20000 in
set_option maxHeartbeats 4000000 in
theorem ct_X12_isIn (hfl : g.1.stackTraces = false) (hS : pS 128 137 S) {v1 : Int32} {v2 : Int32} {m0 : me} {x : (Int32 × me)} (h : f_X12_isIn v1 v2 m0 = some x) : pm_Ct g mX12_isIn [.ref 128, .int v1, .int v2] (en S m0) 0 0 (qI S x) qF := by
  refine pm_of (by decide +kernel) rfl hfl (Nat.le_of_ble_eq_true rfl) (fun X hE => ?_)
  show pm_G g mX12_isIn X 0 [some (.ref 128), some (.int v1), some (.int v2)] [] (en S m0) 0 0
  unfold f_X12_isIn at h
  refine pg_aload_n dX12_isIn_0 rfl ?_
  refine eg_get dX12_isIn_1 fa_X12_205 hS sp128 (Nat.le_of_ble_eq_true rfl) (Nat.le_of_ble_eq_true rfl) rfl rfl ?_
  refine pg_aload_n dX12_isIn_4 rfl ?_
  refine eg_get dX12_isIn_5 fa_X12_202 hS sp128 (Nat.le_of_ble_eq_true rfl) (Nat.le_of_ble_eq_true rfl) rfl rfl ?_
  refine pg_icmp_ge 32 dX12_isIn_8 (by decide) (fun c1 => ?_) (fun c1 => ?_)
  · rw [if_pos c1] at h
    refine pg_iconst 0 dX12_isIn_32 rfl ?_
    obtain rfl := Option.some.inj h
    exact hE.2.1 _ _ _ _ _ _ .boolean dX12_isIn_33 rfl rfl (Nat.zero_le _) (Nat.zero_le _) ⟨rfl, rfl⟩
  · rw [if_neg c1] at h
    refine pg_aload_n dX12_isIn_11 rfl ?_
    refine eg_get dX12_isIn_12 fa_X12_19 hS sp128 (Nat.le_of_ble_eq_true rfl) (Nat.le_of_ble_eq_true rfl) rfl rfl ?_
    refine pg_aload_n dX12_isIn_15 rfl ?_
    refine eg_get dX12_isIn_16 fa_X12_205 hS sp128 (Nat.le_of_ble_eq_true rfl) (Nat.le_of_ble_eq_true rfl) rfl rfl ?_
    obtain ⟨g1, h⟩ := gd_at h
    refine eg_ialdJ ((m0.1 128 11).toNatClampNeg) dX12_isIn_19 hS sp132 (Nat.le_of_ble_eq_true rfl) (Nat.le_of_ble_eq_true rfl) rfl (inR_vp g1) rfl ?_
    refine pg_iload_n dX12_isIn_20 rfl ?_
    refine pg_iload_n dX12_isIn_21 rfl ?_
    obtain ⟨r2, h_r2, h⟩ := bd_at h
    refine eg_cSi (C := mX12_in) (as := [(.int (m0.1 132 ((m0.1 128 11).toNatClampNeg))), (.int v1), (.int v2)]) dX12_isIn_22 mw786 cs_X12_in rfl rfl (Nat.le_of_ble_eq_true rfl) rfl ⟨(Nat.le_of_ble_eq_true rfl), (Nat.le_of_ble_eq_true rfl)⟩ (ct_X12_in hfl h_r2) ?_
    refine pg_if_eq 32 dX12_isIn_25 (by decide) (fun c3 => ?_) (fun c3 => ?_)
    · rw [if_pos c3] at h
      refine pg_iconst 0 dX12_isIn_32 rfl ?_
      obtain rfl := Option.some.inj h
      exact hE.2.1 _ _ _ _ _ _ .boolean dX12_isIn_33 rfl rfl (Nat.zero_le _) (Nat.zero_le _) ⟨rfl, rfl⟩
    · rw [if_neg c3] at h
      refine pg_iconst 1 dX12_isIn_28 rfl ?_
      refine pg_goto 33 dX12_isIn_29 (by decide) ?_
      obtain rfl := Option.some.inj h
      exact hE.2.1 _ _ _ _ _ _ .boolean dX12_isIn_33 rfl rfl (Nat.zero_le _) (Nat.zero_le _) ⟨rfl, rfl⟩
def b_X12_skips_0 (s : me) : Option ((me) ⊕ (me)) :=
  bd (f_X12_isIn 32 32 s) (fun r1 =>
  if r1.1 = 0 then
    some (.inr r1.2)
  else
    lt (wI r1.2 128 11 ((r1.2.1 128 11) + 1)) (fun m3 =>
    some (.inl m3)))
def f_X12_skips (m0 : me) : Option me :=
  bd (lo (b_X12_skips_0) 2048 m0) (fun s4 =>
  some (s4))
set_option maxRecDepth 20000 in
set_option maxHeartbeats 4000000 in
theorem lb_X12_skips_0 (hfl : g.1.stackTraces = false) (hS : pS 128 137 S) {s : me} {r : (me) ⊕ (me)} (h : b_X12_skips_0 s = some r) (hN : ∀ s', r = .inl s' → (fun z9 : me => pm_G g mX12_skips X 0 [some (.ref 128)] [] (en S z9) 0 0) s') (hT : ∀ t, r = .inr t → (fun z9 : me => pm_G g mX12_skips X 24 [some (.ref 128)] [] (en S z9) 0 0) t) : (fun z9 : me => pm_G g mX12_skips X 0 [some (.ref 128)] [] (en S z9) 0 0) s := by
  unfold b_X12_skips_0 at h
  show pm_G g mX12_skips X 0 [some (.ref 128)] [] (en S s) 0 0
  refine pg_aload_n dX12_skips_0 rfl ?_
  refine pg_bipush 32 dX12_skips_1 rfl ?_
  refine pg_bipush 32 dX12_skips_3 rfl ?_
  obtain ⟨r1, h_r1, h⟩ := bd_at h
  refine eg_cVi (C := mX12_isIn) (as := [(.int 32), (.int 32)]) dX12_skips_5 mw1044 cv_X12_isIn hS sp128 (Nat.le_of_ble_eq_true rfl) (Nat.le_of_ble_eq_true rfl) rfl rfl rfl (Nat.le_of_ble_eq_true rfl) rfl ⟨(Nat.le_of_ble_eq_true rfl), (Nat.le_of_ble_eq_true rfl)⟩ (ct_X12_isIn hfl (hS.sub (Nat.le_of_ble_eq_true rfl) (Nat.le_of_ble_eq_true rfl)) h_r1) ?_
  refine pg_if_eq 24 dX12_skips_8 (by decide) (fun c2 => ?_) (fun c2 => ?_)
  · rw [if_pos c2] at h
    obtain rfl := Option.some.inj h
    exact hT _ rfl
  · rw [if_neg c2] at h
    refine pg_aload_n dX12_skips_11 rfl ?_
    refine pg_dup dX12_skips_12 rfl ?_
    refine eg_get dX12_skips_13 fa_X12_205 hS sp128 (Nat.le_of_ble_eq_true rfl) (Nat.le_of_ble_eq_true rfl) rfl rfl ?_
    refine pg_iconst 1 dX12_skips_16 rfl ?_
    refine pg_iadd dX12_skips_17 ?_
    refine eg_put dX12_skips_18 fa_X12_205 hS sp128 (Nat.le_of_ble_eq_true rfl) (Nat.le_of_ble_eq_true rfl) rfl (Nat.le_of_ble_eq_true rfl) rfl (fun m3 e_m3 => ?_)
    replace h := lt_at h e_m3
    refine pg_goto 0 dX12_skips_21 (by decide) ?_
    obtain rfl := Option.some.inj h
    exact hN _ rfl
set_option maxRecDepth 20000 in
set_option maxHeartbeats 4000000 in
theorem ct_X12_skips (hfl : g.1.stackTraces = false) (hS : pS 128 137 S) {m0 : me} {x : me} (h : f_X12_skips m0 = some x) : pm_Ct g mX12_skips [.ref 128] (en S m0) 0 0 (qV S x) qF := by
  refine pm_of (by decide +kernel) rfl hfl (Nat.le_of_ble_eq_true rfl) (fun X hE => ?_)
  show pm_G g mX12_skips X 0 [some (.ref 128)] [] (en S m0) 0 0
  unfold f_X12_skips at h
  obtain ⟨s4, h_s4, h⟩ := bd_at h
  refine lo_at (b := b_X12_skips_0) (G := (fun z9 : me => pm_G g mX12_skips X 0 [some (.ref 128)] [] (en S z9) 0 0)) (T := (fun z9 : me => pm_G g mX12_skips X 24 [some (.ref 128)] [] (en S z9) 0 0)) (fun q9 r9 h1 h2 h3 => lb_X12_skips_0 hfl hS h1 h2 h3) 2048 m0 s4 h_s4 ?_
  show pm_G g mX12_skips X 24 [some (.ref 128)] [] (en S s4) 0 0
  obtain rfl := Option.some.inj h
  exact hE.2.2.1 _ _ _ _ _ dX12_skips_24 rfl (Nat.zero_le _) (Nat.zero_le _) ⟨rfl, rfl⟩
def f_X12_wordOf (v0 : Int32) (v1 : Int32) (m0 : me) : Option (Int32 × me) :=
  if v1 = 3 then
    if v0 = 6449508 then
      some ((2, m0))
    else
      if v0 = 6711672 then
        some ((4, m0))
      else
        some ((0, m0))
  else
    if v1 = 4 then
      if v0 = 1818848875 then
        some ((1, m0))
      else
        if v0 = 1717660012 then
          some ((3, m0))
        else
          if v0 = 1886546287 then
            some ((5, m0))
          else
            if v0 = 1752134516 then
              some ((6, m0))
            else
              if v0 = 1953063787 then
                some ((7, m0))
              else
                some ((0, m0))
    else
      some ((0, m0))
set_option maxRecDepth 20000 in
set_option maxHeartbeats 4000000 in
theorem ct_X12_wordOf (hfl : g.1.stackTraces = false) {v0 : Int32} {v1 : Int32} {m0 : me} {x : (Int32 × me)} (h : f_X12_wordOf v0 v1 m0 = some x) : pm_Ct g mX12_wordOf [.int v0, .int v1] (en S m0) 0 0 (qI S x) qF := by
  refine pm_of (by decide +kernel) rfl hfl (Nat.le_of_ble_eq_true rfl) (fun X hE => ?_)
  show pm_G g mX12_wordOf X 0 [some (.int v0), some (.int v1)] [] (en S m0) 0 0
  unfold f_X12_wordOf at h
  refine pg_iload_n dX12_wordOf_0 rfl ?_
  refine pg_iconst 3 dX12_wordOf_1 rfl ?_
  refine pg_icmp_ne 27 dX12_wordOf_2 (by decide) (fun c1 => ?_) (fun c1 => ?_)
  · rw [if_neg c1] at h
    refine pg_iload_n dX12_wordOf_27 rfl ?_
    refine pg_iconst 4 dX12_wordOf_28 rfl ?_
    refine pg_icmp_eq 34 dX12_wordOf_29 (by decide) (fun c2 => ?_) (fun c2 => ?_)
    · rw [if_pos c2] at h
      refine pg_iload_n dX12_wordOf_34 rfl ?_
      refine pg_ldc dX12_wordOf_35 mw1065 ?_
      refine pg_icmp_ne 44 dX12_wordOf_37 (by decide) (fun c3 => ?_) (fun c3 => ?_)
      · rw [if_neg c3] at h
        refine pg_iload_n dX12_wordOf_44 rfl ?_
        refine pg_ldc dX12_wordOf_45 mw1066 ?_
        refine pg_icmp_ne 54 dX12_wordOf_47 (by decide) (fun c4 => ?_) (fun c4 => ?_)
        · rw [if_neg c4] at h
          refine pg_iload_n dX12_wordOf_54 rfl ?_
          refine pg_ldc dX12_wordOf_55 mw1067 ?_
          refine pg_icmp_ne 64 dX12_wordOf_57 (by decide) (fun c5 => ?_) (fun c5 => ?_)
          · rw [if_neg c5] at h
            refine pg_iload_n dX12_wordOf_64 rfl ?_
            refine pg_ldc dX12_wordOf_65 mw1068 ?_
            refine pg_icmp_ne 75 dX12_wordOf_67 (by decide) (fun c6 => ?_) (fun c6 => ?_)
            · rw [if_neg c6] at h
              refine pg_iload_n dX12_wordOf_75 rfl ?_
              refine pg_ldc dX12_wordOf_76 mw1069 ?_
              refine pg_icmp_ne 86 dX12_wordOf_78 (by decide) (fun c7 => ?_) (fun c7 => ?_)
              · rw [if_neg c7] at h
                refine pg_iconst 0 dX12_wordOf_86 rfl ?_
                obtain rfl := Option.some.inj h
                exact hE.2.1 _ _ _ _ _ _ .int dX12_wordOf_87 rfl rfl (Nat.zero_le _) (Nat.zero_le _) ⟨rfl, rfl⟩
              · rw [if_pos c7] at h
                refine pg_bipush 7 dX12_wordOf_81 rfl ?_
                refine pg_goto 87 dX12_wordOf_83 (by decide) ?_
                obtain rfl := Option.some.inj h
                exact hE.2.1 _ _ _ _ _ _ .int dX12_wordOf_87 rfl rfl (Nat.zero_le _) (Nat.zero_le _) ⟨rfl, rfl⟩
            · rw [if_pos c6] at h
              refine pg_bipush 6 dX12_wordOf_70 rfl ?_
              refine pg_goto 87 dX12_wordOf_72 (by decide) ?_
              obtain rfl := Option.some.inj h
              exact hE.2.1 _ _ _ _ _ _ .int dX12_wordOf_87 rfl rfl (Nat.zero_le _) (Nat.zero_le _) ⟨rfl, rfl⟩
          · rw [if_pos c5] at h
            refine pg_iconst 5 dX12_wordOf_60 rfl ?_
            refine pg_goto 87 dX12_wordOf_61 (by decide) ?_
            obtain rfl := Option.some.inj h
            exact hE.2.1 _ _ _ _ _ _ .int dX12_wordOf_87 rfl rfl (Nat.zero_le _) (Nat.zero_le _) ⟨rfl, rfl⟩
        · rw [if_pos c4] at h
          refine pg_iconst 3 dX12_wordOf_50 rfl ?_
          refine pg_goto 87 dX12_wordOf_51 (by decide) ?_
          obtain rfl := Option.some.inj h
          exact hE.2.1 _ _ _ _ _ _ .int dX12_wordOf_87 rfl rfl (Nat.zero_le _) (Nat.zero_le _) ⟨rfl, rfl⟩
      · rw [if_pos c3] at h
        refine pg_iconst 1 dX12_wordOf_40 rfl ?_
        refine pg_goto 87 dX12_wordOf_41 (by decide) ?_
        obtain rfl := Option.some.inj h
        exact hE.2.1 _ _ _ _ _ _ .int dX12_wordOf_87 rfl rfl (Nat.zero_le _) (Nat.zero_le _) ⟨rfl, rfl⟩
    · rw [if_neg c2] at h
      refine pg_iconst 0 dX12_wordOf_32 rfl ?_
      obtain rfl := Option.some.inj h
      exact hE.2.1 _ _ _ _ _ _ .int dX12_wordOf_33 rfl rfl (Nat.zero_le _) (Nat.zero_le _) ⟨rfl, rfl⟩
  · rw [if_pos c1] at h
    refine pg_iload_n dX12_wordOf_5 rfl ?_
    refine pg_ldc dX12_wordOf_6 mw1063 ?_
    refine pg_icmp_ne 15 dX12_wordOf_8 (by decide) (fun c8 => ?_) (fun c8 => ?_)
    · rw [if_neg c8] at h
      refine pg_iload_n dX12_wordOf_15 rfl ?_
      refine pg_ldc dX12_wordOf_16 mw1064 ?_
      refine pg_icmp_ne 25 dX12_wordOf_18 (by decide) (fun c9 => ?_) (fun c9 => ?_)
      · rw [if_neg c9] at h
        refine pg_iconst 0 dX12_wordOf_25 rfl ?_
        obtain rfl := Option.some.inj h
        exact hE.2.1 _ _ _ _ _ _ .int dX12_wordOf_26 rfl rfl (Nat.zero_le _) (Nat.zero_le _) ⟨rfl, rfl⟩
      · rw [if_pos c9] at h
        refine pg_iconst 4 dX12_wordOf_21 rfl ?_
        refine pg_goto 26 dX12_wordOf_22 (by decide) ?_
        obtain rfl := Option.some.inj h
        exact hE.2.1 _ _ _ _ _ _ .int dX12_wordOf_26 rfl rfl (Nat.zero_le _) (Nat.zero_le _) ⟨rfl, rfl⟩
    · rw [if_pos c8] at h
      refine pg_iconst 2 dX12_wordOf_11 rfl ?_
      refine pg_goto 26 dX12_wordOf_12 (by decide) ?_
      obtain rfl := Option.some.inj h
      exact hE.2.1 _ _ _ _ _ _ .int dX12_wordOf_26 rfl rfl (Nat.zero_le _) (Nat.zero_le _) ⟨rfl, rfl⟩
def f_X12_numbersOf (v0 : Int32) (m0 : me) : Option (Int32 × me) :=
  if 3 ≤ v0 then
    if v0 = 5 then
      some ((2, m0))
    else
      if v0 = 6 then
        some ((2, m0))
      else
        some ((1, m0))
  else
    some ((3, m0))
set_option maxRecDepth 20000 in
set_option maxHeartbeats 4000000 in
theorem ct_X12_numbersOf (hfl : g.1.stackTraces = false) {v0 : Int32} {m0 : me} {x : (Int32 × me)} (h : f_X12_numbersOf v0 m0 = some x) : pm_Ct g mX12_numbersOf [.int v0] (en S m0) 0 0 (qI S x) qF := by
  refine pm_of (by decide +kernel) rfl hfl (Nat.le_of_ble_eq_true rfl) (fun X hE => ?_)
  show pm_G g mX12_numbersOf X 0 [some (.int v0)] [] (en S m0) 0 0
  unfold f_X12_numbersOf at h
  refine pg_iload_n dX12_numbersOf_0 rfl ?_
  refine pg_iconst 3 dX12_numbersOf_1 rfl ?_
  refine pg_icmp_ge 9 dX12_numbersOf_2 (by decide) (fun c1 => ?_) (fun c1 => ?_)
  · rw [if_pos c1] at h
    refine pg_iload_n dX12_numbersOf_9 rfl ?_
    refine pg_iconst 5 dX12_numbersOf_10 rfl ?_
    refine pg_icmp_eq 20 dX12_numbersOf_11 (by decide) (fun c2 => ?_) (fun c2 => ?_)
    · rw [if_pos c2] at h
      refine pg_iconst 2 dX12_numbersOf_20 rfl ?_
      refine pg_goto 25 dX12_numbersOf_21 (by decide) ?_
      obtain rfl := Option.some.inj h
      exact hE.2.1 _ _ _ _ _ _ .int dX12_numbersOf_25 rfl rfl (Nat.zero_le _) (Nat.zero_le _) ⟨rfl, rfl⟩
    · rw [if_neg c2] at h
      refine pg_iload_n dX12_numbersOf_14 rfl ?_
      refine pg_bipush 6 dX12_numbersOf_15 rfl ?_
      refine pg_icmp_ne 24 dX12_numbersOf_17 (by decide) (fun c3 => ?_) (fun c3 => ?_)
      · rw [if_neg c3] at h
        refine pg_iconst 1 dX12_numbersOf_24 rfl ?_
        obtain rfl := Option.some.inj h
        exact hE.2.1 _ _ _ _ _ _ .int dX12_numbersOf_25 rfl rfl (Nat.zero_le _) (Nat.zero_le _) ⟨rfl, rfl⟩
      · rw [if_pos c3] at h
        refine pg_iconst 2 dX12_numbersOf_20 rfl ?_
        refine pg_goto 25 dX12_numbersOf_21 (by decide) ?_
        obtain rfl := Option.some.inj h
        exact hE.2.1 _ _ _ _ _ _ .int dX12_numbersOf_25 rfl rfl (Nat.zero_le _) (Nat.zero_le _) ⟨rfl, rfl⟩
  · rw [if_neg c1] at h
    refine pg_iconst 3 dX12_numbersOf_5 rfl ?_
    refine pg_goto 25 dX12_numbersOf_6 (by decide) ?_
    obtain rfl := Option.some.inj h
    exact hE.2.1 _ _ _ _ _ _ .int dX12_numbersOf_25 rfl rfl (Nat.zero_le _) (Nat.zero_le _) ⟨rfl, rfl⟩
def b_X12_isNumber_7 (v1 : Int32) (v2 : Int32) (s : Int32 × me) : Option ((Int32 × me) ⊕ (Int32 × me)) :=
  bd (f_X12_isIn 48 57 s.2) (fun r2 =>
  if r2.1 = 0 then
    some (.inr (s.1, r2.2))
  else
    if 4 ≤ ((r2.2.1 128 11) - v2) then
      some (.inr (s.1, r2.2))
    else
      gd (inR (r2.2.1 128 11) 120) (
      lt (((10 * s.1) + (r2.2.1 132 ((r2.2.1 128 11).toNatClampNeg))) - 48) (fun w5 =>
      lt (wI r2.2 128 11 ((r2.2.1 128 11) + 1)) (fun m6 =>
      some (.inl (w5, m6))))))
def j_X12_isNumber_59 (v1 : Int32) (v2 : Int32) (v3 : Int32) (m0 : me) : Option (Int32 × me) :=
  gd (inR v1 3) (
  lt (wI m0 136 v1.toNatClampNeg v3) (fun m8 =>
  if (m8.1 128 11) ≤ v2 then
    some ((0, m8))
  else
    some ((1, m8))))
def f_X12_isNumber (v1 : Int32) (m0 : me) : Option (Int32 × me) :=
  lt (m0.1 128 11) (fun w1 =>
  bd (lo (b_X12_isNumber_7 v1 w1) 2048 (0, m0)) (fun s7 =>
  j_X12_isNumber_59 v1 w1 s7.1 s7.2))
set_option maxRecDepth 20000 in
set_option maxHeartbeats 4000000 in
theorem lb_X12_isNumber_7 (hfl : g.1.stackTraces = false) (hS : pS 128 137 S) {v1 : Int32} {v2 : Int32} {s : Int32 × me} {r : (Int32 × me) ⊕ (Int32 × me)} (h : b_X12_isNumber_7 v1 v2 s = some r) (hN : ∀ s', r = .inl s' → (fun z9 : Int32 × me => pm_G g mX12_isNumber X 7 [some (.ref 128), some (.int v1), some (.int v2), some (.int z9.1)] [] (en S z9.2) 0 0) s') (hT : ∀ t, r = .inr t → (fun z9 : Int32 × me => pm_G g mX12_isNumber X 59 [some (.ref 128), some (.int v1), some (.int v2), some (.int z9.1)] [] (en S z9.2) 0 0) t) : (fun z9 : Int32 × me => pm_G g mX12_isNumber X 7 [some (.ref 128), some (.int v1), some (.int v2), some (.int z9.1)] [] (en S z9.2) 0 0) s := by
  unfold b_X12_isNumber_7 at h
  show pm_G g mX12_isNumber X 7 [some (.ref 128), some (.int v1), some (.int v2), some (.int s.1)] [] (en S s.2) 0 0
  refine pg_aload_n dX12_isNumber_7 rfl ?_
  refine pg_bipush 48 dX12_isNumber_8 rfl ?_
  refine pg_bipush 57 dX12_isNumber_10 rfl ?_
  obtain ⟨r2, h_r2, h⟩ := bd_at h
  refine eg_cVi (C := mX12_isIn) (as := [(.int 48), (.int 57)]) dX12_isNumber_12 mw1044 cv_X12_isIn hS sp128 (Nat.le_of_ble_eq_true rfl) (Nat.le_of_ble_eq_true rfl) rfl rfl rfl (Nat.le_of_ble_eq_true rfl) rfl ⟨(Nat.le_of_ble_eq_true rfl), (Nat.le_of_ble_eq_true rfl)⟩ (ct_X12_isIn hfl (hS.sub (Nat.le_of_ble_eq_true rfl) (Nat.le_of_ble_eq_true rfl)) h_r2) ?_
  refine pg_if_eq 59 dX12_isNumber_15 (by decide) (fun c3 => ?_) (fun c3 => ?_)
  · rw [if_pos c3] at h
    obtain rfl := Option.some.inj h
    exact hT _ rfl
  · rw [if_neg c3] at h
    refine pg_aload_n dX12_isNumber_18 rfl ?_
    refine eg_get dX12_isNumber_19 fa_X12_205 hS sp128 (Nat.le_of_ble_eq_true rfl) (Nat.le_of_ble_eq_true rfl) rfl rfl ?_
    refine pg_iload_n dX12_isNumber_22 rfl ?_
    refine pg_isub dX12_isNumber_23 ?_
    refine pg_iconst 4 dX12_isNumber_24 rfl ?_
    refine pg_icmp_ge 59 dX12_isNumber_25 (by decide) (fun c4 => ?_) (fun c4 => ?_)
    · rw [if_pos c4] at h
      obtain rfl := Option.some.inj h
      exact hT _ rfl
    · rw [if_neg c4] at h
      refine pg_bipush 10 dX12_isNumber_28 rfl ?_
      refine pg_iload_n dX12_isNumber_30 rfl ?_
      refine pg_imul dX12_isNumber_31 ?_
      refine pg_aload_n dX12_isNumber_32 rfl ?_
      refine eg_get dX12_isNumber_33 fa_X12_19 hS sp128 (Nat.le_of_ble_eq_true rfl) (Nat.le_of_ble_eq_true rfl) rfl rfl ?_
      refine pg_aload_n dX12_isNumber_36 rfl ?_
      refine eg_get dX12_isNumber_37 fa_X12_205 hS sp128 (Nat.le_of_ble_eq_true rfl) (Nat.le_of_ble_eq_true rfl) rfl rfl ?_
      obtain ⟨g1, h⟩ := gd_at h
      refine eg_ialdJ ((r2.2.1 128 11).toNatClampNeg) dX12_isNumber_40 hS sp132 (Nat.le_of_ble_eq_true rfl) (Nat.le_of_ble_eq_true rfl) rfl (inR_vp g1) rfl ?_
      refine pg_iadd dX12_isNumber_41 ?_
      refine pg_bipush 48 dX12_isNumber_42 rfl ?_
      refine pg_isub dX12_isNumber_44 ?_
      obtain ⟨w5, e_w5⟩ : ∃ z : Int32, z = ((10 * s.1) + (r2.2.1 132 ((r2.2.1 128 11).toNatClampNeg))) - 48 := ⟨_, rfl⟩
      replace h := lt_at h e_w5
      refine eg_istore_n [some (.ref 128), some (.int v1), some (.int v2), some (.int w5)] w5 dX12_isNumber_45 e_w5 (Nat.le_of_ble_eq_true rfl) rfl ?_
      refine pg_aload_n dX12_isNumber_46 rfl ?_
      refine pg_dup dX12_isNumber_47 rfl ?_
      refine eg_get dX12_isNumber_48 fa_X12_205 hS sp128 (Nat.le_of_ble_eq_true rfl) (Nat.le_of_ble_eq_true rfl) rfl rfl ?_
      refine pg_iconst 1 dX12_isNumber_51 rfl ?_
      refine pg_iadd dX12_isNumber_52 ?_
      refine eg_put dX12_isNumber_53 fa_X12_205 hS sp128 (Nat.le_of_ble_eq_true rfl) (Nat.le_of_ble_eq_true rfl) rfl (Nat.le_of_ble_eq_true rfl) rfl (fun m6 e_m6 => ?_)
      replace h := lt_at h e_m6
      refine pg_goto 7 dX12_isNumber_56 (by decide) ?_
      obtain rfl := Option.some.inj h
      exact hN _ rfl
set_option maxRecDepth 20000 in
set_option maxHeartbeats 4000000 in
theorem lj_X12_isNumber_59 (hfl : g.1.stackTraces = false) (hS : pS 128 137 S) {v1 : Int32} {v2 : Int32} {v3 : Int32} {m0 : me} {r : (Int32 × me)} (h : j_X12_isNumber_59 v1 v2 v3 m0 = some r) (hE : pm_End g mX12_isNumber X 0 0 (qI S r) qF) : pm_G g mX12_isNumber X 59 [some (.ref 128), some (.int v1), some (.int v2), some (.int v3)] [] (en S m0) 0 0 := by
  unfold j_X12_isNumber_59 at h
  refine pg_aload_n dX12_isNumber_59 rfl ?_
  refine eg_get dX12_isNumber_60 fa_X12_31 hS sp128 (Nat.le_of_ble_eq_true rfl) (Nat.le_of_ble_eq_true rfl) rfl rfl ?_
  refine pg_iload_n dX12_isNumber_63 rfl ?_
  refine pg_iload_n dX12_isNumber_64 rfl ?_
  obtain ⟨g1, h⟩ := gd_at h
  refine eg_iastJ v1.toNatClampNeg dX12_isNumber_65 hS sp136 (Nat.le_of_ble_eq_true rfl) (Nat.le_of_ble_eq_true rfl) (fun _ _ _ => rfl) (inR_vp g1) rfl (fun m8 e_m8 => ?_)
  replace h := lt_at h e_m8
  refine pg_aload_n dX12_isNumber_66 rfl ?_
  refine eg_get dX12_isNumber_67 fa_X12_205 hS sp128 (Nat.le_of_ble_eq_true rfl) (Nat.le_of_ble_eq_true rfl) rfl rfl ?_
  refine pg_iload_n dX12_isNumber_70 rfl ?_
  refine pg_icmp_le 78 dX12_isNumber_71 (by decide) (fun c9 => ?_) (fun c9 => ?_)
  · rw [if_pos c9] at h
    refine pg_iconst 0 dX12_isNumber_78 rfl ?_
    obtain rfl := Option.some.inj h
    exact hE.2.1 _ _ _ _ _ _ .boolean dX12_isNumber_79 rfl rfl (Nat.zero_le _) (Nat.zero_le _) ⟨rfl, rfl⟩
  · rw [if_neg c9] at h
    refine pg_iconst 1 dX12_isNumber_74 rfl ?_
    refine pg_goto 79 dX12_isNumber_75 (by decide) ?_
    obtain rfl := Option.some.inj h
    exact hE.2.1 _ _ _ _ _ _ .boolean dX12_isNumber_79 rfl rfl (Nat.zero_le _) (Nat.zero_le _) ⟨rfl, rfl⟩
set_option maxRecDepth 20000 in
set_option maxHeartbeats 4000000 in
theorem ct_X12_isNumber (hfl : g.1.stackTraces = false) (hS : pS 128 137 S) {v1 : Int32} {m0 : me} {x : (Int32 × me)} (h : f_X12_isNumber v1 m0 = some x) : pm_Ct g mX12_isNumber [.ref 128, .int v1] (en S m0) 0 0 (qI S x) qF := by
  refine pm_of (by decide +kernel) rfl hfl (Nat.le_of_ble_eq_true rfl) (fun X hE => ?_)
  show pm_G g mX12_isNumber X 0 [some (.ref 128), some (.int v1), none, none] [] (en S m0) 0 0
  unfold f_X12_isNumber at h
  refine pg_aload_n dX12_isNumber_0 rfl ?_
  refine eg_get dX12_isNumber_1 fa_X12_205 hS sp128 (Nat.le_of_ble_eq_true rfl) (Nat.le_of_ble_eq_true rfl) rfl rfl ?_
  obtain ⟨w1, e_w1⟩ : ∃ z : Int32, z = m0.1 128 11 := ⟨_, rfl⟩
  replace h := lt_at h e_w1
  refine eg_istore_n [some (.ref 128), some (.int v1), some (.int w1), none] w1 dX12_isNumber_4 e_w1 (Nat.le_of_ble_eq_true rfl) rfl ?_
  refine pg_iconst 0 dX12_isNumber_5 rfl ?_
  refine eg_istore_n [some (.ref 128), some (.int v1), some (.int w1), some (.int 0)] 0 dX12_isNumber_6 rfl (Nat.le_of_ble_eq_true rfl) rfl ?_
  obtain ⟨s7, h_s7, h⟩ := bd_at h
  refine lo_at (b := b_X12_isNumber_7 v1 w1) (G := (fun z9 : Int32 × me => pm_G g mX12_isNumber X 7 [some (.ref 128), some (.int v1), some (.int w1), some (.int z9.1)] [] (en S z9.2) 0 0)) (T := (fun z9 : Int32 × me => pm_G g mX12_isNumber X 59 [some (.ref 128), some (.int v1), some (.int w1), some (.int z9.1)] [] (en S z9.2) 0 0)) (fun q9 r9 h1 h2 h3 => lb_X12_isNumber_7 hfl hS h1 h2 h3) 2048 (0, m0) s7 h_s7 ?_
  show pm_G g mX12_isNumber X 59 [some (.ref 128), some (.int v1), some (.int w1), some (.int s7.1)] [] (en S s7.2) 0 0
  exact lj_X12_isNumber_59 hfl hS h hE
end
