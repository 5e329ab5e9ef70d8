section
variable {g : pm_Gl} {X : pm_X} {S : List sF}
def f_X12_thrown (m0 : me) : Option (Int32 × me) :=
  some ((m0.1 128 6, m0))
set_option maxRecDepth 20000 in
set_option maxHeartbeats 4000000 in
theorem ct_X12_thrown (hfl : g.1.stackTraces = false) (hS : pS 128 137 S) {m0 : me} {x : (Int32 × me)} (h : f_X12_thrown m0 = some x) : pm_Ct g mX12_thrown [.ref 128] (en S m0) 0 0 (qI S x) qF := by
  refine pm_of (by decide +kernel) rfl hfl (Nat.le_of_ble_eq_true rfl) (fun X hE => ?_)
  show pm_G g mX12_thrown X 0 [some (.ref 128)] [] (en S m0) 0 0
  unfold f_X12_thrown at h
  refine pg_aload_n dX12_thrown_0 rfl ?_
  refine eg_get dX12_thrown_1 fa_X12_38 hS sp128 (Nat.le_of_ble_eq_true rfl) (Nat.le_of_ble_eq_true rfl) rfl rfl ?_
  obtain rfl := Option.some.inj h
  exact hE.2.1 _ _ _ _ _ _ .int dX12_thrown_4 rfl rfl (Nat.zero_le _) (Nat.zero_le _) ⟨rfl, rfl⟩
def f_X12_in (v0 : Int32) (v1 : Int32) (v2 : Int32) (m0 : me) : Option (Int32 × me) :=
  if v0 < v1 then
    some ((0, m0))
  else
    if v2 < v0 then
      some ((0, m0))
    else
      some ((1, m0))
set_option maxRecDepth 20000 in
set_option maxHeartbeats 4000000 in
theorem ct_X12_in (hfl : g.1.stackTraces = false) {v0 : Int32} {v1 : Int32} {v2 : Int32} {m0 : me} {x : (Int32 × me)} (h : f_X12_in v0 v1 v2 m0 = some x) : pm_Ct g mX12_in [.int v0, .int v1, .int v2] (en S m0) 0 0 (qI S x) qF := by
  refine pm_of (by decide +kernel) rfl hfl (Nat.le_of_ble_eq_true rfl) (fun X hE => ?_)
  show pm_G g mX12_in X 0 [some (.int v0), some (.int v1), some (.int v2)] [] (en S m0) 0 0
  unfold f_X12_in at h
  refine pg_iload_n dX12_in_0 rfl ?_
  refine pg_iload_n dX12_in_1 rfl ?_
  refine pg_icmp_lt 14 dX12_in_2 (by decide) (fun c1 => ?_) (fun c1 => ?_)
  · rw [if_pos c1] at h
    refine pg_iconst 0 dX12_in_14 rfl ?_
    obtain rfl := Option.some.inj h
    exact hE.2.1 _ _ _ _ _ _ .boolean dX12_in_15 rfl rfl (Nat.zero_le _) (Nat.zero_le _) ⟨rfl, rfl⟩
  · rw [if_neg c1] at h
    refine pg_iload_n dX12_in_5 rfl ?_
    refine pg_iload_n dX12_in_6 rfl ?_
    refine pg_icmp_gt 14 dX12_in_7 (by decide) (fun c2 => ?_) (fun c2 => ?_)
    · rw [if_pos c2] at h
      refine pg_iconst 0 dX12_in_14 rfl ?_
      obtain rfl := Option.some.inj h
      exact hE.2.1 _ _ _ _ _ _ .boolean dX12_in_15 rfl rfl (Nat.zero_le _) (Nat.zero_le _) ⟨rfl, rfl⟩
    · rw [if_neg c2] at h
      refine pg_iconst 1 dX12_in_10 rfl ?_
      refine pg_goto 15 dX12_in_11 (by decide) ?_
      obtain rfl := Option.some.inj h
      exact hE.2.1 _ _ _ _ _ _ .boolean dX12_in_15 rfl rfl (Nat.zero_le _) (Nat.zero_le _) ⟨rfl, rfl⟩
def b_X12_hold_2 (s : Int32 × me) : Option ((Int32 × me) ⊕ (Int32 × me)) :=
  if 487 ≤ s.1 then
    some (.inr (s.1, s.2))
  else
    gd (inR s.1 487) (
    gd (inR s.1 487) (
    lt (wI s.2 131 s.1.toNatClampNeg (s.2.1 129 s.1.toNatClampNeg)) (fun m2 =>
    lt (s.1 + 1) (fun w3 =>
    some (.inl (w3, m2))))))
def f_X12_hold (m0 : me) : Option me :=
  bd (lo (b_X12_hold_2) 2048 (0, m0)) (fun s4 =>
  some (s4.2))
set_option maxRecDepth 20000 in
set_option maxHeartbeats 4000000 in
theorem lb_X12_hold_2 (hfl : g.1.stackTraces = false) (hS : pS 128 137 S) {s : Int32 × me} {r : (Int32 × me) ⊕ (Int32 × me)} (h : b_X12_hold_2 s = some r) (hN : ∀ s', r = .inl s' → (fun z9 : Int32 × me => pm_G g mX12_hold X 2 [some (.ref 128), some (.int z9.1)] [] (en S z9.2) 0 0) s') (hT : ∀ t, r = .inr t → (fun z9 : Int32 × me => pm_G g mX12_hold X 27 [some (.ref 128), some (.int z9.1)] [] (en S z9.2) 0 0) t) : (fun z9 : Int32 × me => pm_G g mX12_hold X 2 [some (.ref 128), some (.int z9.1)] [] (en S z9.2) 0 0) s := by
  unfold b_X12_hold_2 at h
  show pm_G g mX12_hold X 2 [some (.ref 128), some (.int s.1)] [] (en S s.2) 0 0
  refine pg_iload_n dX12_hold_2 rfl ?_
  refine pg_sipush 487 dX12_hold_3 rfl ?_
  refine pg_icmp_ge 27 dX12_hold_6 (by decide) (fun c1 => ?_) (fun c1 => ?_)
  · rw [if_pos c1] at h
    obtain rfl := Option.some.inj h
    exact hT _ rfl
  · rw [if_neg c1] at h
    refine pg_aload_n dX12_hold_9 rfl ?_
    refine eg_get dX12_hold_10 fa_X12_16 hS sp128 (Nat.le_of_ble_eq_true rfl) (Nat.le_of_ble_eq_true rfl) rfl rfl ?_
    refine pg_iload_n dX12_hold_13 rfl ?_
    refine pg_aload_n dX12_hold_14 rfl ?_
    refine eg_get dX12_hold_15 fa_X12_7 hS sp128 (Nat.le_of_ble_eq_true rfl) (Nat.le_of_ble_eq_true rfl) rfl rfl ?_
    refine pg_iload_n dX12_hold_18 rfl ?_
    obtain ⟨g1, h⟩ := gd_at h
    refine eg_ialdJ s.1.toNatClampNeg dX12_hold_19 hS sp129 (Nat.le_of_ble_eq_true rfl) (Nat.le_of_ble_eq_true rfl) rfl (inR_vp g1) rfl ?_
    obtain ⟨g1, h⟩ := gd_at h
    refine eg_iastJ s.1.toNatClampNeg dX12_hold_20 hS sp131 (Nat.le_of_ble_eq_true rfl) (Nat.le_of_ble_eq_true rfl) (fun _ _ _ => rfl) (inR_vp g1) rfl (fun m2 e_m2 => ?_)
    replace h := lt_at h e_m2
    obtain ⟨w3, e_w3⟩ : ∃ z : Int32, z = s.1 + 1 := ⟨_, rfl⟩
    replace h := lt_at h e_w3
    refine eg_iinc [some (.ref 128), some (.int w3)] w3 1 dX12_hold_21 rfl rfl e_w3 rfl ?_
    refine pg_goto 2 dX12_hold_24 (by decide) ?_
    obtain rfl := Option.some.inj h
    exact hN _ rfl
set_option maxRecDepth 20000 in
set_option maxHeartbeats 4000000 in
theorem ct_X12_hold (hfl : g.1.stackTraces = false) (hS : pS 128 137 S) {m0 : me} {x : me} (h : f_X12_hold m0 = some x) : pm_Ct g mX12_hold [.ref 128] (en S m0) 0 0 (qV S x) qF := by
  refine pm_of (by decide +kernel) rfl hfl (Nat.le_of_ble_eq_true rfl) (fun X hE => ?_)
  show pm_G g mX12_hold X 0 [some (.ref 128), none] [] (en S m0) 0 0
  unfold f_X12_hold at h
  refine pg_iconst 0 dX12_hold_0 rfl ?_
  refine eg_istore_n [some (.ref 128), some (.int 0)] 0 dX12_hold_1 rfl (Nat.le_of_ble_eq_true rfl) rfl ?_
  obtain ⟨s4, h_s4, h⟩ := bd_at h
  refine lo_at (b := b_X12_hold_2) (G := (fun z9 : Int32 × me => pm_G g mX12_hold X 2 [some (.ref 128), some (.int z9.1)] [] (en S z9.2) 0 0)) (T := (fun z9 : Int32 × me => pm_G g mX12_hold X 27 [some (.ref 128), some (.int z9.1)] [] (en S z9.2) 0 0)) (fun q9 r9 h1 h2 h3 => lb_X12_hold_2 hfl hS h1 h2 h3) 2048 (0, m0) s4 h_s4 ?_
  show pm_G g mX12_hold X 27 [some (.ref 128), some (.int s4.1)] [] (en S s4.2) 0 0
  obtain rfl := Option.some.inj h
  exact hE.2.2.1 _ _ _ _ _ dX12_hold_27 rfl (Nat.zero_le _) (Nat.zero_le _) ⟨rfl, rfl⟩
def f_X12_idOf (v1 : Int32) (m0 : me) : Option (Int32 × me) :=
  gd (inR (11 + (5 * v1)) 487) (
  some (((10 * (m0.1 129 ((11 + (5 * v1)).toNatClampNeg))) + v1, m0)))
set_option maxRecDepth 20000 in
set_option maxHeartbeats 4000000 in
theorem ct_X12_idOf (hfl : g.1.stackTraces = false) (hS : pS 128 137 S) {v1 : Int32} {m0 : me} {x : (Int32 × me)} (h : f_X12_idOf v1 m0 = some x) : pm_Ct g mX12_idOf [.ref 128, .int v1] (en S m0) 0 0 (qI S x) qF := by
  refine pm_of (by decide +kernel) rfl hfl (Nat.le_of_ble_eq_true rfl) (fun X hE => ?_)
  show pm_G g mX12_idOf X 0 [some (.ref 128), some (.int v1)] [] (en S m0) 0 0
  unfold f_X12_idOf at h
  refine pg_bipush 10 dX12_idOf_0 rfl ?_
  refine pg_aload_n dX12_idOf_2 rfl ?_
  refine eg_get dX12_idOf_3 fa_X12_7 hS sp128 (Nat.le_of_ble_eq_true rfl) (Nat.le_of_ble_eq_true rfl) rfl rfl ?_
  refine pg_bipush 11 dX12_idOf_6 rfl ?_
  refine pg_iconst 5 dX12_idOf_8 rfl ?_
  refine pg_iload_n dX12_idOf_9 rfl ?_
  refine pg_imul dX12_idOf_10 ?_
  refine pg_iadd dX12_idOf_11 ?_
  obtain ⟨g1, h⟩ := gd_at h
  refine eg_ialdJ ((11 + (5 * v1)).toNatClampNeg) dX12_idOf_12 hS sp129 (Nat.le_of_ble_eq_true rfl) (Nat.le_of_ble_eq_true rfl) rfl (inR_vp g1) rfl ?_
  refine pg_imul dX12_idOf_13 ?_
  refine pg_iload_n dX12_idOf_14 rfl ?_
  refine pg_iadd dX12_idOf_15 ?_
  obtain rfl := Option.some.inj h
  exact hE.2.1 _ _ _ _ _ _ .int dX12_idOf_16 rfl rfl (Nat.zero_le _) (Nat.zero_le _) ⟨rfl, rfl⟩
def f_X12_startsAnew (v1 : Int32) (m0 : me) : Option me :=
  lt (11 + (5 * v1)) (fun w1 =>
  bd (f_X12_idOf v1 m0) (fun r2 =>
  gd (inR (w1 + 1) 487) (
  lt (wI r2.2 129 ((w1 + 1).toNatClampNeg) r2.1) (fun m3 =>
  gd (inR (w1 + 2) 487) (
  lt (wI m3 129 ((w1 + 2).toNatClampNeg) 0) (fun m4 =>
  gd (inR (w1 + 3) 487) (
  lt (wI m4 129 ((w1 + 3).toNatClampNeg) 0) (fun m5 =>
  gd (inR (w1 + 4) 487) (
  lt (wI m5 129 ((w1 + 4).toNatClampNeg) (-1)) (fun m6 =>
  some (m6)))))))))))
set_option maxRecDepth 20000 in
set_option maxHeartbeats 4000000 in
theorem ct_X12_startsAnew (hfl : g.1.stackTraces = false) (hS : pS 128 137 S) {v1 : Int32} {m0 : me} {x : me} (h : f_X12_startsAnew v1 m0 = some x) : pm_Ct g mX12_startsAnew [.ref 128, .int v1] (en S m0) 0 0 (qV S x) qF := by
  refine pm_of (by decide +kernel) rfl hfl (Nat.le_of_ble_eq_true rfl) (fun X hE => ?_)
  show pm_G g mX12_startsAnew X 0 [some (.ref 128), some (.int v1), none] [] (en S m0) 0 0
  unfold f_X12_startsAnew at h
  refine pg_bipush 11 dX12_startsAnew_0 rfl ?_
  refine pg_iconst 5 dX12_startsAnew_2 rfl ?_
  refine pg_iload_n dX12_startsAnew_3 rfl ?_
  refine pg_imul dX12_startsAnew_4 ?_
  refine pg_iadd dX12_startsAnew_5 ?_
  obtain ⟨w1, e_w1⟩ : ∃ z : Int32, z = 11 + (5 * v1) := ⟨_, rfl⟩
  replace h := lt_at h e_w1
  refine eg_istore_n [some (.ref 128), some (.int v1), some (.int w1)] w1 dX12_startsAnew_6 e_w1 (Nat.le_of_ble_eq_true rfl) rfl ?_
  refine pg_aload_n dX12_startsAnew_7 rfl ?_
  refine eg_get dX12_startsAnew_8 fa_X12_7 hS sp128 (Nat.le_of_ble_eq_true rfl) (Nat.le_of_ble_eq_true rfl) rfl rfl ?_
  refine pg_iload_n dX12_startsAnew_11 rfl ?_
  refine pg_iconst 1 dX12_startsAnew_12 rfl ?_
  refine pg_iadd dX12_startsAnew_13 ?_
  refine pg_aload_n dX12_startsAnew_14 rfl ?_
  refine pg_iload_n dX12_startsAnew_15 rfl ?_
  obtain ⟨r2, h_r2, h⟩ := bd_at h
  refine eg_cVi (C := mX12_idOf) (as := [(.int v1)]) dX12_startsAnew_16 mw800 cv_X12_idOf hS sp128 (Nat.le_of_ble_eq_true rfl) (Nat.le_of_ble_eq_true rfl) rfl rfl rfl (Nat.le_of_ble_eq_true rfl) rfl ⟨(Nat.le_of_ble_eq_true rfl), (Nat.le_of_ble_eq_true rfl)⟩ (ct_X12_idOf hfl (hS.sub (Nat.le_of_ble_eq_true rfl) (Nat.le_of_ble_eq_true rfl)) h_r2) ?_
  obtain ⟨g1, h⟩ := gd_at h
  refine eg_iastJ ((w1 + 1).toNatClampNeg) dX12_startsAnew_19 hS sp129 (Nat.le_of_ble_eq_true rfl) (Nat.le_of_ble_eq_true rfl) (fun _ _ _ => rfl) (inR_vp g1) rfl (fun m3 e_m3 => ?_)
  replace h := lt_at h e_m3
  refine pg_aload_n dX12_startsAnew_20 rfl ?_
  refine eg_get dX12_startsAnew_21 fa_X12_7 hS sp128 (Nat.le_of_ble_eq_true rfl) (Nat.le_of_ble_eq_true rfl) rfl rfl ?_
  refine pg_iload_n dX12_startsAnew_24 rfl ?_
  refine pg_iconst 2 dX12_startsAnew_25 rfl ?_
  refine pg_iadd dX12_startsAnew_26 ?_
  refine pg_iconst 0 dX12_startsAnew_27 rfl ?_
  obtain ⟨g1, h⟩ := gd_at h
  refine eg_iastJ ((w1 + 2).toNatClampNeg) dX12_startsAnew_28 hS sp129 (Nat.le_of_ble_eq_true rfl) (Nat.le_of_ble_eq_true rfl) (fun _ _ _ => rfl) (inR_vp g1) rfl (fun m4 e_m4 => ?_)
  replace h := lt_at h e_m4
  refine pg_aload_n dX12_startsAnew_29 rfl ?_
  refine eg_get dX12_startsAnew_30 fa_X12_7 hS sp128 (Nat.le_of_ble_eq_true rfl) (Nat.le_of_ble_eq_true rfl) rfl rfl ?_
  refine pg_iload_n dX12_startsAnew_33 rfl ?_
  refine pg_iconst 3 dX12_startsAnew_34 rfl ?_
  refine pg_iadd dX12_startsAnew_35 ?_
  refine pg_iconst 0 dX12_startsAnew_36 rfl ?_
  obtain ⟨g1, h⟩ := gd_at h
  refine eg_iastJ ((w1 + 3).toNatClampNeg) dX12_startsAnew_37 hS sp129 (Nat.le_of_ble_eq_true rfl) (Nat.le_of_ble_eq_true rfl) (fun _ _ _ => rfl) (inR_vp g1) rfl (fun m5 e_m5 => ?_)
  replace h := lt_at h e_m5
  refine pg_aload_n dX12_startsAnew_38 rfl ?_
  refine eg_get dX12_startsAnew_39 fa_X12_7 hS sp128 (Nat.le_of_ble_eq_true rfl) (Nat.le_of_ble_eq_true rfl) rfl rfl ?_
  refine pg_iload_n dX12_startsAnew_42 rfl ?_
  refine pg_iconst 4 dX12_startsAnew_43 rfl ?_
  refine pg_iadd dX12_startsAnew_44 ?_
  refine pg_iconst (-1) dX12_startsAnew_45 rfl ?_
  obtain ⟨g1, h⟩ := gd_at h
  refine eg_iastJ ((w1 + 4).toNatClampNeg) dX12_startsAnew_46 hS sp129 (Nat.le_of_ble_eq_true rfl) (Nat.le_of_ble_eq_true rfl) (fun _ _ _ => rfl) (inR_vp g1) rfl (fun m6 e_m6 => ?_)
  replace h := lt_at h e_m6
  obtain rfl := Option.some.inj h
  exact hE.2.2.1 _ _ _ _ _ dX12_startsAnew_47 rfl (Nat.zero_le _) (Nat.zero_le _) ⟨rfl, rfl⟩
def b_X12_flushes_2 (v1 : Int32) (s : Int32 × me) : Option ((Int32 × me) ⊕ (Int32 × me)) :=
  if 8 ≤ s.1 then
    some (.inr (s.1, s.2))
  else
    gd (inR ((51 + (16 * v1)) + (2 * s.1)) 487) (
    lt (wI s.2 129 (((51 + (16 * v1)) + (2 * s.1)).toNatClampNeg) (-1)) (fun m2 =>
    lt (s.1 + 1) (fun w3 =>
    some (.inl (w3, m2)))))
def f_X12_flushes (v1 : Int32) (m0 : me) : Option me :=
  bd (lo (b_X12_flushes_2 v1) 2048 (0, m0)) (fun s4 =>
  some (s4.2))
set_option maxRecDepth 20000 in
set_option maxHeartbeats 4000000 in
theorem lb_X12_flushes_2 (hfl : g.1.stackTraces = false) (hS : pS 128 137 S) {v1 : Int32} {s : Int32 × me} {r : (Int32 × me) ⊕ (Int32 × me)} (h : b_X12_flushes_2 v1 s = some r) (hN : ∀ s', r = .inl s' → (fun z9 : Int32 × me => pm_G g mX12_flushes X 2 [some (.ref 128), some (.int v1), some (.int z9.1)] [] (en S z9.2) 0 0) s') (hT : ∀ t, r = .inr t → (fun z9 : Int32 × me => pm_G g mX12_flushes X 31 [some (.ref 128), some (.int v1), some (.int z9.1)] [] (en S z9.2) 0 0) t) : (fun z9 : Int32 × me => pm_G g mX12_flushes X 2 [some (.ref 128), some (.int v1), some (.int z9.1)] [] (en S z9.2) 0 0) s := by
  unfold b_X12_flushes_2 at h
  show pm_G g mX12_flushes X 2 [some (.ref 128), some (.int v1), some (.int s.1)] [] (en S s.2) 0 0
  refine pg_iload_n dX12_flushes_2 rfl ?_
  refine pg_bipush 8 dX12_flushes_3 rfl ?_
  refine pg_icmp_ge 31 dX12_flushes_5 (by decide) (fun c1 => ?_) (fun c1 => ?_)
  · rw [if_pos c1] at h
    obtain rfl := Option.some.inj h
    exact hT _ rfl
  · rw [if_neg c1] at h
    refine pg_aload_n dX12_flushes_8 rfl ?_
    refine eg_get dX12_flushes_9 fa_X12_7 hS sp128 (Nat.le_of_ble_eq_true rfl) (Nat.le_of_ble_eq_true rfl) rfl rfl ?_
    refine pg_bipush 51 dX12_flushes_12 rfl ?_
    refine pg_bipush 16 dX12_flushes_14 rfl ?_
    refine pg_iload_n dX12_flushes_16 rfl ?_
    refine pg_imul dX12_flushes_17 ?_
    refine pg_iadd dX12_flushes_18 ?_
    refine pg_iconst 2 dX12_flushes_19 rfl ?_
    refine pg_iload_n dX12_flushes_20 rfl ?_
    refine pg_imul dX12_flushes_21 ?_
    refine pg_iadd dX12_flushes_22 ?_
    refine pg_iconst (-1) dX12_flushes_23 rfl ?_
    obtain ⟨g1, h⟩ := gd_at h
    refine eg_iastJ (((51 + (16 * v1)) + (2 * s.1)).toNatClampNeg) dX12_flushes_24 hS sp129 (Nat.le_of_ble_eq_true rfl) (Nat.le_of_ble_eq_true rfl) (fun _ _ _ => rfl) (inR_vp g1) rfl (fun m2 e_m2 => ?_)
    replace h := lt_at h e_m2
    obtain ⟨w3, e_w3⟩ : ∃ z : Int32, z = s.1 + 1 := ⟨_, rfl⟩
    replace h := lt_at h e_w3
    refine eg_iinc [some (.ref 128), some (.int v1), some (.int w3)] w3 1 dX12_flushes_25 rfl rfl e_w3 rfl ?_
    refine pg_goto 2 dX12_flushes_28 (by decide) ?_
    obtain rfl := Option.some.inj h
    exact hN _ rfl
set_option maxRecDepth 20000 in
set_option maxHeartbeats 4000000 in
theorem ct_X12_flushes (hfl : g.1.stackTraces = false) (hS : pS 128 137 S) {v1 : Int32} {m0 : me} {x : me} (h : f_X12_flushes v1 m0 = some x) : pm_Ct g mX12_flushes [.ref 128, .int v1] (en S m0) 0 0 (qV S x) qF := by
  refine pm_of (by decide +kernel) rfl hfl (Nat.le_of_ble_eq_true rfl) (fun X hE => ?_)
  show pm_G g mX12_flushes X 0 [some (.ref 128), some (.int v1), none] [] (en S m0) 0 0
  unfold f_X12_flushes at h
  refine pg_iconst 0 dX12_flushes_0 rfl ?_
  refine eg_istore_n [some (.ref 128), some (.int v1), some (.int 0)] 0 dX12_flushes_1 rfl (Nat.le_of_ble_eq_true rfl) rfl ?_
  obtain ⟨s4, h_s4, h⟩ := bd_at h
  refine lo_at (b := b_X12_flushes_2 v1) (G := (fun z9 : Int32 × me => pm_G g mX12_flushes X 2 [some (.ref 128), some (.int v1), some (.int z9.1)] [] (en S z9.2) 0 0)) (T := (fun z9 : Int32 × me => pm_G g mX12_flushes X 31 [some (.ref 128), some (.int v1), some (.int z9.1)] [] (en S z9.2) 0 0)) (fun q9 r9 h1 h2 h3 => lb_X12_flushes_2 hfl hS h1 h2 h3) 2048 (0, m0) s4 h_s4 ?_
  show pm_G g mX12_flushes X 31 [some (.ref 128), some (.int v1), some (.int s4.1)] [] (en S s4.2) 0 0
  obtain rfl := Option.some.inj h
  exact hE.2.2.1 _ _ _ _ _ dX12_flushes_31 rfl (Nat.zero_le _) (Nat.zero_le _) ⟨rfl, rfl⟩
def b_X12_begins_2 (v1 : Int32) (s : Int32 × me) : Option ((Int32 × me) ⊕ (Int32 × me)) :=
  if 487 ≤ s.1 then
    some (.inr (s.1, s.2))
  else
    bd (f_X12_in s.1 2 4 s.2) (fun r2 =>
    if r2.1 = 0 then
      gd (inR s.1 487) (
      lt (wI r2.2 129 s.1.toNatClampNeg 0) (fun m4 =>
      lt (s.1 + 1) (fun w5 =>
      some (.inl (w5, m4)))))
    else
      gd (inR s.1 487) (
      gd (inR s.1 487) (
      lt (wI r2.2 129 s.1.toNatClampNeg (r2.2.1 129 s.1.toNatClampNeg)) (fun m6 =>
      lt (s.1 + 1) (fun w7 =>
      some (.inl (w7, m6)))))))
def b_X12_begins_49 (v1 : Int32) (s : Int32 × me) : Option ((Int32 × me) ⊕ (Int32 × me)) :=
  if 8 ≤ s.1 then
    some (.inr (s.1, s.2))
  else
    gd (inR (11 + (5 * s.1)) 487) (
    lt (wI s.2 129 ((11 + (5 * s.1)).toNatClampNeg) 5) (fun m11 =>
    bd (f_X12_startsAnew s.1 m11) (fun r12 =>
    bd (f_X12_flushes s.1 r12) (fun r13 =>
    lt (s.1 + 1) (fun w14 =>
    some (.inl (w14, r13)))))))
def b_X12_begins_85 (v1 : Int32) (s : Int32 × me) : Option ((Int32 × me) ⊕ (Int32 × me)) :=
  if 8 ≤ s.1 then
    some (.inr (s.1, s.2))
  else
    gd (nz v1) (
    gd (inR (179 + s.1) 487) (
    lt (wI s.2 129 ((179 + s.1).toNatClampNeg) (s.1 - s.1 / v1 * v1)) (fun m17 =>
    lt (s.1 + 1) (fun w18 =>
    some (.inl (w18, m17))))))
def b_X12_begins_112 (v1 : Int32) (s : Int32 × me) : Option ((Int32 × me) ⊕ (Int32 × me)) :=
  if 4 ≤ s.1 then
    some (.inr (s.1, s.2))
  else
    gd (inR (187 + (3 * s.1)) 487) (
    lt (wI s.2 129 ((187 + (3 * s.1)).toNatClampNeg) 100) (fun m21 =>
    lt (s.1 + 1) (fun w22 =>
    some (.inl (w22, m21)))))
def f_X12_begins (v1 : Int32) (m0 : me) : Option me :=
  bd (lo (b_X12_begins_2 v1) 2048 (0, m0)) (fun s8 =>
  lt (wI s8.2 129 0 v1) (fun m9 =>
  bd (lo (b_X12_begins_49 v1) 2048 (0, m9)) (fun s15 =>
  bd (lo (b_X12_begins_85 v1) 2048 (0, s15.2)) (fun s19 =>
  bd (lo (b_X12_begins_112 v1) 2048 (0, s19.2)) (fun s23 =>
  some (s23.2))))))
set_option maxRecDepth 20000 in
set_option maxHeartbeats 4000000 in
theorem lb_X12_begins_2 (hfl : g.1.stackTraces = false) (hS : pS 128 137 S) {v1 : Int32} {s : Int32 × me} {r : (Int32 × me) ⊕ (Int32 × me)} (h : b_X12_begins_2 v1 s = some r) (hN : ∀ s', r = .inl s' → (fun z9 : Int32 × me => pm_G g mX12_begins X 2 [some (.ref 128), some (.int v1), some (.int z9.1)] [] (en S z9.2) 0 0) s') (hT : ∀ t, r = .inr t → (fun z9 : Int32 × me => pm_G g mX12_begins X 40 [some (.ref 128), some (.int v1), some (.int z9.1)] [] (en S z9.2) 0 0) t) : (fun z9 : Int32 × me => pm_G g mX12_begins X 2 [some (.ref 128), some (.int v1), some (.int z9.1)] [] (en S z9.2) 0 0) s := by
  unfold b_X12_begins_2 at h
  show pm_G g mX12_begins X 2 [some (.ref 128), some (.int v1), some (.int s.1)] [] (en S s.2) 0 0
  refine pg_iload_n dX12_begins_2 rfl ?_
  refine pg_sipush 487 dX12_begins_3 rfl ?_
  refine pg_icmp_ge 40 dX12_begins_6 (by decide) (fun c1 => ?_) (fun c1 => ?_)
  · rw [if_pos c1] at h
    obtain rfl := Option.some.inj h
    exact hT _ rfl
  · rw [if_neg c1] at h
    refine pg_aload_n dX12_begins_9 rfl ?_
    refine eg_get dX12_begins_10 fa_X12_7 hS sp128 (Nat.le_of_ble_eq_true rfl) (Nat.le_of_ble_eq_true rfl) rfl rfl ?_
    refine pg_iload_n dX12_begins_13 rfl ?_
    refine pg_iload_n dX12_begins_14 rfl ?_
    refine pg_iconst 2 dX12_begins_15 rfl ?_
    refine pg_iconst 4 dX12_begins_16 rfl ?_
    obtain ⟨r2, h_r2, h⟩ := bd_at h
    refine eg_cSi (C := mX12_in) (as := [(.int s.1), (.int 2), (.int 4)]) dX12_begins_17 mw786 cs_X12_in rfl rfl (Nat.le_of_ble_eq_true rfl) rfl ⟨(Nat.le_of_ble_eq_true rfl), (Nat.le_of_ble_eq_true rfl)⟩ (ct_X12_in hfl h_r2) ?_
    refine pg_if_eq 32 dX12_begins_20 (by decide) (fun c3 => ?_) (fun c3 => ?_)
    · rw [if_pos c3] at h
      refine pg_iconst 0 dX12_begins_32 rfl ?_
      obtain ⟨g1, h⟩ := gd_at h
      refine eg_iastJ s.1.toNatClampNeg dX12_begins_33 hS sp129 (Nat.le_of_ble_eq_true rfl) (Nat.le_of_ble_eq_true rfl) (fun _ _ _ => rfl) (inR_vp g1) rfl (fun m4 e_m4 => ?_)
      replace h := lt_at h e_m4
      obtain ⟨w5, e_w5⟩ : ∃ z : Int32, z = s.1 + 1 := ⟨_, rfl⟩
      replace h := lt_at h e_w5
      refine eg_iinc [some (.ref 128), some (.int v1), some (.int w5)] w5 1 dX12_begins_34 rfl rfl e_w5 rfl ?_
      refine pg_goto 2 dX12_begins_37 (by decide) ?_
      obtain rfl := Option.some.inj h
      exact hN _ rfl
    · rw [if_neg c3] at h
      refine pg_aload_n dX12_begins_23 rfl ?_
      refine eg_get dX12_begins_24 fa_X12_7 hS sp128 (Nat.le_of_ble_eq_true rfl) (Nat.le_of_ble_eq_true rfl) rfl rfl ?_
      refine pg_iload_n dX12_begins_27 rfl ?_
      obtain ⟨g1, h⟩ := gd_at h
      refine eg_ialdJ s.1.toNatClampNeg dX12_begins_28 hS sp129 (Nat.le_of_ble_eq_true rfl) (Nat.le_of_ble_eq_true rfl) rfl (inR_vp g1) rfl ?_
      refine pg_goto 33 dX12_begins_29 (by decide) ?_
      obtain ⟨g1, h⟩ := gd_at h
      refine eg_iastJ s.1.toNatClampNeg dX12_begins_33 hS sp129 (Nat.le_of_ble_eq_true rfl) (Nat.le_of_ble_eq_true rfl) (fun _ _ _ => rfl) (inR_vp g1) rfl (fun m6 e_m6 => ?_)
      replace h := lt_at h e_m6
      obtain ⟨w7, e_w7⟩ : ∃ z : Int32, z = s.1 + 1 := ⟨_, rfl⟩
      replace h := lt_at h e_w7
      refine eg_iinc [some (.ref 128), some (.int v1), some (.int w7)] w7 1 dX12_begins_34 rfl rfl e_w7 rfl ?_
      refine pg_goto 2 dX12_begins_37 (by decide) ?_
      obtain rfl := Option.some.inj h
      exact hN _ rfl
set_option maxRecDepth 20000 in
set_option maxHeartbeats 4000000 in
theorem lb_X12_begins_49 (hfl : g.1.stackTraces = false) (hS : pS 128 137 S) {v1 : Int32} {s : Int32 × me} {r : (Int32 × me) ⊕ (Int32 × me)} (h : b_X12_begins_49 v1 s = some r) (hN : ∀ s', r = .inl s' → (fun z9 : Int32 × me => pm_G g mX12_begins X 49 [some (.ref 128), some (.int v1), some (.int z9.1)] [] (en S z9.2) 0 0) s') (hT : ∀ t, r = .inr t → (fun z9 : Int32 × me => pm_G g mX12_begins X 83 [some (.ref 128), some (.int v1), some (.int z9.1)] [] (en S z9.2) 0 0) t) : (fun z9 : Int32 × me => pm_G g mX12_begins X 49 [some (.ref 128), some (.int v1), some (.int z9.1)] [] (en S z9.2) 0 0) s := by
  unfold b_X12_begins_49 at h
  show pm_G g mX12_begins X 49 [some (.ref 128), some (.int v1), some (.int s.1)] [] (en S s.2) 0 0
  refine pg_iload_n dX12_begins_49 rfl ?_
  refine pg_bipush 8 dX12_begins_50 rfl ?_
  refine pg_icmp_ge 83 dX12_begins_52 (by decide) (fun c10 => ?_) (fun c10 => ?_)
  · rw [if_pos c10] at h
    obtain rfl := Option.some.inj h
    exact hT _ rfl
  · rw [if_neg c10] at h
    refine pg_aload_n dX12_begins_55 rfl ?_
    refine eg_get dX12_begins_56 fa_X12_7 hS sp128 (Nat.le_of_ble_eq_true rfl) (Nat.le_of_ble_eq_true rfl) rfl rfl ?_
    refine pg_bipush 11 dX12_begins_59 rfl ?_
    refine pg_iconst 5 dX12_begins_61 rfl ?_
    refine pg_iload_n dX12_begins_62 rfl ?_
    refine pg_imul dX12_begins_63 ?_
    refine pg_iadd dX12_begins_64 ?_
    refine pg_iconst 5 dX12_begins_65 rfl ?_
    obtain ⟨g1, h⟩ := gd_at h
    refine eg_iastJ ((11 + (5 * s.1)).toNatClampNeg) dX12_begins_66 hS sp129 (Nat.le_of_ble_eq_true rfl) (Nat.le_of_ble_eq_true rfl) (fun _ _ _ => rfl) (inR_vp g1) rfl (fun m11 e_m11 => ?_)
    replace h := lt_at h e_m11
    refine pg_aload_n dX12_begins_67 rfl ?_
    refine pg_iload_n dX12_begins_68 rfl ?_
    obtain ⟨r12, h_r12, h⟩ := bd_at h
    refine eg_cVv (C := mX12_startsAnew) (as := [(.int s.1)]) dX12_begins_69 mw790 cv_X12_startsAnew hS sp128 (Nat.le_of_ble_eq_true rfl) (Nat.le_of_ble_eq_true rfl) rfl rfl rfl (Nat.le_of_ble_eq_true rfl) rfl ⟨(Nat.le_of_ble_eq_true rfl), (Nat.le_of_ble_eq_true rfl)⟩ (ct_X12_startsAnew hfl (hS.sub (Nat.le_of_ble_eq_true rfl) (Nat.le_of_ble_eq_true rfl)) h_r12) ?_
    refine pg_aload_n dX12_begins_72 rfl ?_
    refine pg_iload_n dX12_begins_73 rfl ?_
    obtain ⟨r13, h_r13, h⟩ := bd_at h
    refine eg_cVv (C := mX12_flushes) (as := [(.int s.1)]) dX12_begins_74 mw795 cv_X12_flushes hS sp128 (Nat.le_of_ble_eq_true rfl) (Nat.le_of_ble_eq_true rfl) rfl rfl rfl (Nat.le_of_ble_eq_true rfl) rfl ⟨(Nat.le_of_ble_eq_true rfl), (Nat.le_of_ble_eq_true rfl)⟩ (ct_X12_flushes hfl (hS.sub (Nat.le_of_ble_eq_true rfl) (Nat.le_of_ble_eq_true rfl)) h_r13) ?_
    obtain ⟨w14, e_w14⟩ : ∃ z : Int32, z = s.1 + 1 := ⟨_, rfl⟩
    replace h := lt_at h e_w14
    refine eg_iinc [some (.ref 128), some (.int v1), some (.int w14)] w14 1 dX12_begins_77 rfl rfl e_w14 rfl ?_
    refine pg_goto 49 dX12_begins_80 (by decide) ?_
    obtain rfl := Option.some.inj h
    exact hN _ rfl
set_option maxRecDepth 20000 in
set_option maxHeartbeats 4000000 in
theorem lb_X12_begins_85 (hfl : g.1.stackTraces = false) (hS : pS 128 137 S) {v1 : Int32} {s : Int32 × me} {r : (Int32 × me) ⊕ (Int32 × me)} (h : b_X12_begins_85 v1 s = some r) (hN : ∀ s', r = .inl s' → (fun z9 : Int32 × me => pm_G g mX12_begins X 85 [some (.ref 128), some (.int v1), some (.int z9.1)] [] (en S z9.2) 0 0) s') (hT : ∀ t, r = .inr t → (fun z9 : Int32 × me => pm_G g mX12_begins X 110 [some (.ref 128), some (.int v1), some (.int z9.1)] [] (en S z9.2) 0 0) t) : (fun z9 : Int32 × me => pm_G g mX12_begins X 85 [some (.ref 128), some (.int v1), some (.int z9.1)] [] (en S z9.2) 0 0) s := by
  unfold b_X12_begins_85 at h
  show pm_G g mX12_begins X 85 [some (.ref 128), some (.int v1), some (.int s.1)] [] (en S s.2) 0 0
  refine pg_iload_n dX12_begins_85 rfl ?_
  refine pg_bipush 8 dX12_begins_86 rfl ?_
  refine pg_icmp_ge 110 dX12_begins_88 (by decide) (fun c16 => ?_) (fun c16 => ?_)
  · rw [if_pos c16] at h
    obtain rfl := Option.some.inj h
    exact hT _ rfl
  · rw [if_neg c16] at h
    refine pg_aload_n dX12_begins_91 rfl ?_
    refine eg_get dX12_begins_92 fa_X12_7 hS sp128 (Nat.le_of_ble_eq_true rfl) (Nat.le_of_ble_eq_true rfl) rfl rfl ?_
    refine pg_sipush 179 dX12_begins_95 rfl ?_
    refine pg_iload_n dX12_begins_98 rfl ?_
    refine pg_iadd dX12_begins_99 ?_
    refine pg_iload_n dX12_begins_100 rfl ?_
    refine pg_iload_n dX12_begins_101 rfl ?_
    obtain ⟨g1, h⟩ := gd_at h
    refine pg_irem dX12_begins_102 (nz_ne g1) ?_
    obtain ⟨g1, h⟩ := gd_at h
    refine eg_iastJ ((179 + s.1).toNatClampNeg) dX12_begins_103 hS sp129 (Nat.le_of_ble_eq_true rfl) (Nat.le_of_ble_eq_true rfl) (fun _ _ _ => rfl) (inR_vp g1) rfl (fun m17 e_m17 => ?_)
    replace h := lt_at h e_m17
    obtain ⟨w18, e_w18⟩ : ∃ z : Int32, z = s.1 + 1 := ⟨_, rfl⟩
    replace h := lt_at h e_w18
    refine eg_iinc [some (.ref 128), some (.int v1), some (.int w18)] w18 1 dX12_begins_104 rfl rfl e_w18 rfl ?_
    refine pg_goto 85 dX12_begins_107 (by decide) ?_
    obtain rfl := Option.some.inj h
    exact hN _ rfl
set_option maxRecDepth 20000 in
set_option maxHeartbeats 4000000 in
theorem lb_X12_begins_112 (hfl : g.1.stackTraces = false) (hS : pS 128 137 S) {v1 : Int32} {s : Int32 × me} {r : (Int32 × me) ⊕ (Int32 × me)} (h : b_X12_begins_112 v1 s = some r) (hN : ∀ s', r = .inl s' → (fun z9 : Int32 × me => pm_G g mX12_begins X 112 [some (.ref 128), some (.int v1), some (.int z9.1)] [] (en S z9.2) 0 0) s') (hT : ∀ t, r = .inr t → (fun z9 : Int32 × me => pm_G g mX12_begins X 137 [some (.ref 128), some (.int v1), some (.int z9.1)] [] (en S z9.2) 0 0) t) : (fun z9 : Int32 × me => pm_G g mX12_begins X 112 [some (.ref 128), some (.int v1), some (.int z9.1)] [] (en S z9.2) 0 0) s := by
  unfold b_X12_begins_112 at h
  show pm_G g mX12_begins X 112 [some (.ref 128), some (.int v1), some (.int s.1)] [] (en S s.2) 0 0
  refine pg_iload_n dX12_begins_112 rfl ?_
  refine pg_iconst 4 dX12_begins_113 rfl ?_
  refine pg_icmp_ge 137 dX12_begins_114 (by decide) (fun c20 => ?_) (fun c20 => ?_)
  · rw [if_pos c20] at h
    obtain rfl := Option.some.inj h
    exact hT _ rfl
  · rw [if_neg c20] at h
    refine pg_aload_n dX12_begins_117 rfl ?_
    refine eg_get dX12_begins_118 fa_X12_7 hS sp128 (Nat.le_of_ble_eq_true rfl) (Nat.le_of_ble_eq_true rfl) rfl rfl ?_
    refine pg_sipush 187 dX12_begins_121 rfl ?_
    refine pg_iconst 3 dX12_begins_124 rfl ?_
    refine pg_iload_n dX12_begins_125 rfl ?_
    refine pg_imul dX12_begins_126 ?_
    refine pg_iadd dX12_begins_127 ?_
    refine pg_bipush 100 dX12_begins_128 rfl ?_
    obtain ⟨g1, h⟩ := gd_at h
    refine eg_iastJ ((187 + (3 * s.1)).toNatClampNeg) dX12_begins_130 hS sp129 (Nat.le_of_ble_eq_true rfl) (Nat.le_of_ble_eq_true rfl) (fun _ _ _ => rfl) (inR_vp g1) rfl (fun m21 e_m21 => ?_)
    replace h := lt_at h e_m21
    obtain ⟨w22, e_w22⟩ : ∃ z : Int32, z = s.1 + 1 := ⟨_, rfl⟩
    replace h := lt_at h e_w22
    refine eg_iinc [some (.ref 128), some (.int v1), some (.int w22)] w22 1 dX12_begins_131 rfl rfl e_w22 rfl ?_
    refine pg_goto 112 dX12_begins_134 (by decide) ?_
    obtain rfl := Option.some.inj h
    exact hN _ rfl
set_option maxRecDepth 20000 in
set_option maxHeartbeats 4000000 in
theorem ct_X12_begins (hfl : g.1.stackTraces = false) (hS : pS 128 137 S) {v1 : Int32} {m0 : me} {x : me} (h : f_X12_begins v1 m0 = some x) : pm_Ct g mX12_begins [.ref 128, .int v1] (en S m0) 0 0 (qV S x) qF := by
  refine pm_of (by decide +kernel) rfl hfl (Nat.le_of_ble_eq_true rfl) (fun X hE => ?_)
  show pm_G g mX12_begins X 0 [some (.ref 128), some (.int v1), none] [] (en S m0) 0 0
  unfold f_X12_begins at h
  refine pg_iconst 0 dX12_begins_0 rfl ?_
  refine eg_istore_n [some (.ref 128), some (.int v1), some (.int 0)] 0 dX12_begins_1 rfl (Nat.le_of_ble_eq_true rfl) rfl ?_
  obtain ⟨s8, h_s8, h⟩ := bd_at h
  refine lo_at (b := b_X12_begins_2 v1) (G := (fun z9 : Int32 × me => pm_G g mX12_begins X 2 [some (.ref 128), some (.int v1), some (.int z9.1)] [] (en S z9.2) 0 0)) (T := (fun z9 : Int32 × me => pm_G g mX12_begins X 40 [some (.ref 128), some (.int v1), some (.int z9.1)] [] (en S z9.2) 0 0)) (fun q9 r9 h1 h2 h3 => lb_X12_begins_2 hfl hS h1 h2 h3) 2048 (0, m0) s8 h_s8 ?_
  show pm_G g mX12_begins X 40 [some (.ref 128), some (.int v1), some (.int s8.1)] [] (en S s8.2) 0 0
  refine pg_aload_n dX12_begins_40 rfl ?_
  refine eg_get dX12_begins_41 fa_X12_7 hS sp128 (Nat.le_of_ble_eq_true rfl) (Nat.le_of_ble_eq_true rfl) rfl rfl ?_
  refine pg_iconst 0 dX12_begins_44 rfl ?_
  refine pg_iload_n dX12_begins_45 rfl ?_
  refine eg_iastJ 0 dX12_begins_46 hS sp129 (Nat.le_of_ble_eq_true rfl) (Nat.le_of_ble_eq_true rfl) (fun _ _ _ => rfl) (inR_vp rfl) rfl (fun m9 e_m9 => ?_)
  replace h := lt_at h e_m9
  refine pg_iconst 0 dX12_begins_47 rfl ?_
  refine eg_istore_n [some (.ref 128), some (.int v1), some (.int 0)] 0 dX12_begins_48 rfl (Nat.le_of_ble_eq_true rfl) rfl ?_
  obtain ⟨s15, h_s15, h⟩ := bd_at h
  refine lo_at (b := b_X12_begins_49 v1) (G := (fun z9 : Int32 × me => pm_G g mX12_begins X 49 [some (.ref 128), some (.int v1), some (.int z9.1)] [] (en S z9.2) 0 0)) (T := (fun z9 : Int32 × me => pm_G g mX12_begins X 83 [some (.ref 128), some (.int v1), some (.int z9.1)] [] (en S z9.2) 0 0)) (fun q9 r9 h1 h2 h3 => lb_X12_begins_49 hfl hS h1 h2 h3) 2048 (0, m9) s15 h_s15 ?_
  show pm_G g mX12_begins X 83 [some (.ref 128), some (.int v1), some (.int s15.1)] [] (en S s15.2) 0 0
  refine pg_iconst 0 dX12_begins_83 rfl ?_
  refine eg_istore_n [some (.ref 128), some (.int v1), some (.int 0)] 0 dX12_begins_84 rfl (Nat.le_of_ble_eq_true rfl) rfl ?_
  obtain ⟨s19, h_s19, h⟩ := bd_at h
  refine lo_at (b := b_X12_begins_85 v1) (G := (fun z9 : Int32 × me => pm_G g mX12_begins X 85 [some (.ref 128), some (.int v1), some (.int z9.1)] [] (en S z9.2) 0 0)) (T := (fun z9 : Int32 × me => pm_G g mX12_begins X 110 [some (.ref 128), some (.int v1), some (.int z9.1)] [] (en S z9.2) 0 0)) (fun q9 r9 h1 h2 h3 => lb_X12_begins_85 hfl hS h1 h2 h3) 2048 (0, s15.2) s19 h_s19 ?_
  show pm_G g mX12_begins X 110 [some (.ref 128), some (.int v1), some (.int s19.1)] [] (en S s19.2) 0 0
  refine pg_iconst 0 dX12_begins_110 rfl ?_
  refine eg_istore_n [some (.ref 128), some (.int v1), some (.int 0)] 0 dX12_begins_111 rfl (Nat.le_of_ble_eq_true rfl) rfl ?_
  obtain ⟨s23, h_s23, h⟩ := bd_at h
  refine lo_at (b := b_X12_begins_112 v1) (G := (fun z9 : Int32 × me => pm_G g mX12_begins X 112 [some (.ref 128), some (.int v1), some (.int z9.1)] [] (en S z9.2) 0 0)) (T := (fun z9 : Int32 × me => pm_G g mX12_begins X 137 [some (.ref 128), some (.int v1), some (.int z9.1)] [] (en S z9.2) 0 0)) (fun q9 r9 h1 h2 h3 => lb_X12_begins_112 hfl hS h1 h2 h3) 2048 (0, s19.2) s23 h_s23 ?_
  show pm_G g mX12_begins X 137 [some (.ref 128), some (.int v1), some (.int s23.1)] [] (en S s23.2) 0 0
  obtain rfl := Option.some.inj h
  exact hE.2.2.1 _ _ _ _ _ dX12_begins_137 rfl (Nat.zero_le _) (Nat.zero_le _) ⟨rfl, rfl⟩
def f_X12_tells (v1 : Int32) (m0 : me) : Option (Int32 × me) :=
  lt (wI m0 128 6 0) (fun m1 =>
  some ((v1, m1)))
set_option maxRecDepth 20000 in
set_option maxHeartbeats 4000000 in
theorem ct_X12_tells (hfl : g.1.stackTraces = false) (hS : pS 128 137 S) {v1 : Int32} {m0 : me} {x : (Int32 × me)} (h : f_X12_tells v1 m0 = some x) : pm_Ct g mX12_tells [.ref 128, .int v1] (en S m0) 0 0 (qI S x) qF := by
  refine pm_of (by decide +kernel) rfl hfl (Nat.le_of_ble_eq_true rfl) (fun X hE => ?_)
  show pm_G g mX12_tells X 0 [some (.ref 128), some (.int v1)] [] (en S m0) 0 0
  unfold f_X12_tells at h
  refine pg_aload_n dX12_tells_0 rfl ?_
  refine pg_iconst 0 dX12_tells_1 rfl ?_
  refine eg_put dX12_tells_2 fa_X12_38 hS sp128 (Nat.le_of_ble_eq_true rfl) (Nat.le_of_ble_eq_true rfl) rfl (Nat.le_of_ble_eq_true rfl) rfl (fun m1 e_m1 => ?_)
  replace h := lt_at h e_m1
  refine pg_iload_n dX12_tells_5 rfl ?_
  obtain rfl := Option.some.inj h
  exact hE.2.1 _ _ _ _ _ _ .int dX12_tells_6 rfl rfl (Nat.zero_le _) (Nat.zero_le _) ⟨rfl, rfl⟩
def b_X12_ends_51 (v1 : Int32) (s : Int32 × me) : Option ((Int32 × me) ⊕ (Int32 × me)) :=
  if 487 ≤ s.1 then
    some (.inr (s.1, s.2))
  else
    gd (inR s.1 487) (
    gd (inR ((487 * (s.2.1 128 3)) + s.1) 1461) (
    lt (wI s.2 130 (((487 * (s.2.1 128 3)) + s.1).toNatClampNeg) (s.2.1 131 s.1.toNatClampNeg)) (fun m3 =>
    lt (s.1 + 1) (fun w4 =>
    some (.inl (w4, m3))))))
def j_X12_ends_49 (v1 : Int32) (m0 : me) : Option (Int32 × me) :=
  bd (lo (b_X12_ends_51 v1) 2048 (0, m0)) (fun s5 =>
  lt (wI s5.2 128 3 ((s5.2.1 128 3) + 1)) (fun m6 =>
  bd (f_X12_tells v1 m6) (fun r7 =>
  some ((r7.1, r7.2)))))
def b_X12_ends_10 (v1 : Int32) (s : Int32 × me) : Option ((Int32 × me) ⊕ (Int32 × me)) :=
  if 974 ≤ s.1 then
    some (.inr (s.1, s.2))
  else
    gd (inR (s.1 + 487) 1461) (
    gd (inR s.1 1461) (
    lt (wI s.2 130 s.1.toNatClampNeg (s.2.1 130 ((s.1 + 487).toNatClampNeg))) (fun m9 =>
    lt (s.1 + 1) (fun w10 =>
    some (.inl (w10, m9))))))
def f_X12_ends (v1 : Int32) (m0 : me) : Option (Int32 × me) :=
  if (m0.1 128 3) = 3 then
    bd (lo (b_X12_ends_10 v1) 2048 (0, m0)) (fun s11 =>
    lt (wI s11.2 128 3 ((s11.2.1 128 3) - 1)) (fun m12 =>
    j_X12_ends_49 v1 m12))
  else
    j_X12_ends_49 v1 m0
set_option maxRecDepth 20000 in
set_option maxHeartbeats 4000000 in
theorem lb_X12_ends_51 (hfl : g.1.stackTraces = false) (hS : pS 128 137 S) {v1 : Int32} {s : Int32 × me} {r : (Int32 × me) ⊕ (Int32 × me)} (h : b_X12_ends_51 v1 s = some r) (hN : ∀ s', r = .inl s' → (fun z9 : Int32 × me => pm_G g mX12_ends X 51 [some (.ref 128), some (.int v1), some (.int z9.1)] [] (en S z9.2) 0 0) s') (hT : ∀ t, r = .inr t → (fun z9 : Int32 × me => pm_G g mX12_ends X 85 [some (.ref 128), some (.int v1), some (.int z9.1)] [] (en S z9.2) 0 0) t) : (fun z9 : Int32 × me => pm_G g mX12_ends X 51 [some (.ref 128), some (.int v1), some (.int z9.1)] [] (en S z9.2) 0 0) s := by
  unfold b_X12_ends_51 at h
  show pm_G g mX12_ends X 51 [some (.ref 128), some (.int v1), some (.int s.1)] [] (en S s.2) 0 0
  refine pg_iload_n dX12_ends_51 rfl ?_
  refine pg_sipush 487 dX12_ends_52 rfl ?_
  refine pg_icmp_ge 85 dX12_ends_55 (by decide) (fun c2 => ?_) (fun c2 => ?_)
  · rw [if_pos c2] at h
    obtain rfl := Option.some.inj h
    exact hT _ rfl
  · rw [if_neg c2] at h
    refine pg_aload_n dX12_ends_58 rfl ?_
    refine eg_get dX12_ends_59 fa_X12_13 hS sp128 (Nat.le_of_ble_eq_true rfl) (Nat.le_of_ble_eq_true rfl) rfl rfl ?_
    refine pg_sipush 487 dX12_ends_62 rfl ?_
    refine pg_aload_n dX12_ends_65 rfl ?_
    refine eg_get dX12_ends_66 fa_X12_42 hS sp128 (Nat.le_of_ble_eq_true rfl) (Nat.le_of_ble_eq_true rfl) rfl rfl ?_
    refine pg_imul dX12_ends_69 ?_
    refine pg_iload_n dX12_ends_70 rfl ?_
    refine pg_iadd dX12_ends_71 ?_
    refine pg_aload_n dX12_ends_72 rfl ?_
    refine eg_get dX12_ends_73 fa_X12_16 hS sp128 (Nat.le_of_ble_eq_true rfl) (Nat.le_of_ble_eq_true rfl) rfl rfl ?_
    refine pg_iload_n dX12_ends_76 rfl ?_
    obtain ⟨g1, h⟩ := gd_at h
    refine eg_ialdJ s.1.toNatClampNeg dX12_ends_77 hS sp131 (Nat.le_of_ble_eq_true rfl) (Nat.le_of_ble_eq_true rfl) rfl (inR_vp g1) rfl ?_
    obtain ⟨g1, h⟩ := gd_at h
    refine eg_iastJ (((487 * (s.2.1 128 3)) + s.1).toNatClampNeg) dX12_ends_78 hS sp130 (Nat.le_of_ble_eq_true rfl) (Nat.le_of_ble_eq_true rfl) (fun _ _ _ => rfl) (inR_vp g1) rfl (fun m3 e_m3 => ?_)
    replace h := lt_at h e_m3
    obtain ⟨w4, e_w4⟩ : ∃ z : Int32, z = s.1 + 1 := ⟨_, rfl⟩
    replace h := lt_at h e_w4
    refine eg_iinc [some (.ref 128), some (.int v1), some (.int w4)] w4 1 dX12_ends_79 rfl rfl e_w4 rfl ?_
    refine pg_goto 51 dX12_ends_82 (by decide) ?_
    obtain rfl := Option.some.inj h
    exact hN _ rfl
set_option maxRecDepth 20000 in
set_option maxHeartbeats 4000000 in
theorem lj_X12_ends_49 (hfl : g.1.stackTraces = false) (hS : pS 128 137 S) {v1 : Int32} {m0 : me} {r : (Int32 × me)} (h : j_X12_ends_49 v1 m0 = some r) (hE : pm_End g mX12_ends X 0 0 (qI S r) qF) : pm_G g mX12_ends X 49 [some (.ref 128), some (.int v1), none] [] (en S m0) 0 0 := by
  unfold j_X12_ends_49 at h
  refine pg_iconst 0 dX12_ends_49 rfl ?_
  refine eg_istore_n [some (.ref 128), some (.int v1), some (.int 0)] 0 dX12_ends_50 rfl (Nat.le_of_ble_eq_true rfl) rfl ?_
  obtain ⟨s5, h_s5, h⟩ := bd_at h
  refine lo_at (b := b_X12_ends_51 v1) (G := (fun z9 : Int32 × me => pm_G g mX12_ends X 51 [some (.ref 128), some (.int v1), some (.int z9.1)] [] (en S z9.2) 0 0)) (T := (fun z9 : Int32 × me => pm_G g mX12_ends X 85 [some (.ref 128), some (.int v1), some (.int z9.1)] [] (en S z9.2) 0 0)) (fun q9 r9 h1 h2 h3 => lb_X12_ends_51 hfl hS h1 h2 h3) 2048 (0, m0) s5 h_s5 ?_
  show pm_G g mX12_ends X 85 [some (.ref 128), some (.int v1), some (.int s5.1)] [] (en S s5.2) 0 0
  refine pg_aload_n dX12_ends_85 rfl ?_
  refine pg_dup dX12_ends_86 rfl ?_
  refine eg_get dX12_ends_87 fa_X12_42 hS sp128 (Nat.le_of_ble_eq_true rfl) (Nat.le_of_ble_eq_true rfl) rfl rfl ?_
  refine pg_iconst 1 dX12_ends_90 rfl ?_
  refine pg_iadd dX12_ends_91 ?_
  refine eg_put dX12_ends_92 fa_X12_42 hS sp128 (Nat.le_of_ble_eq_true rfl) (Nat.le_of_ble_eq_true rfl) rfl (Nat.le_of_ble_eq_true rfl) rfl (fun m6 e_m6 => ?_)
  replace h := lt_at h e_m6
  refine pg_aload_n dX12_ends_95 rfl ?_
  refine pg_iload_n dX12_ends_96 rfl ?_
  obtain ⟨r7, h_r7, h⟩ := bd_at h
  refine eg_cVi (C := mX12_tells) (as := [(.int v1)]) dX12_ends_97 mw822 cv_X12_tells hS sp128 (Nat.le_of_ble_eq_true rfl) (Nat.le_of_ble_eq_true rfl) rfl rfl rfl (Nat.le_of_ble_eq_true rfl) rfl ⟨(Nat.le_of_ble_eq_true rfl), (Nat.le_of_ble_eq_true rfl)⟩ (ct_X12_tells hfl (hS.sub (Nat.le_of_ble_eq_true rfl) (Nat.le_of_ble_eq_true rfl)) h_r7) ?_
  obtain rfl := Option.some.inj h
  exact hE.2.1 _ _ _ _ _ _ .int dX12_ends_100 rfl rfl (Nat.zero_le _) (Nat.zero_le _) ⟨rfl, rfl⟩
set_option maxRecDepth 20000 in
set_option maxHeartbeats 4000000 in
theorem lb_X12_ends_10 (hfl : g.1.stackTraces = false) (hS : pS 128 137 S) {v1 : Int32} {s : Int32 × me} {r : (Int32 × me) ⊕ (Int32 × me)} (h : b_X12_ends_10 v1 s = some r) (hN : ∀ s', r = .inl s' → (fun z9 : Int32 × me => pm_G g mX12_ends X 10 [some (.ref 128), some (.int v1), some (.int z9.1)] [] (en S z9.2) 0 0) s') (hT : ∀ t, r = .inr t → (fun z9 : Int32 × me => pm_G g mX12_ends X 39 [some (.ref 128), some (.int v1), some (.int z9.1)] [] (en S z9.2) 0 0) t) : (fun z9 : Int32 × me => pm_G g mX12_ends X 10 [some (.ref 128), some (.int v1), some (.int z9.1)] [] (en S z9.2) 0 0) s := by
  unfold b_X12_ends_10 at h
  show pm_G g mX12_ends X 10 [some (.ref 128), some (.int v1), some (.int s.1)] [] (en S s.2) 0 0
  refine pg_iload_n dX12_ends_10 rfl ?_
  refine pg_sipush 974 dX12_ends_11 rfl ?_
  refine pg_icmp_ge 39 dX12_ends_14 (by decide) (fun c8 => ?_) (fun c8 => ?_)
  · rw [if_pos c8] at h
    obtain rfl := Option.some.inj h
    exact hT _ rfl
  · rw [if_neg c8] at h
    refine pg_aload_n dX12_ends_17 rfl ?_
    refine eg_get dX12_ends_18 fa_X12_13 hS sp128 (Nat.le_of_ble_eq_true rfl) (Nat.le_of_ble_eq_true rfl) rfl rfl ?_
    refine pg_iload_n dX12_ends_21 rfl ?_
    refine pg_aload_n dX12_ends_22 rfl ?_
    refine eg_get dX12_ends_23 fa_X12_13 hS sp128 (Nat.le_of_ble_eq_true rfl) (Nat.le_of_ble_eq_true rfl) rfl rfl ?_
    refine pg_iload_n dX12_ends_26 rfl ?_
    refine pg_sipush 487 dX12_ends_27 rfl ?_
    refine pg_iadd dX12_ends_30 ?_
    obtain ⟨g1, h⟩ := gd_at h
    refine eg_ialdJ ((s.1 + 487).toNatClampNeg) dX12_ends_31 hS sp130 (Nat.le_of_ble_eq_true rfl) (Nat.le_of_ble_eq_true rfl) rfl (inR_vp g1) rfl ?_
    obtain ⟨g1, h⟩ := gd_at h
    refine eg_iastJ s.1.toNatClampNeg dX12_ends_32 hS sp130 (Nat.le_of_ble_eq_true rfl) (Nat.le_of_ble_eq_true rfl) (fun _ _ _ => rfl) (inR_vp g1) rfl (fun m9 e_m9 => ?_)
    replace h := lt_at h e_m9
    obtain ⟨w10, e_w10⟩ : ∃ z : Int32, z = s.1 + 1 := ⟨_, rfl⟩
    replace h := lt_at h e_w10
    refine eg_iinc [some (.ref 128), some (.int v1), some (.int w10)] w10 1 dX12_ends_33 rfl rfl e_w10 rfl ?_
    refine pg_goto 10 dX12_ends_36 (by decide) ?_
    obtain rfl := Option.some.inj h
    exact hN _ rfl
set_option maxRecDepth 20000 in
set_option maxHeartbeats 4000000 in
theorem ct_X12_ends (hfl : g.1.stackTraces = false) (hS : pS 128 137 S) {v1 : Int32} {m0 : me} {x : (Int32 × me)} (h : f_X12_ends v1 m0 = some x) : pm_Ct g mX12_ends [.ref 128, .int v1] (en S m0) 0 0 (qI S x) qF := by
  refine pm_of (by decide +kernel) rfl hfl (Nat.le_of_ble_eq_true rfl) (fun X hE => ?_)
  show pm_G g mX12_ends X 0 [some (.ref 128), some (.int v1), none] [] (en S m0) 0 0
  unfold f_X12_ends at h
  refine pg_aload_n dX12_ends_0 rfl ?_
  refine eg_get dX12_ends_1 fa_X12_42 hS sp128 (Nat.le_of_ble_eq_true rfl) (Nat.le_of_ble_eq_true rfl) rfl rfl ?_
  refine pg_iconst 3 dX12_ends_4 rfl ?_
  refine pg_icmp_ne 49 dX12_ends_5 (by decide) (fun c1 => ?_) (fun c1 => ?_)
  · rw [if_neg c1] at h
    exact lj_X12_ends_49 hfl hS h hE
  · rw [if_pos c1] at h
    refine pg_iconst 0 dX12_ends_8 rfl ?_
    refine eg_istore_n [some (.ref 128), some (.int v1), some (.int 0)] 0 dX12_ends_9 rfl (Nat.le_of_ble_eq_true rfl) rfl ?_
    obtain ⟨s11, h_s11, h⟩ := bd_at h
    refine lo_at (b := b_X12_ends_10 v1) (G := (fun z9 : Int32 × me => pm_G g mX12_ends X 10 [some (.ref 128), some (.int v1), some (.int z9.1)] [] (en S z9.2) 0 0)) (T := (fun z9 : Int32 × me => pm_G g mX12_ends X 39 [some (.ref 128), some (.int v1), some (.int z9.1)] [] (en S z9.2) 0 0)) (fun q9 r9 h1 h2 h3 => lb_X12_ends_10 hfl hS h1 h2 h3) 2048 (0, m0) s11 h_s11 ?_
    show pm_G g mX12_ends X 39 [some (.ref 128), some (.int v1), some (.int s11.1)] [] (en S s11.2) 0 0
    refine pg_aload_n dX12_ends_39 rfl ?_
    refine pg_dup dX12_ends_40 rfl ?_
    refine eg_get dX12_ends_41 fa_X12_42 hS sp128 (Nat.le_of_ble_eq_true rfl) (Nat.le_of_ble_eq_true rfl) rfl rfl ?_
    refine pg_iconst 1 dX12_ends_44 rfl ?_
    refine pg_isub dX12_ends_45 ?_
    refine eg_put dX12_ends_46 fa_X12_42 hS sp128 (Nat.le_of_ble_eq_true rfl) (Nat.le_of_ble_eq_true rfl) rfl (Nat.le_of_ble_eq_true rfl) rfl (fun m12 e_m12 => ?_)
    replace h := lt_at h e_m12
    refine eg_forget [some (.ref 128), some (.int v1), none] (show pm_sub _ _ from ⟨rfl, ⟨rfl, trivial⟩⟩) ?_
    exact lj_X12_ends_49 hfl hS h hE
def f_X12_fails (v1 : Int32) (m0 : me) : Option (Int32 × me) :=
  lt (wI m0 128 6 v1) (fun m1 =>
  some ((0, m1)))
set_option maxRecDepth 20000 in
set_option maxHeartbeats 4000000 in
theorem ct_X12_fails (hfl : g.1.stackTraces = false) (hS : pS 128 137 S) {v1 : Int32} {m0 : me} {x : (Int32 × me)} (h : f_X12_fails v1 m0 = some x) : pm_Ct g mX12_fails [.ref 128, .int v1] (en S m0) 0 0 (qI S x) qF := by
  refine pm_of (by decide +kernel) rfl hfl (Nat.le_of_ble_eq_true rfl) (fun X hE => ?_)
  show pm_G g mX12_fails X 0 [some (.ref 128), some (.int v1)] [] (en S m0) 0 0
  unfold f_X12_fails at h
  refine pg_aload_n dX12_fails_0 rfl ?_
  refine pg_iload_n dX12_fails_1 rfl ?_
  refine eg_put dX12_fails_2 fa_X12_38 hS sp128 (Nat.le_of_ble_eq_true rfl) (Nat.le_of_ble_eq_true rfl) rfl (Nat.le_of_ble_eq_true rfl) rfl (fun m1 e_m1 => ?_)
  replace h := lt_at h e_m1
  refine pg_iconst 0 dX12_fails_5 rfl ?_
  obtain rfl := Option.some.inj h
  exact hE.2.1 _ _ _ _ _ _ .int dX12_fails_6 rfl rfl (Nat.zero_le _) (Nat.zero_le _) ⟨rfl, rfl⟩
def f_X12_setBridges (v1 : Int32) (m0 : me) : Option (Int32 × me) :=
  bd (f_X12_in v1 2 8 m0) (fun r1 =>
  if r1.1 = 0 then
    bd (f_X12_fails 1 r1.2) (fun r7 =>
    some ((r7.1, r7.2)))
  else
    bd (f_X12_hold r1.2) (fun r3 =>
    lt (r3.1 129 0) (fun w4 =>
    bd (f_X12_begins v1 r3) (fun r5 =>
    bd (f_X12_ends w4 r5) (fun r6 =>
    some ((r6.1, r6.2)))))))
set_option maxRecDepth 20000 in
set_option maxHeartbeats 4000000 in
theorem ct_X12_setBridges (hfl : g.1.stackTraces = false) (hS : pS 128 137 S) {v1 : Int32} {m0 : me} {x : (Int32 × me)} (h : f_X12_setBridges v1 m0 = some x) : pm_Ct g mX12_setBridges [.ref 128, .int v1] (en S m0) 0 0 (qI S x) qF := by
  refine pm_of (by decide +kernel) rfl hfl (Nat.le_of_ble_eq_true rfl) (fun X hE => ?_)
  show pm_G g mX12_setBridges X 0 [some (.ref 128), some (.int v1), none] [] (en S m0) 0 0
  unfold f_X12_setBridges at h
  refine pg_iload_n dX12_setBridges_0 rfl ?_
  refine pg_iconst 2 dX12_setBridges_1 rfl ?_
  refine pg_bipush 8 dX12_setBridges_2 rfl ?_
  obtain ⟨r1, h_r1, h⟩ := bd_at h
  refine eg_cSi (C := mX12_in) (as := [(.int v1), (.int 2), (.int 8)]) dX12_setBridges_4 mw786 cs_X12_in rfl rfl (Nat.le_of_ble_eq_true rfl) rfl ⟨(Nat.le_of_ble_eq_true rfl), (Nat.le_of_ble_eq_true rfl)⟩ (ct_X12_in hfl h_r1) ?_
  refine pg_if_ne 16 dX12_setBridges_7 (by decide) (fun c2 => ?_) (fun c2 => ?_)
  · rw [if_neg c2] at h
    refine pg_aload_n dX12_setBridges_16 rfl ?_
    obtain ⟨r3, h_r3, h⟩ := bd_at h
    refine eg_cVv (C := mX12_hold) (as := []) dX12_setBridges_17 mw811 cv_X12_hold hS sp128 (Nat.le_of_ble_eq_true rfl) (Nat.le_of_ble_eq_true rfl) rfl rfl rfl (Nat.le_of_ble_eq_true rfl) rfl ⟨(Nat.le_of_ble_eq_true rfl), (Nat.le_of_ble_eq_true rfl)⟩ (ct_X12_hold hfl (hS.sub (Nat.le_of_ble_eq_true rfl) (Nat.le_of_ble_eq_true rfl)) h_r3) ?_
    refine pg_aload_n dX12_setBridges_20 rfl ?_
    refine eg_get dX12_setBridges_21 fa_X12_7 hS sp128 (Nat.le_of_ble_eq_true rfl) (Nat.le_of_ble_eq_true rfl) rfl rfl ?_
    refine pg_iconst 0 dX12_setBridges_24 rfl ?_
    refine eg_ialdJ 0 dX12_setBridges_25 hS sp129 (Nat.le_of_ble_eq_true rfl) (Nat.le_of_ble_eq_true rfl) rfl (inR_vp rfl) rfl ?_
    obtain ⟨w4, e_w4⟩ : ∃ z : Int32, z = r3.1 129 0 := ⟨_, rfl⟩
    replace h := lt_at h e_w4
    refine eg_istore_n [some (.ref 128), some (.int v1), some (.int w4)] w4 dX12_setBridges_26 e_w4 (Nat.le_of_ble_eq_true rfl) rfl ?_
    refine pg_aload_n dX12_setBridges_27 rfl ?_
    refine pg_iload_n dX12_setBridges_28 rfl ?_
    obtain ⟨r5, h_r5, h⟩ := bd_at h
    refine eg_cVv (C := mX12_begins) (as := [(.int v1)]) dX12_setBridges_29 mw780 cv_X12_begins hS sp128 (Nat.le_of_ble_eq_true rfl) (Nat.le_of_ble_eq_true rfl) rfl rfl rfl (Nat.le_of_ble_eq_true rfl) rfl ⟨(Nat.le_of_ble_eq_true rfl), (Nat.le_of_ble_eq_true rfl)⟩ (ct_X12_begins hfl (hS.sub (Nat.le_of_ble_eq_true rfl) (Nat.le_of_ble_eq_true rfl)) h_r5) ?_
    refine pg_aload_n dX12_setBridges_32 rfl ?_
    refine pg_iload_n dX12_setBridges_33 rfl ?_
    obtain ⟨r6, h_r6, h⟩ := bd_at h
    refine eg_cVi (C := mX12_ends) (as := [(.int w4)]) dX12_setBridges_34 mw816 cv_X12_ends hS sp128 (Nat.le_of_ble_eq_true rfl) (Nat.le_of_ble_eq_true rfl) rfl rfl rfl (Nat.le_of_ble_eq_true rfl) rfl ⟨(Nat.le_of_ble_eq_true rfl), (Nat.le_of_ble_eq_true rfl)⟩ (ct_X12_ends hfl (hS.sub (Nat.le_of_ble_eq_true rfl) (Nat.le_of_ble_eq_true rfl)) h_r6) ?_
    obtain rfl := Option.some.inj h
    exact hE.2.1 _ _ _ _ _ _ .int dX12_setBridges_37 rfl rfl (Nat.zero_le _) (Nat.zero_le _) ⟨rfl, rfl⟩
  · rw [if_pos c2] at h
    refine pg_aload_n dX12_setBridges_10 rfl ?_
    refine pg_iconst 1 dX12_setBridges_11 rfl ?_
    obtain ⟨r7, h_r7, h⟩ := bd_at h
    refine eg_cVi (C := mX12_fails) (as := [(.int 1)]) dX12_setBridges_12 mw806 cv_X12_fails hS sp128 (Nat.le_of_ble_eq_true rfl) (Nat.le_of_ble_eq_true rfl) rfl rfl rfl (Nat.le_of_ble_eq_true rfl) rfl ⟨(Nat.le_of_ble_eq_true rfl), (Nat.le_of_ble_eq_true rfl)⟩ (ct_X12_fails hfl (hS.sub (Nat.le_of_ble_eq_true rfl) (Nat.le_of_ble_eq_true rfl)) h_r7) ?_
    obtain rfl := Option.some.inj h
    exact hE.2.1 _ _ _ _ _ _ .int dX12_setBridges_15 rfl rfl (Nat.zero_le _) (Nat.zero_le _) ⟨rfl, rfl⟩
def j_X12_setTimes_30 (m0 : me) : Option (Int32 × me) :=
  bd (f_X12_fails 1 m0) (fun r3 =>
  some ((r3.1, r3.2)))
def f_X12_setTimes (v1 : Int32) (v2 : Int32) (v3 : Int32) (m0 : me) : Option (Int32 × me) :=
  bd (f_X12_in v1 1 20 m0) (fun r1 =>
  if r1.1 = 0 then
    j_X12_setTimes_30 r1.2
  else
    bd (f_X12_in v2 5 100 r1.2) (fun r4 =>
    if r4.1 = 0 then
      j_X12_setTimes_30 r4.2
    else
      bd (f_X12_in v3 0 100 r4.2) (fun r6 =>
      if r6.1 = 0 then
        j_X12_setTimes_30 r6.2
      else
        bd (f_X12_hold r6.2) (fun r8 =>
        lt (r8.1 129 3) (fun w9 =>
        lt (wI r8 129 2 v1) (fun m10 =>
        lt (wI m10 129 3 v2) (fun m11 =>
        lt (wI m11 129 4 v3) (fun m12 =>
        bd (f_X12_ends w9 m12) (fun r13 =>
        some ((r13.1, r13.2)))))))))))
set_option maxRecDepth 20000 in
set_option maxHeartbeats 4000000 in
theorem lj_X12_setTimes_30 (hfl : g.1.stackTraces = false) (hS : pS 128 137 S) {m0 : me} {r : (Int32 × me)} (h : j_X12_setTimes_30 m0 = some r) (hE : pm_End g mX12_setTimes X 0 0 (qI S r) qF) : pm_G g mX12_setTimes X 30 [some (.ref 128), none, none, none, none] [] (en S m0) 0 0 := by
  unfold j_X12_setTimes_30 at h
  refine pg_aload_n dX12_setTimes_30 rfl ?_
  refine pg_iconst 1 dX12_setTimes_31 rfl ?_
  obtain ⟨r3, h_r3, h⟩ := bd_at h
  refine eg_cVi (C := mX12_fails) (as := [(.int 1)]) dX12_setTimes_32 mw806 cv_X12_fails hS sp128 (Nat.le_of_ble_eq_true rfl) (Nat.le_of_ble_eq_true rfl) rfl rfl rfl (Nat.le_of_ble_eq_true rfl) rfl ⟨(Nat.le_of_ble_eq_true rfl), (Nat.le_of_ble_eq_true rfl)⟩ (ct_X12_fails hfl (hS.sub (Nat.le_of_ble_eq_true rfl) (Nat.le_of_ble_eq_true rfl)) h_r3) ?_
  obtain rfl := Option.some.inj h
  exact hE.2.1 _ _ _ _ _ _ .int dX12_setTimes_35 rfl rfl (Nat.zero_le _) (Nat.zero_le _) ⟨rfl, rfl⟩
set_option maxRecDepth 20000 in
set_option maxHeartbeats 4000000 in
theorem ct_X12_setTimes (hfl : g.1.stackTraces = false) (hS : pS 128 137 S) {v1 : Int32} {v2 : Int32} {v3 : Int32} {m0 : me} {x : (Int32 × me)} (h : f_X12_setTimes v1 v2 v3 m0 = some x) : pm_Ct g mX12_setTimes [.ref 128, .int v1, .int v2, .int v3] (en S m0) 0 0 (qI S x) qF := by
  refine pm_of (by decide +kernel) rfl hfl (Nat.le_of_ble_eq_true rfl) (fun X hE => ?_)
  show pm_G g mX12_setTimes X 0 [some (.ref 128), some (.int v1), some (.int v2), some (.int v3), none] [] (en S m0) 0 0
  unfold f_X12_setTimes at h
  refine pg_iload_n dX12_setTimes_0 rfl ?_
  refine pg_iconst 1 dX12_setTimes_1 rfl ?_
  refine pg_bipush 20 dX12_setTimes_2 rfl ?_
  obtain ⟨r1, h_r1, h⟩ := bd_at h
  refine eg_cSi (C := mX12_in) (as := [(.int v1), (.int 1), (.int 20)]) dX12_setTimes_4 mw786 cs_X12_in rfl rfl (Nat.le_of_ble_eq_true rfl) rfl ⟨(Nat.le_of_ble_eq_true rfl), (Nat.le_of_ble_eq_true rfl)⟩ (ct_X12_in hfl h_r1) ?_
  refine pg_if_eq 30 dX12_setTimes_7 (by decide) (fun c2 => ?_) (fun c2 => ?_)
  · rw [if_pos c2] at h
    refine eg_forget [some (.ref 128), none, none, none, none] (show pm_sub _ _ from ⟨rfl, trivial⟩) ?_
    exact lj_X12_setTimes_30 hfl hS h hE
  · rw [if_neg c2] at h
    refine pg_iload_n dX12_setTimes_10 rfl ?_
    refine pg_iconst 5 dX12_setTimes_11 rfl ?_
    refine pg_bipush 100 dX12_setTimes_12 rfl ?_
    obtain ⟨r4, h_r4, h⟩ := bd_at h
    refine eg_cSi (C := mX12_in) (as := [(.int v2), (.int 5), (.int 100)]) dX12_setTimes_14 mw786 cs_X12_in rfl rfl (Nat.le_of_ble_eq_true rfl) rfl ⟨(Nat.le_of_ble_eq_true rfl), (Nat.le_of_ble_eq_true rfl)⟩ (ct_X12_in hfl h_r4) ?_
    refine pg_if_eq 30 dX12_setTimes_17 (by decide) (fun c5 => ?_) (fun c5 => ?_)
    · rw [if_pos c5] at h
      refine eg_forget [some (.ref 128), none, none, none, none] (show pm_sub _ _ from ⟨rfl, trivial⟩) ?_
      exact lj_X12_setTimes_30 hfl hS h hE
    · rw [if_neg c5] at h
      refine pg_iload_n dX12_setTimes_20 rfl ?_
      refine pg_iconst 0 dX12_setTimes_21 rfl ?_
      refine pg_bipush 100 dX12_setTimes_22 rfl ?_
      obtain ⟨r6, h_r6, h⟩ := bd_at h
      refine eg_cSi (C := mX12_in) (as := [(.int v3), (.int 0), (.int 100)]) dX12_setTimes_24 mw786 cs_X12_in rfl rfl (Nat.le_of_ble_eq_true rfl) rfl ⟨(Nat.le_of_ble_eq_true rfl), (Nat.le_of_ble_eq_true rfl)⟩ (ct_X12_in hfl h_r6) ?_
      refine pg_if_ne 36 dX12_setTimes_27 (by decide) (fun c7 => ?_) (fun c7 => ?_)
      · rw [if_neg c7] at h
        refine pg_aload_n dX12_setTimes_36 rfl ?_
        obtain ⟨r8, h_r8, h⟩ := bd_at h
        refine eg_cVv (C := mX12_hold) (as := []) dX12_setTimes_37 mw811 cv_X12_hold hS sp128 (Nat.le_of_ble_eq_true rfl) (Nat.le_of_ble_eq_true rfl) rfl rfl rfl (Nat.le_of_ble_eq_true rfl) rfl ⟨(Nat.le_of_ble_eq_true rfl), (Nat.le_of_ble_eq_true rfl)⟩ (ct_X12_hold hfl (hS.sub (Nat.le_of_ble_eq_true rfl) (Nat.le_of_ble_eq_true rfl)) h_r8) ?_
        refine pg_aload_n dX12_setTimes_40 rfl ?_
        refine eg_get dX12_setTimes_41 fa_X12_7 hS sp128 (Nat.le_of_ble_eq_true rfl) (Nat.le_of_ble_eq_true rfl) rfl rfl ?_
        refine pg_iconst 3 dX12_setTimes_44 rfl ?_
        refine eg_ialdJ 3 dX12_setTimes_45 hS sp129 (Nat.le_of_ble_eq_true rfl) (Nat.le_of_ble_eq_true rfl) rfl (inR_vp rfl) rfl ?_
        obtain ⟨w9, e_w9⟩ : ∃ z : Int32, z = r8.1 129 3 := ⟨_, rfl⟩
        replace h := lt_at h e_w9
        refine eg_istore [some (.ref 128), some (.int v1), some (.int v2), some (.int v3), some (.int w9)] w9 dX12_setTimes_46 e_w9 (Nat.le_of_ble_eq_true rfl) rfl ?_
        refine pg_aload_n dX12_setTimes_48 rfl ?_
        refine eg_get dX12_setTimes_49 fa_X12_7 hS sp128 (Nat.le_of_ble_eq_true rfl) (Nat.le_of_ble_eq_true rfl) rfl rfl ?_
        refine pg_iconst 2 dX12_setTimes_52 rfl ?_
        refine pg_iload_n dX12_setTimes_53 rfl ?_
        refine eg_iastJ 2 dX12_setTimes_54 hS sp129 (Nat.le_of_ble_eq_true rfl) (Nat.le_of_ble_eq_true rfl) (fun _ _ _ => rfl) (inR_vp rfl) rfl (fun m10 e_m10 => ?_)
        replace h := lt_at h e_m10
        refine pg_aload_n dX12_setTimes_55 rfl ?_
        refine eg_get dX12_setTimes_56 fa_X12_7 hS sp128 (Nat.le_of_ble_eq_true rfl) (Nat.le_of_ble_eq_true rfl) rfl rfl ?_
        refine pg_iconst 3 dX12_setTimes_59 rfl ?_
        refine pg_iload_n dX12_setTimes_60 rfl ?_
        refine eg_iastJ 3 dX12_setTimes_61 hS sp129 (Nat.le_of_ble_eq_true rfl) (Nat.le_of_ble_eq_true rfl) (fun _ _ _ => rfl) (inR_vp rfl) rfl (fun m11 e_m11 => ?_)
        replace h := lt_at h e_m11
        refine pg_aload_n dX12_setTimes_62 rfl ?_
        refine eg_get dX12_setTimes_63 fa_X12_7 hS sp128 (Nat.le_of_ble_eq_true rfl) (Nat.le_of_ble_eq_true rfl) rfl rfl ?_
        refine pg_iconst 4 dX12_setTimes_66 rfl ?_
        refine pg_iload_n dX12_setTimes_67 rfl ?_
        refine eg_iastJ 4 dX12_setTimes_68 hS sp129 (Nat.le_of_ble_eq_true rfl) (Nat.le_of_ble_eq_true rfl) (fun _ _ _ => rfl) (inR_vp rfl) rfl (fun m12 e_m12 => ?_)
        replace h := lt_at h e_m12
        refine pg_aload_n dX12_setTimes_69 rfl ?_
        refine pg_iload dX12_setTimes_70 rfl ?_
        obtain ⟨r13, h_r13, h⟩ := bd_at h
        refine eg_cVi (C := mX12_ends) (as := [(.int w9)]) dX12_setTimes_72 mw816 cv_X12_ends hS sp128 (Nat.le_of_ble_eq_true rfl) (Nat.le_of_ble_eq_true rfl) rfl rfl rfl (Nat.le_of_ble_eq_true rfl) rfl ⟨(Nat.le_of_ble_eq_true rfl), (Nat.le_of_ble_eq_true rfl)⟩ (ct_X12_ends hfl (hS.sub (Nat.le_of_ble_eq_true rfl) (Nat.le_of_ble_eq_true rfl)) h_r13) ?_
        obtain rfl := Option.some.inj h
        exact hE.2.1 _ _ _ _ _ _ .int dX12_setTimes_75 rfl rfl (Nat.zero_le _) (Nat.zero_le _) ⟨rfl, rfl⟩
      · rw [if_pos c7] at h
        refine eg_forget [some (.ref 128), none, none, none, none] (show pm_sub _ _ from ⟨rfl, trivial⟩) ?_
        exact lj_X12_setTimes_30 hfl hS h hE
def f_X12_isBridge (v1 : Int32) (m0 : me) : Option (Int32 × me) :=
  bd (f_X12_in v1 0 ((m0.1 129 0) - 1) m0) (fun r1 =>
  gd (isB r1.1) (
  some ((r1.1, r1.2))))
set_option maxRecDepth 20000 in
set_option maxHeartbeats 4000000 in
theorem ct_X12_isBridge (hfl : g.1.stackTraces = false) (hS : pS 128 137 S) {v1 : Int32} {m0 : me} {x : (Int32 × me)} (h : f_X12_isBridge v1 m0 = some x) : pm_Ct g mX12_isBridge [.ref 128, .int v1] (en S m0) 0 0 (qI S x) qF := by
  refine pm_of (by decide +kernel) rfl hfl (Nat.le_of_ble_eq_true rfl) (fun X hE => ?_)
  show pm_G g mX12_isBridge X 0 [some (.ref 128), some (.int v1)] [] (en S m0) 0 0
  unfold f_X12_isBridge at h
  refine pg_iload_n dX12_isBridge_0 rfl ?_
  refine pg_iconst 0 dX12_isBridge_1 rfl ?_
  refine pg_aload_n dX12_isBridge_2 rfl ?_
  refine eg_get dX12_isBridge_3 fa_X12_7 hS sp128 (Nat.le_of_ble_eq_true rfl) (Nat.le_of_ble_eq_true rfl) rfl rfl ?_
  refine pg_iconst 0 dX12_isBridge_6 rfl ?_
  refine eg_ialdJ 0 dX12_isBridge_7 hS sp129 (Nat.le_of_ble_eq_true rfl) (Nat.le_of_ble_eq_true rfl) rfl (inR_vp rfl) rfl ?_
  refine pg_iconst 1 dX12_isBridge_8 rfl ?_
  refine pg_isub dX12_isBridge_9 ?_
  obtain ⟨r1, h_r1, h⟩ := bd_at h
  refine eg_cSi (C := mX12_in) (as := [(.int v1), (.int 0), (.int ((m0.1 129 0) - 1))]) dX12_isBridge_10 mw786 cs_X12_in rfl rfl (Nat.le_of_ble_eq_true rfl) rfl ⟨(Nat.le_of_ble_eq_true rfl), (Nat.le_of_ble_eq_true rfl)⟩ (ct_X12_in hfl h_r1) ?_
  obtain ⟨g1, h⟩ := gd_at h
  obtain rfl := Option.some.inj h
  exact hE.2.1 _ _ _ _ _ _ .boolean dX12_isBridge_13 rfl (isB_nar g1) (Nat.zero_le _) (Nat.zero_le _) ⟨rfl, rfl⟩
end
