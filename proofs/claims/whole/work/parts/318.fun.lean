section
variable {g : pm_Gl} {X : pm_X} {S : List sF}
def j_X0_adjustCost_66 (v1 : Int32) (v3 : Int32) (m0 : me) : Option me :=
  gd (inR v1 16) (
  lt (wI m0 15 v1.toNatClampNeg v3) (fun m6 =>
  gd (inR v1 16) (
  lt (wI m6 19 v1.toNatClampNeg 0) (fun m7 =>
  some (m7)))))
def j_X0_adjustCost_49 (v1 : Int32) (v2 : Int32) (v3 : Int32) (v4 : Int32) (u1 : Int32) (u2 : Int32) (m0 : me) : Option me :=
  gd (inR u1 16) (
  lt (wI m0 19 u1.toNatClampNeg u2) (fun m4 =>
  if v2 < v4 then
    j_X0_adjustCost_66 v1 v3 m4
  else
    gd (inR v1 16) (
    if (m4.1 19 v1.toNatClampNeg) < 3 then
      some (m4)
    else
      j_X0_adjustCost_66 v1 v3 m4)))
def f_X0_adjustCost (v1 : Int32) (v2 : Int32) (m0 : me) : Option me :=
  gd (inR v1 16) (
  gd (inR v1 16) (
  lt ((m0.1 14 v1.toNatClampNeg) + (m0.1 18 v1.toNatClampNeg)) (fun w1 =>
  gd (inR v1 16) (
  lt (if 0 ≤ (w1 - (m0.1 15 v1.toNatClampNeg)) then (w1 - (m0.1 15 v1.toNatClampNeg)) else 0 - (w1 - (m0.1 15 v1.toNatClampNeg))) (fun w2 =>
  if w2 = 0 then
    j_X0_adjustCost_49 v1 v2 w1 w2 v1 0 m0
  else
    gd (inR v1 16) (
    j_X0_adjustCost_49 v1 v2 w1 w2 v1 ((m0.1 19 v1.toNatClampNeg) + 1) m0))))))
set_option maxRecDepth 20000 in
set_option maxHeartbeats 4000000 in
theorem lj_X0_adjustCost_66 (hfl : g.1.stackTraces = false) (hS : pS 1 28 S) {v1 : Int32} {v3 : Int32} {m0 : me} {r : me} (h : j_X0_adjustCost_66 v1 v3 m0 = some r) (hE : pm_End g mX0_adjustCost X 0 0 (qV S r) qF) : pm_G g mX0_adjustCost X 66 [some (.ref 11), some (.int v1), none, some (.int v3), none] [] (en S m0) 0 0 := by
  unfold j_X0_adjustCost_66 at h
  refine pg_aload_n dX0_adjustCost_66 rfl ?_
  refine eg_get dX0_adjustCost_67 fa_X0_67 hS sp11 (Nat.le_of_ble_eq_true rfl) (Nat.le_of_ble_eq_true rfl) rfl rfl ?_
  refine pg_iload_n dX0_adjustCost_70 rfl ?_
  refine pg_iload_n dX0_adjustCost_71 rfl ?_
  obtain ⟨g1, h⟩ := gd_at h
  refine eg_iastJ v1.toNatClampNeg dX0_adjustCost_72 hS sp15 (Nat.le_of_ble_eq_true rfl) (Nat.le_of_ble_eq_true rfl) (fun _ _ _ => rfl) (inR_vp g1) rfl (fun m6 e_m6 => ?_)
  replace h := lt_at h e_m6
  refine pg_aload_n dX0_adjustCost_73 rfl ?_
  refine eg_get dX0_adjustCost_74 fa_X0_76 hS sp11 (Nat.le_of_ble_eq_true rfl) (Nat.le_of_ble_eq_true rfl) rfl rfl ?_
  refine pg_iload_n dX0_adjustCost_77 rfl ?_
  refine pg_iconst 0 dX0_adjustCost_78 rfl ?_
  obtain ⟨g1, h⟩ := gd_at h
  refine eg_iastJ v1.toNatClampNeg dX0_adjustCost_79 hS sp19 (Nat.le_of_ble_eq_true rfl) (Nat.le_of_ble_eq_true rfl) (fun _ _ _ => rfl) (inR_vp g1) rfl (fun m7 e_m7 => ?_)
  replace h := lt_at h e_m7
  obtain rfl := Option.some.inj h
  exact hE.2.2.1 _ _ _ _ _ dX0_adjustCost_80 rfl (Nat.zero_le _) (Nat.zero_le _) ⟨rfl, rfl⟩
set_option maxRecDepth 20000 in
set_option maxHeartbeats 4000000 in
theorem lj_X0_adjustCost_49 (hfl : g.1.stackTraces = false) (hS : pS 1 28 S) {v1 : Int32} {v2 : Int32} {v3 : Int32} {v4 : Int32} {u1 : Int32} {u2 : Int32} {m0 : me} {r : me} (h : j_X0_adjustCost_49 v1 v2 v3 v4 u1 u2 m0 = some r) (hE : pm_End g mX0_adjustCost X 0 0 (qV S r) qF) : pm_G g mX0_adjustCost X 49 [some (.ref 11), some (.int v1), some (.int v2), some (.int v3), some (.int v4)] [(.int u2), (.int u1), (.ref 19)] (en S m0) 0 0 := by
  unfold j_X0_adjustCost_49 at h
  obtain ⟨g1, h⟩ := gd_at h
  refine eg_iastJ u1.toNatClampNeg dX0_adjustCost_49 hS sp19 (Nat.le_of_ble_eq_true rfl) (Nat.le_of_ble_eq_true rfl) (fun _ _ _ => rfl) (inR_vp g1) rfl (fun m4 e_m4 => ?_)
  replace h := lt_at h e_m4
  refine pg_iload dX0_adjustCost_50 rfl ?_
  refine pg_iload_n dX0_adjustCost_52 rfl ?_
  refine pg_icmp_gt 66 dX0_adjustCost_53 (by decide) (fun c5 => ?_) (fun c5 => ?_)
  · rw [if_pos c5] at h
    refine eg_forget [some (.ref 11), some (.int v1), none, some (.int v3), none] (show pm_sub _ _ from ⟨rfl, ⟨rfl, ⟨rfl, trivial⟩⟩⟩) ?_
    exact lj_X0_adjustCost_66 hfl hS h hE
  · rw [if_neg c5] at h
    refine pg_aload_n dX0_adjustCost_56 rfl ?_
    refine eg_get dX0_adjustCost_57 fa_X0_76 hS sp11 (Nat.le_of_ble_eq_true rfl) (Nat.le_of_ble_eq_true rfl) rfl rfl ?_
    refine pg_iload_n dX0_adjustCost_60 rfl ?_
    obtain ⟨g1, h⟩ := gd_at h
    refine eg_ialdJ v1.toNatClampNeg dX0_adjustCost_61 hS sp19 (Nat.le_of_ble_eq_true rfl) (Nat.le_of_ble_eq_true rfl) rfl (inR_vp g1) rfl ?_
    refine pg_iconst 3 dX0_adjustCost_62 rfl ?_
    refine pg_icmp_lt 80 dX0_adjustCost_63 (by decide) (fun c8 => ?_) (fun c8 => ?_)
    · rw [if_pos c8] at h
      obtain rfl := Option.some.inj h
      exact hE.2.2.1 _ _ _ _ _ dX0_adjustCost_80 rfl (Nat.zero_le _) (Nat.zero_le _) ⟨rfl, rfl⟩
    · rw [if_neg c8] at h
      refine eg_forget [some (.ref 11), some (.int v1), none, some (.int v3), none] (show pm_sub _ _ from ⟨rfl, ⟨rfl, ⟨rfl, trivial⟩⟩⟩) ?_
      exact lj_X0_adjustCost_66 hfl hS h hE
set_option maxRecDepth 20000 in
set_option maxHeartbeats 4000000 in
theorem ct_X0_adjustCost (hfl : g.1.stackTraces = false) (hS : pS 1 28 S) {v1 : Int32} {v2 : Int32} {m0 : me} {x : me} (h : f_X0_adjustCost v1 v2 m0 = some x) : pm_Ct g mX0_adjustCost [.ref 11, .int v1, .int v2] (en S m0) 0 0 (qV S x) qF := by
  refine pm_of (by decide +kernel) rfl hfl (Nat.le_of_ble_eq_true rfl) (fun X hE => ?_)
  show pm_G g mX0_adjustCost X 0 [some (.ref 11), some (.int v1), some (.int v2), none, none] [] (en S m0) 0 0
  unfold f_X0_adjustCost at h
  refine pg_aload_n dX0_adjustCost_0 rfl ?_
  refine eg_get dX0_adjustCost_1 fa_X0_64 hS sp11 (Nat.le_of_ble_eq_true rfl) (Nat.le_of_ble_eq_true rfl) rfl rfl ?_
  refine pg_iload_n dX0_adjustCost_4 rfl ?_
  obtain ⟨g1, h⟩ := gd_at h
  refine eg_ialdJ v1.toNatClampNeg dX0_adjustCost_5 hS sp14 (Nat.le_of_ble_eq_true rfl) (Nat.le_of_ble_eq_true rfl) rfl (inR_vp g1) rfl ?_
  refine pg_aload_n dX0_adjustCost_6 rfl ?_
  refine eg_get dX0_adjustCost_7 fa_X0_50 hS sp11 (Nat.le_of_ble_eq_true rfl) (Nat.le_of_ble_eq_true rfl) rfl rfl ?_
  refine pg_iload_n dX0_adjustCost_10 rfl ?_
  obtain ⟨g1, h⟩ := gd_at h
  refine eg_ialdJ v1.toNatClampNeg dX0_adjustCost_11 hS sp18 (Nat.le_of_ble_eq_true rfl) (Nat.le_of_ble_eq_true rfl) rfl (inR_vp g1) rfl ?_
  refine pg_iadd dX0_adjustCost_12 ?_
  obtain ⟨w1, e_w1⟩ : ∃ z : Int32, z = (m0.1 14 v1.toNatClampNeg) + (m0.1 18 v1.toNatClampNeg) := ⟨_, rfl⟩
  replace h := lt_at h e_w1
  refine eg_istore_n [some (.ref 11), some (.int v1), some (.int v2), some (.int w1), none] w1 dX0_adjustCost_13 e_w1 (Nat.le_of_ble_eq_true rfl) rfl ?_
  refine pg_iload_n dX0_adjustCost_14 rfl ?_
  refine pg_aload_n dX0_adjustCost_15 rfl ?_
  refine eg_get dX0_adjustCost_16 fa_X0_67 hS sp11 (Nat.le_of_ble_eq_true rfl) (Nat.le_of_ble_eq_true rfl) rfl rfl ?_
  refine pg_iload_n dX0_adjustCost_19 rfl ?_
  obtain ⟨g1, h⟩ := gd_at h
  refine eg_ialdJ v1.toNatClampNeg dX0_adjustCost_20 hS sp15 (Nat.le_of_ble_eq_true rfl) (Nat.le_of_ble_eq_true rfl) rfl (inR_vp g1) rfl ?_
  refine pg_isub dX0_adjustCost_21 ?_
  refine pg_abs dX0_adjustCost_22 mw452 mw453 mw393 mw454 rfl (Nat.le_of_ble_eq_true rfl) (Nat.le_of_ble_eq_true rfl) (Nat.zero_le _) (Nat.zero_le _) ?_
  obtain ⟨w2, e_w2⟩ : ∃ z : Int32, z = if 0 ≤ (w1 - (m0.1 15 v1.toNatClampNeg)) then (w1 - (m0.1 15 v1.toNatClampNeg)) else 0 - (w1 - (m0.1 15 v1.toNatClampNeg)) := ⟨_, rfl⟩
  replace h := lt_at h e_w2
  refine eg_istore [some (.ref 11), some (.int v1), some (.int v2), some (.int w1), some (.int w2)] w2 dX0_adjustCost_25 e_w2 (Nat.le_of_ble_eq_true rfl) rfl ?_
  refine pg_aload_n dX0_adjustCost_27 rfl ?_
  refine eg_get dX0_adjustCost_28 fa_X0_76 hS sp11 (Nat.le_of_ble_eq_true rfl) (Nat.le_of_ble_eq_true rfl) rfl rfl ?_
  refine pg_iload_n dX0_adjustCost_31 rfl ?_
  refine pg_iload dX0_adjustCost_32 rfl ?_
  refine pg_if_ne 41 dX0_adjustCost_34 (by decide) (fun c3 => ?_) (fun c3 => ?_)
  · rw [if_neg c3] at h
    refine pg_aload_n dX0_adjustCost_41 rfl ?_
    refine eg_get dX0_adjustCost_42 fa_X0_76 hS sp11 (Nat.le_of_ble_eq_true rfl) (Nat.le_of_ble_eq_true rfl) rfl rfl ?_
    refine pg_iload_n dX0_adjustCost_45 rfl ?_
    obtain ⟨g1, h⟩ := gd_at h
    refine eg_ialdJ v1.toNatClampNeg dX0_adjustCost_46 hS sp19 (Nat.le_of_ble_eq_true rfl) (Nat.le_of_ble_eq_true rfl) rfl (inR_vp g1) rfl ?_
    refine pg_iconst 1 dX0_adjustCost_47 rfl ?_
    refine pg_iadd dX0_adjustCost_48 ?_
    exact lj_X0_adjustCost_49 hfl hS h hE
  · rw [if_pos c3] at h
    refine pg_iconst 0 dX0_adjustCost_37 rfl ?_
    refine pg_goto 49 dX0_adjustCost_38 (by decide) ?_
    exact lj_X0_adjustCost_49 hfl hS h hE
def b_X0_hold_12 (s : Int32 × me) : Option ((Int32 × me) ⊕ (Int32 × me)) :=
  if 4 ≤ s.1 then
    some (.inr (s.1, s.2))
  else
    gd (inR s.1 4) (
    gd (inR s.1 4) (
    lt (wI s.2 24 s.1.toNatClampNeg (((9 * (s.2.1 24 s.1.toNatClampNeg)) / 10) + 20)) (fun m3 =>
    lt (s.1 + 1) (fun w4 =>
    some (.inl (w4, m3))))))
def b_X0_hold_52 (s : Int32 × me) : Option ((Int32 × me) ⊕ (Int32 × me)) :=
  if (s.2.1 11 0) ≤ s.1 then
    some (.inr (s.1, s.2))
  else
    bd (f_X0_sell s.1 s.2) (fun r7 =>
    lt (s.1 + 1) (fun w8 =>
    some (.inl (w8, r7))))
def b_X0_hold_83 (s : Int32 × me) : Option ((Int32 × me) ⊕ (Int32 × me)) :=
  if (s.2.1 11 0) ≤ s.1 then
    some (.inr (s.1, s.2))
  else
    bd (f_X0_adjustCost s.1 (s.2.1 1 4) s.2) (fun r11 =>
    lt (s.1 + 1) (fun w12 =>
    some (.inl (w12, r11))))
def f_X0_hold (m0 : me) : Option me :=
  lt (wI m0 1 5 ((m0.1 1 5) + 1)) (fun m1 =>
  bd (lo (b_X0_hold_12) 2048 (0, m1)) (fun s5 =>
  bd (lo (b_X0_hold_52) 2048 (0, s5.2)) (fun s9 =>
  bd (lo (b_X0_hold_83) 2048 (0, s9.2)) (fun s13 =>
  some (s13.2)))))
set_option maxRecDepth 20000 in
set_option maxHeartbeats 4000000 in
theorem lb_X0_hold_12 (hfl : g.1.stackTraces = false) (hS : pS 1 28 S) {s : Int32 × me} {r : (Int32 × me) ⊕ (Int32 × me)} (h : b_X0_hold_12 s = some r) (hN : ∀ s', r = .inl s' → (fun z9 : Int32 × me => pm_G g mX0_hold X 12 [some (.ref 1), some (.int z9.1)] [] (en S z9.2) 0 0) s') (hT : ∀ t, r = .inr t → (fun z9 : Int32 × me => pm_G g mX0_hold X 50 [some (.ref 1), some (.int z9.1)] [] (en S z9.2) 0 0) t) : (fun z9 : Int32 × me => pm_G g mX0_hold X 12 [some (.ref 1), some (.int z9.1)] [] (en S z9.2) 0 0) s := by
  unfold b_X0_hold_12 at h
  show pm_G g mX0_hold X 12 [some (.ref 1), some (.int s.1)] [] (en S s.2) 0 0
  refine pg_iload_n dX0_hold_12 rfl ?_
  refine pg_iconst 4 dX0_hold_13 rfl ?_
  refine pg_icmp_ge 50 dX0_hold_14 (by decide) (fun c2 => ?_) (fun c2 => ?_)
  · rw [if_pos c2] at h
    obtain rfl := Option.some.inj h
    exact hT _ rfl
  · rw [if_neg c2] at h
    refine pg_aload_n dX0_hold_17 rfl ?_
    refine eg_get dX0_hold_18 fa_X0_15 hS sp1 (Nat.le_of_ble_eq_true rfl) (Nat.le_of_ble_eq_true rfl) rfl rfl ?_
    refine eg_get dX0_hold_21 fa_X0_19 hS sp23 (Nat.le_of_ble_eq_true rfl) (Nat.le_of_ble_eq_true rfl) rfl rfl ?_
    refine pg_iload_n dX0_hold_24 rfl ?_
    refine pg_bipush 9 dX0_hold_25 rfl ?_
    refine pg_aload_n dX0_hold_27 rfl ?_
    refine eg_get dX0_hold_28 fa_X0_15 hS sp1 (Nat.le_of_ble_eq_true rfl) (Nat.le_of_ble_eq_true rfl) rfl rfl ?_
    refine eg_get dX0_hold_31 fa_X0_19 hS sp23 (Nat.le_of_ble_eq_true rfl) (Nat.le_of_ble_eq_true rfl) rfl rfl ?_
    refine pg_iload_n dX0_hold_34 rfl ?_
    obtain ⟨g1, h⟩ := gd_at h
    refine eg_ialdJ s.1.toNatClampNeg dX0_hold_35 hS sp24 (Nat.le_of_ble_eq_true rfl) (Nat.le_of_ble_eq_true rfl) rfl (inR_vp g1) rfl ?_
    refine pg_imul dX0_hold_36 ?_
    refine pg_bipush 10 dX0_hold_37 rfl ?_
    refine pg_idiv dX0_hold_39 (by decide) ?_
    refine pg_bipush 20 dX0_hold_40 rfl ?_
    refine pg_iadd dX0_hold_42 ?_
    obtain ⟨g1, h⟩ := gd_at h
    refine eg_iastJ s.1.toNatClampNeg dX0_hold_43 hS sp24 (Nat.le_of_ble_eq_true rfl) (Nat.le_of_ble_eq_true rfl) (fun _ _ _ => rfl) (inR_vp g1) rfl (fun m3 e_m3 => ?_)
    replace h := lt_at h e_m3
    obtain ⟨w4, e_w4⟩ : ∃ z : Int32, z = s.1 + 1 := ⟨_, rfl⟩
    replace h := lt_at h e_w4
    refine eg_iinc [some (.ref 1), some (.int w4)] w4 1 dX0_hold_44 rfl rfl e_w4 rfl ?_
    refine pg_goto 12 dX0_hold_47 (by decide) ?_
    obtain rfl := Option.some.inj h
    exact hN _ rfl
set_option maxRecDepth 20000 in
set_option maxHeartbeats 4000000 in
theorem lb_X0_hold_52 (hfl : g.1.stackTraces = false) (hS : pS 1 28 S) {s : Int32 × me} {r : (Int32 × me) ⊕ (Int32 × me)} (h : b_X0_hold_52 s = some r) (hN : ∀ s', r = .inl s' → (fun z9 : Int32 × me => pm_G g mX0_hold X 52 [some (.ref 1), some (.int z9.1)] [] (en S z9.2) 0 0) s') (hT : ∀ t, r = .inr t → (fun z9 : Int32 × me => pm_G g mX0_hold X 81 [some (.ref 1), some (.int z9.1)] [] (en S z9.2) 0 0) t) : (fun z9 : Int32 × me => pm_G g mX0_hold X 52 [some (.ref 1), some (.int z9.1)] [] (en S z9.2) 0 0) s := by
  unfold b_X0_hold_52 at h
  show pm_G g mX0_hold X 52 [some (.ref 1), some (.int s.1)] [] (en S s.2) 0 0
  refine pg_iload_n dX0_hold_52 rfl ?_
  refine pg_aload_n dX0_hold_53 rfl ?_
  refine eg_get dX0_hold_54 fa_X0_25 hS sp1 (Nat.le_of_ble_eq_true rfl) (Nat.le_of_ble_eq_true rfl) rfl rfl ?_
  refine eg_get dX0_hold_57 fa_X0_29 hS sp11 (Nat.le_of_ble_eq_true rfl) (Nat.le_of_ble_eq_true rfl) rfl rfl ?_
  refine pg_icmp_ge 81 dX0_hold_60 (by decide) (fun c6 => ?_) (fun c6 => ?_)
  · rw [if_pos c6] at h
    obtain rfl := Option.some.inj h
    exact hT _ rfl
  · rw [if_neg c6] at h
    refine pg_aload_n dX0_hold_63 rfl ?_
    refine eg_get dX0_hold_64 fa_X0_25 hS sp1 (Nat.le_of_ble_eq_true rfl) (Nat.le_of_ble_eq_true rfl) rfl rfl ?_
    refine pg_aload_n dX0_hold_67 rfl ?_
    refine eg_get dX0_hold_68 fa_X0_15 hS sp1 (Nat.le_of_ble_eq_true rfl) (Nat.le_of_ble_eq_true rfl) rfl rfl ?_
    refine pg_iload_n dX0_hold_71 rfl ?_
    obtain ⟨r7, h_r7, h⟩ := bd_at h
    refine eg_cSv (C := mX0_sell) (as := [(.ref 11), (.ref 23), (.int s.1)]) dX0_hold_72 mw432 cs_X0_sell rfl rfl (Nat.le_of_ble_eq_true rfl) rfl ⟨(Nat.le_of_ble_eq_true rfl), (Nat.le_of_ble_eq_true rfl)⟩ (ct_X0_sell hfl (hS.sub (Nat.le_of_ble_eq_true rfl) (Nat.le_of_ble_eq_true rfl)) h_r7) ?_
    obtain ⟨w8, e_w8⟩ : ∃ z : Int32, z = s.1 + 1 := ⟨_, rfl⟩
    replace h := lt_at h e_w8
    refine eg_iinc [some (.ref 1), some (.int w8)] w8 1 dX0_hold_75 rfl rfl e_w8 rfl ?_
    refine pg_goto 52 dX0_hold_78 (by decide) ?_
    obtain rfl := Option.some.inj h
    exact hN _ rfl
set_option maxRecDepth 20000 in
set_option maxHeartbeats 4000000 in
theorem lb_X0_hold_83 (hfl : g.1.stackTraces = false) (hS : pS 1 28 S) {s : Int32 × me} {r : (Int32 × me) ⊕ (Int32 × me)} (h : b_X0_hold_83 s = some r) (hN : ∀ s', r = .inl s' → (fun z9 : Int32 × me => pm_G g mX0_hold X 83 [some (.ref 1), some (.int z9.1)] [] (en S z9.2) 0 0) s') (hT : ∀ t, r = .inr t → (fun z9 : Int32 × me => pm_G g mX0_hold X 112 [some (.ref 1), some (.int z9.1)] [] (en S z9.2) 0 0) t) : (fun z9 : Int32 × me => pm_G g mX0_hold X 83 [some (.ref 1), some (.int z9.1)] [] (en S z9.2) 0 0) s := by
  unfold b_X0_hold_83 at h
  show pm_G g mX0_hold X 83 [some (.ref 1), some (.int s.1)] [] (en S s.2) 0 0
  refine pg_iload_n dX0_hold_83 rfl ?_
  refine pg_aload_n dX0_hold_84 rfl ?_
  refine eg_get dX0_hold_85 fa_X0_25 hS sp1 (Nat.le_of_ble_eq_true rfl) (Nat.le_of_ble_eq_true rfl) rfl rfl ?_
  refine eg_get dX0_hold_88 fa_X0_29 hS sp11 (Nat.le_of_ble_eq_true rfl) (Nat.le_of_ble_eq_true rfl) rfl rfl ?_
  refine pg_icmp_ge 112 dX0_hold_91 (by decide) (fun c10 => ?_) (fun c10 => ?_)
  · rw [if_pos c10] at h
    obtain rfl := Option.some.inj h
    exact hT _ rfl
  · rw [if_neg c10] at h
    refine pg_aload_n dX0_hold_94 rfl ?_
    refine eg_get dX0_hold_95 fa_X0_25 hS sp1 (Nat.le_of_ble_eq_true rfl) (Nat.le_of_ble_eq_true rfl) rfl rfl ?_
    refine pg_iload_n dX0_hold_98 rfl ?_
    refine pg_aload_n dX0_hold_99 rfl ?_
    refine eg_get dX0_hold_100 fa_X0_40 hS sp1 (Nat.le_of_ble_eq_true rfl) (Nat.le_of_ble_eq_true rfl) rfl rfl ?_
    obtain ⟨r11, h_r11, h⟩ := bd_at h
    refine eg_cSv (C := mX0_adjustCost) (as := [(.ref 11), (.int s.1), (.int (s.2.1 1 4))]) dX0_hold_103 mw437 cs_X0_adjustCost rfl rfl (Nat.le_of_ble_eq_true rfl) rfl ⟨(Nat.le_of_ble_eq_true rfl), (Nat.le_of_ble_eq_true rfl)⟩ (ct_X0_adjustCost hfl (hS.sub (Nat.le_of_ble_eq_true rfl) (Nat.le_of_ble_eq_true rfl)) h_r11) ?_
    obtain ⟨w12, e_w12⟩ : ∃ z : Int32, z = s.1 + 1 := ⟨_, rfl⟩
    replace h := lt_at h e_w12
    refine eg_iinc [some (.ref 1), some (.int w12)] w12 1 dX0_hold_106 rfl rfl e_w12 rfl ?_
    refine pg_goto 83 dX0_hold_109 (by decide) ?_
    obtain rfl := Option.some.inj h
    exact hN _ rfl
set_option maxRecDepth 20000 in
set_option maxHeartbeats 4000000 in
theorem ct_X0_hold (hfl : g.1.stackTraces = false) (hS : pS 1 28 S) {m0 : me} {x : me} (h : f_X0_hold m0 = some x) : pm_Ct g mX0_hold [.ref 1] (en S m0) 0 0 (qV S x) qF := by
  refine pm_of (by decide +kernel) rfl hfl (Nat.le_of_ble_eq_true rfl) (fun X hE => ?_)
  show pm_G g mX0_hold X 0 [some (.ref 1), none] [] (en S m0) 0 0
  unfold f_X0_hold at h
  refine pg_aload_n dX0_hold_0 rfl ?_
  refine pg_dup dX0_hold_1 rfl ?_
  refine eg_get dX0_hold_2 fa_X0_9 hS sp1 (Nat.le_of_ble_eq_true rfl) (Nat.le_of_ble_eq_true rfl) rfl rfl ?_
  refine pg_iconst 1 dX0_hold_5 rfl ?_
  refine pg_iadd dX0_hold_6 ?_
  refine eg_put dX0_hold_7 fa_X0_9 hS sp1 (Nat.le_of_ble_eq_true rfl) (Nat.le_of_ble_eq_true rfl) rfl (Nat.le_of_ble_eq_true rfl) rfl (fun m1 e_m1 => ?_)
  replace h := lt_at h e_m1
  refine pg_iconst 0 dX0_hold_10 rfl ?_
  refine eg_istore_n [some (.ref 1), some (.int 0)] 0 dX0_hold_11 rfl (Nat.le_of_ble_eq_true rfl) rfl ?_
  obtain ⟨s5, h_s5, h⟩ := bd_at h
  refine lo_at (b := b_X0_hold_12) (G := (fun z9 : Int32 × me => pm_G g mX0_hold X 12 [some (.ref 1), some (.int z9.1)] [] (en S z9.2) 0 0)) (T := (fun z9 : Int32 × me => pm_G g mX0_hold X 50 [some (.ref 1), some (.int z9.1)] [] (en S z9.2) 0 0)) (fun q9 r9 h1 h2 h3 => lb_X0_hold_12 hfl hS h1 h2 h3) 2048 (0, m1) s5 h_s5 ?_
  show pm_G g mX0_hold X 50 [some (.ref 1), some (.int s5.1)] [] (en S s5.2) 0 0
  refine pg_iconst 0 dX0_hold_50 rfl ?_
  refine eg_istore_n [some (.ref 1), some (.int 0)] 0 dX0_hold_51 rfl (Nat.le_of_ble_eq_true rfl) rfl ?_
  obtain ⟨s9, h_s9, h⟩ := bd_at h
  refine lo_at (b := b_X0_hold_52) (G := (fun z9 : Int32 × me => pm_G g mX0_hold X 52 [some (.ref 1), some (.int z9.1)] [] (en S z9.2) 0 0)) (T := (fun z9 : Int32 × me => pm_G g mX0_hold X 81 [some (.ref 1), some (.int z9.1)] [] (en S z9.2) 0 0)) (fun q9 r9 h1 h2 h3 => lb_X0_hold_52 hfl hS h1 h2 h3) 2048 (0, s5.2) s9 h_s9 ?_
  show pm_G g mX0_hold X 81 [some (.ref 1), some (.int s9.1)] [] (en S s9.2) 0 0
  refine pg_iconst 0 dX0_hold_81 rfl ?_
  refine eg_istore_n [some (.ref 1), some (.int 0)] 0 dX0_hold_82 rfl (Nat.le_of_ble_eq_true rfl) rfl ?_
  obtain ⟨s13, h_s13, h⟩ := bd_at h
  refine lo_at (b := b_X0_hold_83) (G := (fun z9 : Int32 × me => pm_G g mX0_hold X 83 [some (.ref 1), some (.int z9.1)] [] (en S z9.2) 0 0)) (T := (fun z9 : Int32 × me => pm_G g mX0_hold X 112 [some (.ref 1), some (.int z9.1)] [] (en S z9.2) 0 0)) (fun q9 r9 h1 h2 h3 => lb_X0_hold_83 hfl hS h1 h2 h3) 2048 (0, s9.2) s13 h_s13 ?_
  show pm_G g mX0_hold X 112 [some (.ref 1), some (.int s13.1)] [] (en S s13.2) 0 0
  obtain rfl := Option.some.inj h
  exact hE.2.2.1 _ _ _ _ _ dX0_hold_112 rfl (Nat.zero_le _) (Nat.zero_le _) ⟨rfl, rfl⟩
def j_X11_passTicks_37 (v1 : Int32) (v2 : Int32) (m0 : me) : Option ((Int32 × me) ⊕ (Int32 × me)) :=
  bd (f_X10_renew m0) (fun r5 =>
  bd (f_X6_renew r5) (fun r6 =>
  if r6.1 = 0 then
    lt (v2 + 1) (fun w8 =>
    some (.inl (w8, r6.2)))
  else
    bd (f_X5_findGroups r6.2) (fun r9 =>
    bd (f_X6_flushTables r9.2) (fun r10 =>
    lt (v2 + 1) (fun w11 =>
    some (.inl (w11, r10)))))))
def b_X11_passTicks_2 (v1 : Int32) (s : Int32 × me) : Option ((Int32 × me) ⊕ (Int32 × me)) :=
  if v1 ≤ s.1 then
    some (.inr (s.1, s.2))
  else
    lt (wI s.2 1 1 ((s.2.1 1 1) + 1)) (fun m2 =>
    bd (f_X4_isAuctionDue m2) (fun r3 =>
    if r3.1 = 0 then
      j_X11_passTicks_37 v1 s.1 r3.2
    else
      bd (f_X0_hold r3.2) (fun r12 =>
      j_X11_passTicks_37 v1 s.1 r12)))
def f_X11_passTicks (v1 : Int32) (m0 : me) : Option me :=
  bd (lo (b_X11_passTicks_2 v1) 2048 (0, m0)) (fun s13 =>
  some (s13.2))
set_option maxRecDepth 20000 in
set_option maxHeartbeats 4000000 in
theorem lj_X11_passTicks_37 (hfl : g.1.stackTraces = false) (hS : pS 0 138 S) {v1 : Int32} {v2 : Int32} {m0 : me} {r : (Int32 × me) ⊕ (Int32 × me)} (h : j_X11_passTicks_37 v1 v2 m0 = some r) (hN : ∀ s', r = .inl s' → (fun z9 : Int32 × me => pm_G g mX11_passTicks X 2 [some (.ref 0), some (.int v1), some (.int z9.1)] [] (en S z9.2) 0 0) s') (hT : ∀ t, r = .inr t → (fun z9 : Int32 × me => pm_G g mX11_passTicks X 95 [some (.ref 0), some (.int v1), some (.int z9.1)] [] (en S z9.2) 0 0) t) : pm_G g mX11_passTicks X 37 [some (.ref 0), some (.int v1), some (.int v2)] [] (en S m0) 0 0 := by
  unfold j_X11_passTicks_37 at h
  refine pg_aload_n dX11_passTicks_37 rfl ?_
  refine eg_get dX11_passTicks_38 fa_X11_37 hS sp0 (Nat.le_of_ble_eq_true rfl) (Nat.le_of_ble_eq_true rfl) rfl rfl ?_
  refine pg_aload_n dX11_passTicks_41 rfl ?_
  refine eg_get dX11_passTicks_42 fa_X11_12 hS sp0 (Nat.le_of_ble_eq_true rfl) (Nat.le_of_ble_eq_true rfl) rfl rfl ?_
  obtain ⟨r5, h_r5, h⟩ := bd_at h
  refine eg_cVv (C := mX10_renew) (as := [(.ref 1)]) dX11_passTicks_45 mw412 cv_X10_renew hS sp114 (Nat.le_of_ble_eq_true rfl) (Nat.le_of_ble_eq_true rfl) rfl rfl rfl (Nat.le_of_ble_eq_true rfl) rfl ⟨(Nat.le_of_ble_eq_true rfl), (Nat.le_of_ble_eq_true rfl)⟩ (ct_X10_renew hfl (hS.sub (Nat.le_of_ble_eq_true rfl) (Nat.le_of_ble_eq_true rfl)) h_r5) ?_
  refine pg_aload_n dX11_passTicks_48 rfl ?_
  refine eg_get dX11_passTicks_49 fa_X11_44 hS sp0 (Nat.le_of_ble_eq_true rfl) (Nat.le_of_ble_eq_true rfl) rfl rfl ?_
  refine pg_aload_n dX11_passTicks_52 rfl ?_
  refine eg_get dX11_passTicks_53 fa_X11_12 hS sp0 (Nat.le_of_ble_eq_true rfl) (Nat.le_of_ble_eq_true rfl) rfl rfl ?_
  obtain ⟨r6, h_r6, h⟩ := bd_at h
  refine eg_cVi (C := mX6_renew) (as := [(.ref 1)]) dX11_passTicks_56 mw417 cv_X6_renew hS sp120 (Nat.le_of_ble_eq_true rfl) (Nat.le_of_ble_eq_true rfl) rfl rfl rfl (Nat.le_of_ble_eq_true rfl) rfl ⟨(Nat.le_of_ble_eq_true rfl), (Nat.le_of_ble_eq_true rfl)⟩ (ct_X6_renew hfl (hS.sub (Nat.le_of_ble_eq_true rfl) (Nat.le_of_ble_eq_true rfl)) h_r6) ?_
  refine pg_if_eq 89 dX11_passTicks_59 (by decide) (fun c7 => ?_) (fun c7 => ?_)
  · rw [if_pos c7] at h
    obtain ⟨w8, e_w8⟩ : ∃ z : Int32, z = v2 + 1 := ⟨_, rfl⟩
    replace h := lt_at h e_w8
    refine eg_iinc [some (.ref 0), some (.int v1), some (.int w8)] w8 1 dX11_passTicks_89 rfl rfl e_w8 rfl ?_
    refine pg_goto 2 dX11_passTicks_92 (by decide) ?_
    obtain rfl := Option.some.inj h
    exact hN _ rfl
  · rw [if_neg c7] at h
    refine pg_aload_n dX11_passTicks_62 rfl ?_
    refine eg_get dX11_passTicks_63 fa_X11_58 hS sp0 (Nat.le_of_ble_eq_true rfl) (Nat.le_of_ble_eq_true rfl) rfl rfl ?_
    refine pg_aload_n dX11_passTicks_66 rfl ?_
    refine eg_get dX11_passTicks_67 fa_X11_12 hS sp0 (Nat.le_of_ble_eq_true rfl) (Nat.le_of_ble_eq_true rfl) rfl rfl ?_
    obtain ⟨r9, h_r9, h⟩ := bd_at h
    refine eg_cVi (C := mX5_findGroups) (as := [(.ref 1)]) dX11_passTicks_70 mw182 cv_X5_findGroups hS sp126 (Nat.le_of_ble_eq_true rfl) (Nat.le_of_ble_eq_true rfl) rfl rfl rfl (Nat.le_of_ble_eq_true rfl) rfl ⟨(Nat.le_of_ble_eq_true rfl), (Nat.le_of_ble_eq_true rfl)⟩ (ct_X5_findGroups hfl (hS.sub (Nat.le_of_ble_eq_true rfl) (Nat.le_of_ble_eq_true rfl)) h_r9) ?_
    refine pg_pop dX11_passTicks_73 rfl ?_
    refine pg_aload_n dX11_passTicks_74 rfl ?_
    refine eg_get dX11_passTicks_75 fa_X11_44 hS sp0 (Nat.le_of_ble_eq_true rfl) (Nat.le_of_ble_eq_true rfl) rfl rfl ?_
    refine pg_aload_n dX11_passTicks_78 rfl ?_
    refine eg_get dX11_passTicks_79 fa_X11_12 hS sp0 (Nat.le_of_ble_eq_true rfl) (Nat.le_of_ble_eq_true rfl) rfl rfl ?_
    refine pg_aload_n dX11_passTicks_82 rfl ?_
    refine eg_get dX11_passTicks_83 fa_X11_58 hS sp0 (Nat.le_of_ble_eq_true rfl) (Nat.le_of_ble_eq_true rfl) rfl rfl ?_
    obtain ⟨r10, h_r10, h⟩ := bd_at h
    refine eg_cVv (C := mX6_flushTables) (as := [(.ref 1), (.ref 126)]) dX11_passTicks_86 mw422 cv_X6_flushTables hS sp120 (Nat.le_of_ble_eq_true rfl) (Nat.le_of_ble_eq_true rfl) rfl rfl rfl (Nat.le_of_ble_eq_true rfl) rfl ⟨(Nat.le_of_ble_eq_true rfl), (Nat.le_of_ble_eq_true rfl)⟩ (ct_X6_flushTables hfl (hS.sub (Nat.le_of_ble_eq_true rfl) (Nat.le_of_ble_eq_true rfl)) h_r10) ?_
    obtain ⟨w11, e_w11⟩ : ∃ z : Int32, z = v2 + 1 := ⟨_, rfl⟩
    replace h := lt_at h e_w11
    refine eg_iinc [some (.ref 0), some (.int v1), some (.int w11)] w11 1 dX11_passTicks_89 rfl rfl e_w11 rfl ?_
    refine pg_goto 2 dX11_passTicks_92 (by decide) ?_
    obtain rfl := Option.some.inj h
    exact hN _ rfl
set_option maxRecDepth 20000 in
set_option maxHeartbeats 4000000 in
theorem lb_X11_passTicks_2 (hfl : g.1.stackTraces = false) (hS : pS 0 138 S) {v1 : Int32} {s : Int32 × me} {r : (Int32 × me) ⊕ (Int32 × me)} (h : b_X11_passTicks_2 v1 s = some r) (hN : ∀ s', r = .inl s' → (fun z9 : Int32 × me => pm_G g mX11_passTicks X 2 [some (.ref 0), some (.int v1), some (.int z9.1)] [] (en S z9.2) 0 0) s') (hT : ∀ t, r = .inr t → (fun z9 : Int32 × me => pm_G g mX11_passTicks X 95 [some (.ref 0), some (.int v1), some (.int z9.1)] [] (en S z9.2) 0 0) t) : (fun z9 : Int32 × me => pm_G g mX11_passTicks X 2 [some (.ref 0), some (.int v1), some (.int z9.1)] [] (en S z9.2) 0 0) s := by
  unfold b_X11_passTicks_2 at h
  show pm_G g mX11_passTicks X 2 [some (.ref 0), some (.int v1), some (.int s.1)] [] (en S s.2) 0 0
  refine pg_iload_n dX11_passTicks_2 rfl ?_
  refine pg_iload_n dX11_passTicks_3 rfl ?_
  refine pg_icmp_ge 95 dX11_passTicks_4 (by decide) (fun c1 => ?_) (fun c1 => ?_)
  · rw [if_pos c1] at h
    obtain rfl := Option.some.inj h
    exact hT _ rfl
  · rw [if_neg c1] at h
    refine pg_aload_n dX11_passTicks_7 rfl ?_
    refine eg_get dX11_passTicks_8 fa_X11_12 hS sp0 (Nat.le_of_ble_eq_true rfl) (Nat.le_of_ble_eq_true rfl) rfl rfl ?_
    refine pg_dup dX11_passTicks_11 rfl ?_
    refine eg_get dX11_passTicks_12 fa_X11_173 hS sp1 (Nat.le_of_ble_eq_true rfl) (Nat.le_of_ble_eq_true rfl) rfl rfl ?_
    refine pg_iconst 1 dX11_passTicks_15 rfl ?_
    refine pg_iadd dX11_passTicks_16 ?_
    refine eg_put dX11_passTicks_17 fa_X11_173 hS sp1 (Nat.le_of_ble_eq_true rfl) (Nat.le_of_ble_eq_true rfl) rfl (Nat.le_of_ble_eq_true rfl) rfl (fun m2 e_m2 => ?_)
    replace h := lt_at h e_m2
    refine pg_aload_n dX11_passTicks_20 rfl ?_
    refine eg_get dX11_passTicks_21 fa_X11_12 hS sp0 (Nat.le_of_ble_eq_true rfl) (Nat.le_of_ble_eq_true rfl) rfl rfl ?_
    obtain ⟨r3, h_r3, h⟩ := bd_at h
    refine eg_cVi (C := mX4_isAuctionDue) (as := []) dX11_passTicks_24 mw402 cv_X4_isAuctionDue hS sp1 (Nat.le_of_ble_eq_true rfl) (Nat.le_of_ble_eq_true rfl) rfl rfl rfl (Nat.le_of_ble_eq_true rfl) rfl ⟨(Nat.le_of_ble_eq_true rfl), (Nat.le_of_ble_eq_true rfl)⟩ (ct_X4_isAuctionDue hfl (hS.sub (Nat.le_of_ble_eq_true rfl) (Nat.le_of_ble_eq_true rfl)) h_r3) ?_
    refine pg_if_eq 37 dX11_passTicks_27 (by decide) (fun c4 => ?_) (fun c4 => ?_)
    · rw [if_pos c4] at h
      exact lj_X11_passTicks_37 hfl hS h hN hT
    · rw [if_neg c4] at h
      refine pg_aload_n dX11_passTicks_30 rfl ?_
      refine eg_get dX11_passTicks_31 fa_X11_12 hS sp0 (Nat.le_of_ble_eq_true rfl) (Nat.le_of_ble_eq_true rfl) rfl rfl ?_
      obtain ⟨r12, h_r12, h⟩ := bd_at h
      refine eg_cSv (C := mX0_hold) (as := [(.ref 1)]) dX11_passTicks_34 mw407 cs_X0_hold rfl rfl (Nat.le_of_ble_eq_true rfl) rfl ⟨(Nat.le_of_ble_eq_true rfl), (Nat.le_of_ble_eq_true rfl)⟩ (ct_X0_hold hfl (hS.sub (Nat.le_of_ble_eq_true rfl) (Nat.le_of_ble_eq_true rfl)) h_r12) ?_
      exact lj_X11_passTicks_37 hfl hS h hN hT
set_option maxRecDepth 20000 in
set_option maxHeartbeats 4000000 in
theorem ct_X11_passTicks (hfl : g.1.stackTraces = false) (hS : pS 0 138 S) {v1 : Int32} {m0 : me} {x : me} (h : f_X11_passTicks v1 m0 = some x) : pm_Ct g mX11_passTicks [.ref 0, .int v1] (en S m0) 0 0 (qV S x) qF := by
  refine pm_of (by decide +kernel) rfl hfl (Nat.le_of_ble_eq_true rfl) (fun X hE => ?_)
  show pm_G g mX11_passTicks X 0 [some (.ref 0), some (.int v1), none] [] (en S m0) 0 0
  unfold f_X11_passTicks at h
  refine pg_iconst 0 dX11_passTicks_0 rfl ?_
  refine eg_istore_n [some (.ref 0), some (.int v1), some (.int 0)] 0 dX11_passTicks_1 rfl (Nat.le_of_ble_eq_true rfl) rfl ?_
  obtain ⟨s13, h_s13, h⟩ := bd_at h
  refine lo_at (b := b_X11_passTicks_2 v1) (G := (fun z9 : Int32 × me => pm_G g mX11_passTicks X 2 [some (.ref 0), some (.int v1), some (.int z9.1)] [] (en S z9.2) 0 0)) (T := (fun z9 : Int32 × me => pm_G g mX11_passTicks X 95 [some (.ref 0), some (.int v1), some (.int z9.1)] [] (en S z9.2) 0 0)) (fun q9 r9 h1 h2 h3 => lb_X11_passTicks_2 hfl hS h1 h2 h3) 2048 (0, m0) s13 h_s13 ?_
  show pm_G g mX11_passTicks X 95 [some (.ref 0), some (.int v1), some (.int s13.1)] [] (en S s13.2) 0 0
  obtain rfl := Option.some.inj h
  exact hE.2.2.1 _ _ _ _ _ dX11_passTicks_95 rfl (Nat.zero_le _) (Nat.zero_le _) ⟨rfl, rfl⟩
def f_X11_carryOut (m0 : me) : Option (Int32 × me) :=
  lt (m0.1 112 0) (fun w1 =>
  lt (m0.1 112 1) (fun w2 =>
  lt (m0.1 112 2) (fun w3 =>
  bd (f_X11_faultOfCommand w1 w2 w3 m0) (fun r4 =>
  if r4.1 = 0 then
    if r4.2.1 111 1 = 0 then
      bd (f_X3_append w1 w2 w3 r4.2) (fun r7 =>
      some ((1, r7.2)))
    else
      if r4.2.1 111 1 = 1 then
        bd (f_X8_changeBid w1 w2 w3 r4.2) (fun r9 =>
        some ((1, r9.2)))
      else
        if r4.2.1 111 1 = 2 then
          bd (f_X4_takeDown w1 r4.2) (fun r11 =>
          some ((1, r11.2)))
        else
          if r4.2.1 111 1 = 3 then
            bd (f_X3_bringUp w1 r4.2) (fun r13 =>
            some ((1, r13.2)))
          else
            if r4.2.1 111 1 = 4 then
              bd (f_X1_changePriority w1 w2 r4.2) (fun r15 =>
              some ((1, r15.2)))
            else
              if r4.2.1 111 1 = 5 then
                bd (f_X1_placeHost w1 w2 r4.2) (fun r17 =>
                some ((1, r17.2)))
              else
                bd (f_X11_passTicks w1 r4.2) (fun r18 =>
                some ((1, r18)))
  else
    some ((0, r4.2))))))
set_option maxRecDepth 20000 in
set_option maxHeartbeats 4000000 in
theorem ct_X11_carryOut (hfl : g.1.stackTraces = false) (hS : pS 0 138 S) {m0 : me} {x : (Int32 × me)} (h : f_X11_carryOut m0 = some x) : pm_Ct g mX11_carryOut [.ref 0] (en S m0) 0 0 (qI S x) qF := by
  refine pm_of (by decide +kernel) rfl hfl (Nat.le_of_ble_eq_true rfl) (fun X hE => ?_)
  show pm_G g mX11_carryOut X 0 [some (.ref 0), none, none, none] [] (en S m0) 0 0
  unfold f_X11_carryOut at h
  refine pg_aload_n dX11_carryOut_0 rfl ?_
  refine eg_get dX11_carryOut_1 fa_X11_30 hS sp0 (Nat.le_of_ble_eq_true rfl) (Nat.le_of_ble_eq_true rfl) rfl rfl ?_
  refine eg_get dX11_carryOut_4 fa_X11_348 hS sp111 (Nat.le_of_ble_eq_true rfl) (Nat.le_of_ble_eq_true rfl) rfl rfl ?_
  refine pg_iconst 0 dX11_carryOut_7 rfl ?_
  refine eg_ialdJ 0 dX11_carryOut_8 hS sp112 (Nat.le_of_ble_eq_true rfl) (Nat.le_of_ble_eq_true rfl) rfl (inR_vp rfl) rfl ?_
  obtain ⟨w1, e_w1⟩ : ∃ z : Int32, z = m0.1 112 0 := ⟨_, rfl⟩
  replace h := lt_at h e_w1
  refine eg_istore_n [some (.ref 0), some (.int w1), none, none] w1 dX11_carryOut_9 e_w1 (Nat.le_of_ble_eq_true rfl) rfl ?_
  refine pg_aload_n dX11_carryOut_10 rfl ?_
  refine eg_get dX11_carryOut_11 fa_X11_30 hS sp0 (Nat.le_of_ble_eq_true rfl) (Nat.le_of_ble_eq_true rfl) rfl rfl ?_
  refine eg_get dX11_carryOut_14 fa_X11_348 hS sp111 (Nat.le_of_ble_eq_true rfl) (Nat.le_of_ble_eq_true rfl) rfl rfl ?_
  refine pg_iconst 1 dX11_carryOut_17 rfl ?_
  refine eg_ialdJ 1 dX11_carryOut_18 hS sp112 (Nat.le_of_ble_eq_true rfl) (Nat.le_of_ble_eq_true rfl) rfl (inR_vp rfl) rfl ?_
  obtain ⟨w2, e_w2⟩ : ∃ z : Int32, z = m0.1 112 1 := ⟨_, rfl⟩
  replace h := lt_at h e_w2
  refine eg_istore_n [some (.ref 0), some (.int w1), some (.int w2), none] w2 dX11_carryOut_19 e_w2 (Nat.le_of_ble_eq_true rfl) rfl ?_
  refine pg_aload_n dX11_carryOut_20 rfl ?_
  refine eg_get dX11_carryOut_21 fa_X11_30 hS sp0 (Nat.le_of_ble_eq_true rfl) (Nat.le_of_ble_eq_true rfl) rfl rfl ?_
  refine eg_get dX11_carryOut_24 fa_X11_348 hS sp111 (Nat.le_of_ble_eq_true rfl) (Nat.le_of_ble_eq_true rfl) rfl rfl ?_
  refine pg_iconst 2 dX11_carryOut_27 rfl ?_
  refine eg_ialdJ 2 dX11_carryOut_28 hS sp112 (Nat.le_of_ble_eq_true rfl) (Nat.le_of_ble_eq_true rfl) rfl (inR_vp rfl) rfl ?_
  obtain ⟨w3, e_w3⟩ : ∃ z : Int32, z = m0.1 112 2 := ⟨_, rfl⟩
  replace h := lt_at h e_w3
  refine eg_istore_n [some (.ref 0), some (.int w1), some (.int w2), some (.int w3)] w3 dX11_carryOut_29 e_w3 (Nat.le_of_ble_eq_true rfl) rfl ?_
  refine pg_aload_n dX11_carryOut_30 rfl ?_
  refine pg_iload_n dX11_carryOut_31 rfl ?_
  refine pg_iload_n dX11_carryOut_32 rfl ?_
  refine pg_iload_n dX11_carryOut_33 rfl ?_
  obtain ⟨r4, h_r4, h⟩ := bd_at h
  refine eg_cVi (C := mX11_faultOfCommand) (as := [(.int w1), (.int w2), (.int w3)]) dX11_carryOut_34 mw313 cv_X11_faultOfCommand hS sp0 (Nat.le_of_ble_eq_true rfl) (Nat.le_of_ble_eq_true rfl) rfl rfl rfl (Nat.le_of_ble_eq_true rfl) rfl ⟨(Nat.le_of_ble_eq_true rfl), (Nat.le_of_ble_eq_true rfl)⟩ (ct_X11_faultOfCommand hfl (hS.sub (Nat.le_of_ble_eq_true rfl) (Nat.le_of_ble_eq_true rfl)) h_r4) ?_
  refine pg_if_eq 42 dX11_carryOut_37 (by decide) (fun c5 => ?_) (fun c5 => ?_)
  · rw [if_pos c5] at h
    refine pg_aload_n dX11_carryOut_42 rfl ?_
    refine eg_get dX11_carryOut_43 fa_X11_30 hS sp0 (Nat.le_of_ble_eq_true rfl) (Nat.le_of_ble_eq_true rfl) rfl rfl ?_
    refine eg_get dX11_carryOut_46 fa_X11_354 hS sp111 (Nat.le_of_ble_eq_true rfl) (Nat.le_of_ble_eq_true rfl) rfl rfl ?_
    by_cases c6 : r4.2.1 111 1 = 0
    · rw [if_pos c6] at h
      refine pg_tabIn (off := 39) 88 dX11_carryOut_49 (by rw [c6]; decide) (by rw [c6]; decide) (by rw [c6]; decide) (by decide) ?_
      refine pg_aload_n dX11_carryOut_88 rfl ?_
      refine eg_get dX11_carryOut_89 fa_X11_12 hS sp0 (Nat.le_of_ble_eq_true rfl) (Nat.le_of_ble_eq_true rfl) rfl rfl ?_
      refine eg_get dX11_carryOut_92 fa_X11_112 hS sp1 (Nat.le_of_ble_eq_true rfl) (Nat.le_of_ble_eq_true rfl) rfl rfl ?_
      refine pg_iload_n dX11_carryOut_95 rfl ?_
      refine pg_iload_n dX11_carryOut_96 rfl ?_
      refine pg_iload_n dX11_carryOut_97 rfl ?_
      obtain ⟨r7, h_r7, h⟩ := bd_at h
      refine eg_cVi (C := mX3_append) (as := [(.int w1), (.int w2), (.int w3)]) dX11_carryOut_98 mw319 cv_X3_append hS sp11 (Nat.le_of_ble_eq_true rfl) (Nat.le_of_ble_eq_true rfl) rfl rfl rfl (Nat.le_of_ble_eq_true rfl) rfl ⟨(Nat.le_of_ble_eq_true rfl), (Nat.le_of_ble_eq_true rfl)⟩ (ct_X3_append hfl (hS.sub (Nat.le_of_ble_eq_true rfl) (Nat.le_of_ble_eq_true rfl)) h_r7) ?_
      refine pg_pop dX11_carryOut_101 rfl ?_
      refine pg_goto 186 dX11_carryOut_102 (by decide) ?_
      refine pg_iconst 1 dX11_carryOut_186 rfl ?_
      obtain rfl := Option.some.inj h
      exact hE.2.1 _ _ _ _ _ _ .boolean dX11_carryOut_187 rfl rfl (Nat.zero_le _) (Nat.zero_le _) ⟨rfl, rfl⟩
    · rw [if_neg c6] at h
      by_cases c8 : r4.2.1 111 1 = 1
      · rw [if_pos c8] at h
        refine pg_tabIn (off := 56) 105 dX11_carryOut_49 (by rw [c8]; decide) (by rw [c8]; decide) (by rw [c8]; decide) (by decide) ?_
        refine pg_aload_n dX11_carryOut_105 rfl ?_
        refine eg_get dX11_carryOut_106 fa_X11_12 hS sp0 (Nat.le_of_ble_eq_true rfl) (Nat.le_of_ble_eq_true rfl) rfl rfl ?_
        refine eg_get dX11_carryOut_109 fa_X11_141 hS sp1 (Nat.le_of_ble_eq_true rfl) (Nat.le_of_ble_eq_true rfl) rfl rfl ?_
        refine pg_iload_n dX11_carryOut_112 rfl ?_
        refine pg_iload_n dX11_carryOut_113 rfl ?_
        refine pg_iload_n dX11_carryOut_114 rfl ?_
        obtain ⟨r9, h_r9, h⟩ := bd_at h
        refine eg_cVi (C := mX8_changeBid) (as := [(.int w1), (.int w2), (.int w3)]) dX11_carryOut_115 mw325 cv_X8_changeBid hS sp23 (Nat.le_of_ble_eq_true rfl) (Nat.le_of_ble_eq_true rfl) rfl rfl rfl (Nat.le_of_ble_eq_true rfl) rfl ⟨(Nat.le_of_ble_eq_true rfl), (Nat.le_of_ble_eq_true rfl)⟩ (ct_X8_changeBid hfl (hS.sub (Nat.le_of_ble_eq_true rfl) (Nat.le_of_ble_eq_true rfl)) h_r9) ?_
        refine pg_pop dX11_carryOut_118 rfl ?_
        refine pg_goto 186 dX11_carryOut_119 (by decide) ?_
        refine pg_iconst 1 dX11_carryOut_186 rfl ?_
        obtain rfl := Option.some.inj h
        exact hE.2.1 _ _ _ _ _ _ .boolean dX11_carryOut_187 rfl rfl (Nat.zero_le _) (Nat.zero_le _) ⟨rfl, rfl⟩
      · rw [if_neg c8] at h
        by_cases c10 : r4.2.1 111 1 = 2
        · rw [if_pos c10] at h
          refine pg_tabIn (off := 73) 122 dX11_carryOut_49 (by rw [c10]; decide) (by rw [c10]; decide) (by rw [c10]; decide) (by decide) ?_
          refine pg_aload_n dX11_carryOut_122 rfl ?_
          refine eg_get dX11_carryOut_123 fa_X11_12 hS sp0 (Nat.le_of_ble_eq_true rfl) (Nat.le_of_ble_eq_true rfl) rfl rfl ?_
          refine pg_iload_n dX11_carryOut_126 rfl ?_
          obtain ⟨r11, h_r11, h⟩ := bd_at h
          refine eg_cVi (C := mX4_takeDown) (as := [(.int w1)]) dX11_carryOut_127 mw330 cv_X4_takeDown hS sp1 (Nat.le_of_ble_eq_true rfl) (Nat.le_of_ble_eq_true rfl) rfl rfl rfl (Nat.le_of_ble_eq_true rfl) rfl ⟨(Nat.le_of_ble_eq_true rfl), (Nat.le_of_ble_eq_true rfl)⟩ (ct_X4_takeDown hfl (hS.sub (Nat.le_of_ble_eq_true rfl) (Nat.le_of_ble_eq_true rfl)) h_r11) ?_
          refine pg_pop dX11_carryOut_130 rfl ?_
          refine pg_goto 186 dX11_carryOut_131 (by decide) ?_
          refine pg_iconst 1 dX11_carryOut_186 rfl ?_
          obtain rfl := Option.some.inj h
          exact hE.2.1 _ _ _ _ _ _ .boolean dX11_carryOut_187 rfl rfl (Nat.zero_le _) (Nat.zero_le _) ⟨rfl, rfl⟩
        · rw [if_neg c10] at h
          by_cases c12 : r4.2.1 111 1 = 3
          · rw [if_pos c12] at h
            refine pg_tabIn (off := 85) 134 dX11_carryOut_49 (by rw [c12]; decide) (by rw [c12]; decide) (by rw [c12]; decide) (by decide) ?_
            refine pg_aload_n dX11_carryOut_134 rfl ?_
            refine eg_get dX11_carryOut_135 fa_X11_12 hS sp0 (Nat.le_of_ble_eq_true rfl) (Nat.le_of_ble_eq_true rfl) rfl rfl ?_
            refine eg_get dX11_carryOut_138 fa_X11_112 hS sp1 (Nat.le_of_ble_eq_true rfl) (Nat.le_of_ble_eq_true rfl) rfl rfl ?_
            refine pg_iload_n dX11_carryOut_141 rfl ?_
            obtain ⟨r13, h_r13, h⟩ := bd_at h
            refine eg_cVi (C := mX3_bringUp) (as := [(.int w1)]) dX11_carryOut_142 mw335 cv_X3_bringUp hS sp11 (Nat.le_of_ble_eq_true rfl) (Nat.le_of_ble_eq_true rfl) rfl rfl rfl (Nat.le_of_ble_eq_true rfl) rfl ⟨(Nat.le_of_ble_eq_true rfl), (Nat.le_of_ble_eq_true rfl)⟩ (ct_X3_bringUp hfl (hS.sub (Nat.le_of_ble_eq_true rfl) (Nat.le_of_ble_eq_true rfl)) h_r13) ?_
            refine pg_pop dX11_carryOut_145 rfl ?_
            refine pg_goto 186 dX11_carryOut_146 (by decide) ?_
            refine pg_iconst 1 dX11_carryOut_186 rfl ?_
            obtain rfl := Option.some.inj h
            exact hE.2.1 _ _ _ _ _ _ .boolean dX11_carryOut_187 rfl rfl (Nat.zero_le _) (Nat.zero_le _) ⟨rfl, rfl⟩
          · rw [if_neg c12] at h
            by_cases c14 : r4.2.1 111 1 = 4
            · rw [if_pos c14] at h
              refine pg_tabIn (off := 100) 149 dX11_carryOut_49 (by rw [c14]; decide) (by rw [c14]; decide) (by rw [c14]; decide) (by decide) ?_
              refine pg_aload_n dX11_carryOut_149 rfl ?_
              refine eg_get dX11_carryOut_150 fa_X11_12 hS sp0 (Nat.le_of_ble_eq_true rfl) (Nat.le_of_ble_eq_true rfl) rfl rfl ?_
              refine eg_get dX11_carryOut_153 fa_X11_99 hS sp1 (Nat.le_of_ble_eq_true rfl) (Nat.le_of_ble_eq_true rfl) rfl rfl ?_
              refine pg_iload_n dX11_carryOut_156 rfl ?_
              refine pg_iload_n dX11_carryOut_157 rfl ?_
              obtain ⟨r15, h_r15, h⟩ := bd_at h
              refine eg_cVi (C := mX1_changePriority) (as := [(.int w1), (.int w2)]) dX11_carryOut_158 mw341 cv_X1_changePriority hS sp2 (Nat.le_of_ble_eq_true rfl) (Nat.le_of_ble_eq_true rfl) rfl rfl rfl (Nat.le_of_ble_eq_true rfl) rfl ⟨(Nat.le_of_ble_eq_true rfl), (Nat.le_of_ble_eq_true rfl)⟩ (ct_X1_changePriority hfl (hS.sub (Nat.le_of_ble_eq_true rfl) (Nat.le_of_ble_eq_true rfl)) h_r15) ?_
              refine pg_pop dX11_carryOut_161 rfl ?_
              refine pg_goto 186 dX11_carryOut_162 (by decide) ?_
              refine pg_iconst 1 dX11_carryOut_186 rfl ?_
              obtain rfl := Option.some.inj h
              exact hE.2.1 _ _ _ _ _ _ .boolean dX11_carryOut_187 rfl rfl (Nat.zero_le _) (Nat.zero_le _) ⟨rfl, rfl⟩
            · rw [if_neg c14] at h
              by_cases c16 : r4.2.1 111 1 = 5
              · rw [if_pos c16] at h
                refine pg_tabIn (off := 116) 165 dX11_carryOut_49 (by rw [c16]; decide) (by rw [c16]; decide) (by rw [c16]; decide) (by decide) ?_
                refine pg_aload_n dX11_carryOut_165 rfl ?_
                refine eg_get dX11_carryOut_166 fa_X11_12 hS sp0 (Nat.le_of_ble_eq_true rfl) (Nat.le_of_ble_eq_true rfl) rfl rfl ?_
                refine eg_get dX11_carryOut_169 fa_X11_99 hS sp1 (Nat.le_of_ble_eq_true rfl) (Nat.le_of_ble_eq_true rfl) rfl rfl ?_
                refine pg_iload_n dX11_carryOut_172 rfl ?_
                refine pg_iload_n dX11_carryOut_173 rfl ?_
                obtain ⟨r17, h_r17, h⟩ := bd_at h
                refine eg_cVi (C := mX1_placeHost) (as := [(.int w1), (.int w2)]) dX11_carryOut_174 mw346 cv_X1_placeHost hS sp2 (Nat.le_of_ble_eq_true rfl) (Nat.le_of_ble_eq_true rfl) rfl rfl rfl (Nat.le_of_ble_eq_true rfl) rfl ⟨(Nat.le_of_ble_eq_true rfl), (Nat.le_of_ble_eq_true rfl)⟩ (ct_X1_placeHost hfl (hS.sub (Nat.le_of_ble_eq_true rfl) (Nat.le_of_ble_eq_true rfl)) h_r17) ?_
                refine pg_pop dX11_carryOut_177 rfl ?_
                refine pg_goto 186 dX11_carryOut_178 (by decide) ?_
                refine pg_iconst 1 dX11_carryOut_186 rfl ?_
                obtain rfl := Option.some.inj h
                exact hE.2.1 _ _ _ _ _ _ .boolean dX11_carryOut_187 rfl rfl (Nat.zero_le _) (Nat.zero_le _) ⟨rfl, rfl⟩
              · rw [if_neg c16] at h
                have k_c6 := lv_neT c6 (show (0 : Int32).toInt = 0 from rfl)
                have k_c8 := lv_neT c8 (show (1 : Int32).toInt = 1 from rfl)
                have k_c10 := lv_neT c10 (show (2 : Int32).toInt = 2 from rfl)
                have k_c12 := lv_neT c12 (show (3 : Int32).toInt = 3 from rfl)
                have k_c14 := lv_neT c14 (show (4 : Int32).toInt = 4 from rfl)
                have k_c16 := lv_neT c16 (show (5 : Int32).toInt = 5 from rfl)
                refine pg_tabOut 181 dX11_carryOut_49 (by omega) (by decide) ?_
                refine pg_aload_n dX11_carryOut_181 rfl ?_
                refine pg_iload_n dX11_carryOut_182 rfl ?_
                obtain ⟨r18, h_r18, h⟩ := bd_at h
                refine eg_cVv (C := mX11_passTicks) (as := [(.int w1)]) dX11_carryOut_183 mw351 cv_X11_passTicks hS sp0 (Nat.le_of_ble_eq_true rfl) (Nat.le_of_ble_eq_true rfl) rfl rfl rfl (Nat.le_of_ble_eq_true rfl) rfl ⟨(Nat.le_of_ble_eq_true rfl), (Nat.le_of_ble_eq_true rfl)⟩ (ct_X11_passTicks hfl (hS.sub (Nat.le_of_ble_eq_true rfl) (Nat.le_of_ble_eq_true rfl)) h_r18) ?_
                refine pg_iconst 1 dX11_carryOut_186 rfl ?_
                obtain rfl := Option.some.inj h
                exact hE.2.1 _ _ _ _ _ _ .boolean dX11_carryOut_187 rfl rfl (Nat.zero_le _) (Nat.zero_le _) ⟨rfl, rfl⟩
  · rw [if_neg c5] at h
    refine pg_iconst 0 dX11_carryOut_40 rfl ?_
    obtain rfl := Option.some.inj h
    exact hE.2.1 _ _ _ _ _ _ .boolean dX11_carryOut_41 rfl rfl (Nat.zero_le _) (Nat.zero_le _) ⟨rfl, rfl⟩
def b_X11_run_40 (v1 : Int32) (s : Int32 × Int32 × me) : Option ((Int32 × Int32 × me) ⊕ ((Int32 × Int32 × me) ⊕ (Int32 × me))) :=
  if (s.2.2.1 111 0) ≤ s.2.1 then
    some (.inr (.inl (s.1, s.2.1, s.2.2)))
  else
    bd (f_X7_readCommand s.2.2) (fun r6 =>
    if r6.1 = 0 then
      some (.inr (.inr ((s.1, r6.2))))
    else
      bd (f_X11_carryOut r6.2) (fun r8 =>
      if r8.1 = 0 then
        some (.inr (.inr ((s.1, r8.2))))
      else
        lt (s.1 + 1) (fun w10 =>
        lt (s.2.1 + 1) (fun w11 =>
        some (.inl (w10, w11, r8.2))))))
def f_X11_run (m0 : me) : Option (Int32 × me) :=
  bd (f_X7_findFault m0) (fun r1 =>
  if r1.1 = (-1) then
    bd (f_X9_save r1.2) (fun r3 =>
    bd (f_X7_rewind r3) (fun r4 =>
    bd (lo (b_X11_run_40 r1.1) 2048 (0, 0, r4)) (fun s12 =>
    sm s12 (fun s13 =>
      some ((s13.1, s13.2.2))) (fun x14 => some x14))))
  else
    some (((-10) - r1.1, r1.2)))
set_option maxRecDepth 20000 in
set_option maxHeartbeats 4000000 in
theorem lb_X11_run_40 (hfl : g.1.stackTraces = false) (hS : pS 0 138 S) {v1 : Int32} {s : Int32 × Int32 × me} {r : (Int32 × Int32 × me) ⊕ ((Int32 × Int32 × me) ⊕ (Int32 × me))} (h : b_X11_run_40 v1 s = some r) (hN : ∀ s', r = .inl s' → (fun z9 : Int32 × Int32 × me => pm_G g mX11_run X 40 [some (.ref 0), some (.int v1), some (.int z9.1), some (.int z9.2.1)] [] (en S z9.2.2) 0 0) s') (hT : ∀ t, r = .inr t → (fun z8 : ((Int32 × Int32 × me) ⊕ (Int32 × me)) => (∀ z9, z8 = .inl z9 → pm_G g mX11_run X 79 [some (.ref 0), some (.int v1), some (.int z9.1), some (.int z9.2.1)] [] (en S z9.2.2) 0 0) ∧ (∀ x9, z8 = .inr x9 → pm_End g mX11_run X 0 0 (qI S x9) qF)) t) : (fun z9 : Int32 × Int32 × me => pm_G g mX11_run X 40 [some (.ref 0), some (.int v1), some (.int z9.1), some (.int z9.2.1)] [] (en S z9.2.2) 0 0) s := by
  unfold b_X11_run_40 at h
  show pm_G g mX11_run X 40 [some (.ref 0), some (.int v1), some (.int s.1), some (.int s.2.1)] [] (en S s.2.2) 0 0
  refine pg_iload_n dX11_run_40 rfl ?_
  refine pg_aload_n dX11_run_41 rfl ?_
  refine eg_get dX11_run_42 fa_X11_30 hS sp0 (Nat.le_of_ble_eq_true rfl) (Nat.le_of_ble_eq_true rfl) rfl rfl ?_
  refine eg_get dX11_run_45 fa_X11_261 hS sp111 (Nat.le_of_ble_eq_true rfl) (Nat.le_of_ble_eq_true rfl) rfl rfl ?_
  refine pg_icmp_ge 79 dX11_run_48 (by decide) (fun c5 => ?_) (fun c5 => ?_)
  · rw [if_pos c5] at h
    obtain rfl := Option.some.inj h
    exact (hT _ rfl).1 _ rfl
  · rw [if_neg c5] at h
    refine pg_aload_n dX11_run_51 rfl ?_
    refine eg_get dX11_run_52 fa_X11_30 hS sp0 (Nat.le_of_ble_eq_true rfl) (Nat.le_of_ble_eq_true rfl) rfl rfl ?_
    obtain ⟨r6, h_r6, h⟩ := bd_at h
    refine eg_cVi (C := mX7_readCommand) (as := []) dX11_run_55 mw223 cv_X7_readCommand hS sp111 (Nat.le_of_ble_eq_true rfl) (Nat.le_of_ble_eq_true rfl) rfl rfl rfl (Nat.le_of_ble_eq_true rfl) rfl ⟨(Nat.le_of_ble_eq_true rfl), (Nat.le_of_ble_eq_true rfl)⟩ (ct_X7_readCommand hfl (hS.sub (Nat.le_of_ble_eq_true rfl) (Nat.le_of_ble_eq_true rfl)) h_r6) ?_
    refine pg_if_eq 68 dX11_run_58 (by decide) (fun c7 => ?_) (fun c7 => ?_)
    · rw [if_pos c7] at h
      refine pg_iload_n dX11_run_68 rfl ?_
      obtain rfl := Option.some.inj h
      exact ((hT _ rfl).2 _ rfl).2.1 _ _ _ _ _ _ .int dX11_run_69 rfl rfl (Nat.zero_le _) (Nat.zero_le _) ⟨rfl, rfl⟩
    · rw [if_neg c7] at h
      refine pg_aload_n dX11_run_61 rfl ?_
      obtain ⟨r8, h_r8, h⟩ := bd_at h
      refine eg_cVi (C := mX11_carryOut) (as := []) dX11_run_62 mw228 cv_X11_carryOut hS sp0 (Nat.le_of_ble_eq_true rfl) (Nat.le_of_ble_eq_true rfl) rfl rfl rfl (Nat.le_of_ble_eq_true rfl) rfl ⟨(Nat.le_of_ble_eq_true rfl), (Nat.le_of_ble_eq_true rfl)⟩ (ct_X11_carryOut hfl (hS.sub (Nat.le_of_ble_eq_true rfl) (Nat.le_of_ble_eq_true rfl)) h_r8) ?_
      refine pg_if_ne 70 dX11_run_65 (by decide) (fun c9 => ?_) (fun c9 => ?_)
      · rw [if_neg c9] at h
        obtain ⟨w10, e_w10⟩ : ∃ z : Int32, z = s.1 + 1 := ⟨_, rfl⟩
        replace h := lt_at h e_w10
        refine eg_iinc [some (.ref 0), some (.int v1), some (.int w10), some (.int s.2.1)] w10 1 dX11_run_70 rfl rfl e_w10 rfl ?_
        obtain ⟨w11, e_w11⟩ : ∃ z : Int32, z = s.2.1 + 1 := ⟨_, rfl⟩
        replace h := lt_at h e_w11
        refine eg_iinc [some (.ref 0), some (.int v1), some (.int w10), some (.int w11)] w11 1 dX11_run_73 rfl rfl e_w11 rfl ?_
        refine pg_goto 40 dX11_run_76 (by decide) ?_
        obtain rfl := Option.some.inj h
        exact hN _ rfl
      · rw [if_pos c9] at h
        refine pg_iload_n dX11_run_68 rfl ?_
        obtain rfl := Option.some.inj h
        exact ((hT _ rfl).2 _ rfl).2.1 _ _ _ _ _ _ .int dX11_run_69 rfl rfl (Nat.zero_le _) (Nat.zero_le _) ⟨rfl, rfl⟩
set_option maxRecDepth 20000 in
set_option maxHeartbeats 4000000 in
theorem ct_X11_run (hfl : g.1.stackTraces = false) (hS : pS 0 138 S) {m0 : me} {x : (Int32 × me)} (h : f_X11_run m0 = some x) : pm_Ct g mX11_run [.ref 0] (en S m0) 0 0 (qI S x) qF := by
  refine pm_of (by decide +kernel) rfl hfl (Nat.le_of_ble_eq_true rfl) (fun X hE => ?_)
  show pm_G g mX11_run X 0 [some (.ref 0), none, none, none] [] (en S m0) 0 0
  unfold f_X11_run at h
  refine pg_aload_n dX11_run_0 rfl ?_
  refine eg_get dX11_run_1 fa_X11_30 hS sp0 (Nat.le_of_ble_eq_true rfl) (Nat.le_of_ble_eq_true rfl) rfl rfl ?_
  obtain ⟨r1, h_r1, h⟩ := bd_at h
  refine eg_cVi (C := mX7_findFault) (as := []) dX11_run_4 mw208 cv_X7_findFault hS sp111 (Nat.le_of_ble_eq_true rfl) (Nat.le_of_ble_eq_true rfl) rfl rfl rfl (Nat.le_of_ble_eq_true rfl) rfl ⟨(Nat.le_of_ble_eq_true rfl), (Nat.le_of_ble_eq_true rfl)⟩ (ct_X7_findFault hfl (hS.sub (Nat.le_of_ble_eq_true rfl) (Nat.le_of_ble_eq_true rfl)) h_r1) ?_
  refine eg_istore_n [some (.ref 0), some (.int r1.1), none, none] r1.1 dX11_run_7 rfl (Nat.le_of_ble_eq_true rfl) rfl ?_
  refine pg_iload_n dX11_run_8 rfl ?_
  refine pg_iconst (-1) dX11_run_9 rfl ?_
  refine pg_icmp_eq 18 dX11_run_10 (by decide) (fun c2 => ?_) (fun c2 => ?_)
  · rw [if_pos c2] at h
    refine pg_aload_n dX11_run_18 rfl ?_
    refine eg_get dX11_run_19 fa_X11_23 hS sp0 (Nat.le_of_ble_eq_true rfl) (Nat.le_of_ble_eq_true rfl) rfl rfl ?_
    refine pg_aload_n dX11_run_22 rfl ?_
    refine eg_get dX11_run_23 fa_X11_12 hS sp0 (Nat.le_of_ble_eq_true rfl) (Nat.le_of_ble_eq_true rfl) rfl rfl ?_
    obtain ⟨r3, h_r3, h⟩ := bd_at h
    refine eg_cVv (C := mX9_save) (as := [(.ref 1)]) dX11_run_26 mw213 cv_X9_save hS sp28 (Nat.le_of_ble_eq_true rfl) (Nat.le_of_ble_eq_true rfl) rfl rfl rfl (Nat.le_of_ble_eq_true rfl) rfl ⟨(Nat.le_of_ble_eq_true rfl), (Nat.le_of_ble_eq_true rfl)⟩ (ct_X9_save hfl (hS.sub (Nat.le_of_ble_eq_true rfl) (Nat.le_of_ble_eq_true rfl)) h_r3) ?_
    refine pg_aload_n dX11_run_29 rfl ?_
    refine eg_get dX11_run_30 fa_X11_30 hS sp0 (Nat.le_of_ble_eq_true rfl) (Nat.le_of_ble_eq_true rfl) rfl rfl ?_
    obtain ⟨r4, h_r4, h⟩ := bd_at h
    refine eg_cVv (C := mX7_rewind) (as := []) dX11_run_33 mw218 cv_X7_rewind hS sp111 (Nat.le_of_ble_eq_true rfl) (Nat.le_of_ble_eq_true rfl) rfl rfl rfl (Nat.le_of_ble_eq_true rfl) rfl ⟨(Nat.le_of_ble_eq_true rfl), (Nat.le_of_ble_eq_true rfl)⟩ (ct_X7_rewind hfl (hS.sub (Nat.le_of_ble_eq_true rfl) (Nat.le_of_ble_eq_true rfl)) h_r4) ?_
    refine pg_iconst 0 dX11_run_36 rfl ?_
    refine eg_istore_n [some (.ref 0), some (.int r1.1), some (.int 0), none] 0 dX11_run_37 rfl (Nat.le_of_ble_eq_true rfl) rfl ?_
    refine pg_iconst 0 dX11_run_38 rfl ?_
    refine eg_istore_n [some (.ref 0), some (.int r1.1), some (.int 0), some (.int 0)] 0 dX11_run_39 rfl (Nat.le_of_ble_eq_true rfl) rfl ?_
    obtain ⟨s12, h_s12, h⟩ := bd_at h
    refine lo_at (b := b_X11_run_40 r1.1) (G := (fun z9 : Int32 × Int32 × me => pm_G g mX11_run X 40 [some (.ref 0), some (.int r1.1), some (.int z9.1), some (.int z9.2.1)] [] (en S z9.2.2) 0 0)) (T := (fun z8 : ((Int32 × Int32 × me) ⊕ (Int32 × me)) => (∀ z9, z8 = .inl z9 → pm_G g mX11_run X 79 [some (.ref 0), some (.int r1.1), some (.int z9.1), some (.int z9.2.1)] [] (en S z9.2.2) 0 0) ∧ (∀ x9, z8 = .inr x9 → pm_End g mX11_run X 0 0 (qI S x9) qF))) (fun q9 r9 h1 h2 h3 => lb_X11_run_40 hfl hS h1 h2 h3) 2048 (0, 0, r4) s12 h_s12 ⟨fun s13 k_s13 => ?_, fun x14 k_x14 => ?_⟩
    · rw [k_s13] at h
      replace h := sm_l h
      show pm_G g mX11_run X 79 [some (.ref 0), some (.int r1.1), some (.int s13.1), some (.int s13.2.1)] [] (en S s13.2.2) 0 0
      refine pg_iload_n dX11_run_79 rfl ?_
      obtain rfl := Option.some.inj h
      exact hE.2.1 _ _ _ _ _ _ .int dX11_run_80 rfl rfl (Nat.zero_le _) (Nat.zero_le _) ⟨rfl, rfl⟩
    · rw [k_x14] at h
      replace h := sm_r h
      obtain rfl := Option.some.inj h
      exact hE
  · rw [if_neg c2] at h
    refine pg_bipush (-10) dX11_run_13 rfl ?_
    refine pg_iload_n dX11_run_15 rfl ?_
    refine pg_isub dX11_run_16 ?_
    obtain rfl := Option.some.inj h
    exact hE.2.1 _ _ _ _ _ _ .int dX11_run_17 rfl rfl (Nat.zero_le _) (Nat.zero_le _) ⟨rfl, rfl⟩
def f_X11_mix (v0 : Int64) (v2 : Int64) (m0 : me) : Option (Int64 × me) :=
  some (((31 * v0) + v2, m0))
set_option maxRecDepth 20000 in
set_option maxHeartbeats 4000000 in
theorem ct_X11_mix (hfl : g.1.stackTraces = false) {v0 : Int64} {v2 : Int64} {m0 : me} {x : (Int64 × me)} (h : f_X11_mix v0 v2 m0 = some x) : pm_Ct g mX11_mix [.long v0, .long v2] (en S m0) 0 0 (qJ S x) qF := by
  refine pm_of (by decide +kernel) rfl hfl (Nat.le_of_ble_eq_true rfl) (fun X hE => ?_)
  show pm_G g mX11_mix X 0 [some (.long v0), none, some (.long v2), none] [] (en S m0) 0 0
  unfold f_X11_mix at h
  refine pg_ldc2 dX11_mix_0 mw554 ?_
  refine pg_lload_n dX11_mix_3 rfl ?_
  refine pg_lmul dX11_mix_4 ?_
  refine pg_lload_n dX11_mix_5 rfl ?_
  refine pg_ladd dX11_mix_6 ?_
  obtain rfl := Option.some.inj h
  exact hE.2.2.2.1 _ _ _ _ _ _ dX11_mix_7 rfl (Nat.zero_le _) (Nat.zero_le _) ⟨rfl, rfl⟩
def b_X1_countEntries_4 (v1 : Int32) (s : Int32 × Int32 × me) : Option ((Int32 × Int32 × me) ⊕ (Int32 × Int32 × me)) :=
  if 8 ≤ s.2.1 then
    some (.inr (s.1, s.2.1, s.2.2))
  else
    gd (inR ((v1 * 8) + s.2.1) 64) (
    if (s.2.2.1 9 (((v1 * 8) + s.2.1).toNatClampNeg)) = (-1) then
      lt (s.2.1 + 1) (fun w3 =>
      some (.inl (s.1, w3, s.2.2)))
    else
      lt (s.1 + 1) (fun w4 =>
      lt (s.2.1 + 1) (fun w5 =>
      some (.inl (w4, w5, s.2.2)))))
def f_X1_countEntries (v1 : Int32) (m0 : me) : Option (Int32 × me) :=
  bd (lo (b_X1_countEntries_4 v1) 2048 (0, 0, m0)) (fun s6 =>
  some ((s6.1, s6.2.2)))
set_option maxRecDepth 20000 in
set_option maxHeartbeats 4000000 in
theorem lb_X1_countEntries_4 (hfl : g.1.stackTraces = false) (hS : pS 1 28 S) {v1 : Int32} {s : Int32 × Int32 × me} {r : (Int32 × Int32 × me) ⊕ (Int32 × Int32 × me)} (h : b_X1_countEntries_4 v1 s = some r) (hN : ∀ s', r = .inl s' → (fun z9 : Int32 × Int32 × me => pm_G g mX1_countEntries X 4 [some (.ref 2), some (.int v1), some (.int z9.1), some (.int z9.2.1)] [] (en S z9.2.2) 0 0) s') (hT : ∀ t, r = .inr t → (fun z9 : Int32 × Int32 × me => pm_G g mX1_countEntries X 34 [some (.ref 2), some (.int v1), some (.int z9.1), some (.int z9.2.1)] [] (en S z9.2.2) 0 0) t) : (fun z9 : Int32 × Int32 × me => pm_G g mX1_countEntries X 4 [some (.ref 2), some (.int v1), some (.int z9.1), some (.int z9.2.1)] [] (en S z9.2.2) 0 0) s := by
  unfold b_X1_countEntries_4 at h
  show pm_G g mX1_countEntries X 4 [some (.ref 2), some (.int v1), some (.int s.1), some (.int s.2.1)] [] (en S s.2.2) 0 0
  refine pg_iload_n dX1_countEntries_4 rfl ?_
  refine pg_bipush 8 dX1_countEntries_5 rfl ?_
  refine pg_icmp_ge 34 dX1_countEntries_7 (by decide) (fun c1 => ?_) (fun c1 => ?_)
  · rw [if_pos c1] at h
    obtain rfl := Option.some.inj h
    exact hT _ rfl
  · rw [if_neg c1] at h
    refine pg_aload_n dX1_countEntries_10 rfl ?_
    refine eg_get dX1_countEntries_11 fa_X1_30 hS sp2 (Nat.le_of_ble_eq_true rfl) (Nat.le_of_ble_eq_true rfl) rfl rfl ?_
    refine pg_iload_n dX1_countEntries_14 rfl ?_
    refine pg_bipush 8 dX1_countEntries_15 rfl ?_
    refine pg_imul dX1_countEntries_17 ?_
    refine pg_iload_n dX1_countEntries_18 rfl ?_
    refine pg_iadd dX1_countEntries_19 ?_
    obtain ⟨g1, h⟩ := gd_at h
    refine eg_ialdJ (((v1 * 8) + s.2.1).toNatClampNeg) dX1_countEntries_20 hS sp9 (Nat.le_of_ble_eq_true rfl) (Nat.le_of_ble_eq_true rfl) rfl (inR_vp g1) rfl ?_
    refine pg_iconst (-1) dX1_countEntries_21 rfl ?_
    refine pg_icmp_eq 28 dX1_countEntries_22 (by decide) (fun c2 => ?_) (fun c2 => ?_)
    · rw [if_pos c2] at h
      obtain ⟨w3, e_w3⟩ : ∃ z : Int32, z = s.2.1 + 1 := ⟨_, rfl⟩
      replace h := lt_at h e_w3
      refine eg_iinc [some (.ref 2), some (.int v1), some (.int s.1), some (.int w3)] w3 1 dX1_countEntries_28 rfl rfl e_w3 rfl ?_
      refine pg_goto 4 dX1_countEntries_31 (by decide) ?_
      obtain rfl := Option.some.inj h
      exact hN _ rfl
    · rw [if_neg c2] at h
      obtain ⟨w4, e_w4⟩ : ∃ z : Int32, z = s.1 + 1 := ⟨_, rfl⟩
      replace h := lt_at h e_w4
      refine eg_iinc [some (.ref 2), some (.int v1), some (.int w4), some (.int s.2.1)] w4 1 dX1_countEntries_25 rfl rfl e_w4 rfl ?_
      obtain ⟨w5, e_w5⟩ : ∃ z : Int32, z = s.2.1 + 1 := ⟨_, rfl⟩
      replace h := lt_at h e_w5
      refine eg_iinc [some (.ref 2), some (.int v1), some (.int w4), some (.int w5)] w5 1 dX1_countEntries_28 rfl rfl e_w5 rfl ?_
      refine pg_goto 4 dX1_countEntries_31 (by decide) ?_
      obtain rfl := Option.some.inj h
      exact hN _ rfl
set_option maxRecDepth 20000 in
set_option maxHeartbeats 4000000 in
theorem ct_X1_countEntries (hfl : g.1.stackTraces = false) (hS : pS 1 28 S) {v1 : Int32} {m0 : me} {x : (Int32 × me)} (h : f_X1_countEntries v1 m0 = some x) : pm_Ct g mX1_countEntries [.ref 2, .int v1] (en S m0) 0 0 (qI S x) qF := by
  refine pm_of (by decide +kernel) rfl hfl (Nat.le_of_ble_eq_true rfl) (fun X hE => ?_)
  show pm_G g mX1_countEntries X 0 [some (.ref 2), some (.int v1), none, none] [] (en S m0) 0 0
  unfold f_X1_countEntries at h
  refine pg_iconst 0 dX1_countEntries_0 rfl ?_
  refine eg_istore_n [some (.ref 2), some (.int v1), some (.int 0), none] 0 dX1_countEntries_1 rfl (Nat.le_of_ble_eq_true rfl) rfl ?_
  refine pg_iconst 0 dX1_countEntries_2 rfl ?_
  refine eg_istore_n [some (.ref 2), some (.int v1), some (.int 0), some (.int 0)] 0 dX1_countEntries_3 rfl (Nat.le_of_ble_eq_true rfl) rfl ?_
  obtain ⟨s6, h_s6, h⟩ := bd_at h
  refine lo_at (b := b_X1_countEntries_4 v1) (G := (fun z9 : Int32 × Int32 × me => pm_G g mX1_countEntries X 4 [some (.ref 2), some (.int v1), some (.int z9.1), some (.int z9.2.1)] [] (en S z9.2.2) 0 0)) (T := (fun z9 : Int32 × Int32 × me => pm_G g mX1_countEntries X 34 [some (.ref 2), some (.int v1), some (.int z9.1), some (.int z9.2.1)] [] (en S z9.2.2) 0 0)) (fun q9 r9 h1 h2 h3 => lb_X1_countEntries_4 hfl hS h1 h2 h3) 2048 (0, 0, m0) s6 h_s6 ?_
  show pm_G g mX1_countEntries X 34 [some (.ref 2), some (.int v1), some (.int s6.1), some (.int s6.2.1)] [] (en S s6.2.2) 0 0
  refine pg_iload_n dX1_countEntries_34 rfl ?_
  obtain rfl := Option.some.inj h
  exact hE.2.1 _ _ _ _ _ _ .int dX1_countEntries_35 rfl rfl (Nat.zero_le _) (Nat.zero_le _) ⟨rfl, rfl⟩
end
