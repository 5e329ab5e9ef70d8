section
variable {g : pm_Gl} {X : pm_X} {S : List sF}
def j_X6_renewPort_95 (v3 : Int32) (u0 : Int32) (u1 : Int32) (m0 : me) : Option me :=
  if u0 = u1 then
    some (m0)
  else
    lt (wI m0 1 6 ((m0.1 1 6) + 1)) (fun m8 =>
    gd (inR v3 8) (
    lt (wI m8 121 v3.toNatClampNeg 1) (fun m9 =>
    some (m9))))
def j_X6_renewPort_42 (v2 : Int32) (v3 : Int32) (v4 : Int32) (v6 : Int32) (u0 : Int32) (m0 : me) : Option me :=
  bd (f_X6_roleOf v2 v3 v4 m0) (fun r3 =>
  gd (inR v6 32) (
  lt (wI r3.2 20 v6.toNatClampNeg r3.1) (fun m4 =>
  bd (f_X6_moveState v6 (m4.1 1 2) m4) (fun r5 =>
  gd (inR v6 32) (
  if (r5.1 21 v6.toNatClampNeg) = 3 then
    j_X6_renewPort_95 v3 u0 1 r5
  else
    j_X6_renewPort_95 v3 u0 0 r5)))))
def j_X6_renewPort_23 (v2 : Int32) (v3 : Int32) (v4 : Int32) (u0 : Int32) (m0 : me) : Option me :=
  gd (inR u0 32) (
  if (m0.1 21 u0.toNatClampNeg) = 3 then
    j_X6_renewPort_42 v2 v3 v4 u0 1 m0
  else
    j_X6_renewPort_42 v2 v3 v4 u0 0 m0)
def f_X6_renewPort (v2 : Int32) (v3 : Int32) (v4 : Int32) (m0 : me) : Option me :=
  if v4 ≤ v3 then
    j_X6_renewPort_23 v2 v3 v4 ((2 * v2) + 1) m0
  else
    j_X6_renewPort_23 v2 v3 v4 (2 * v2) m0
set_option maxRecDepth 20000 in
set_option maxHeartbeats 4000000 in
theorem lj_X6_renewPort_95 (hfl : g.1.stackTraces = false) (hS : pS 0 138 S) {v3 : Int32} {u0 : Int32} {u1 : Int32} {m0 : me} {r : me} (h : j_X6_renewPort_95 v3 u0 u1 m0 = some r) (hE : pm_End g mX6_renewPort X 0 0 (qV S r) qF) : pm_G g mX6_renewPort X 95 [some (.ref 120), some (.ref 1), none, some (.int v3), none, some (.ref 11), none, none] [(.int u1), (.int u0)] (en S m0) 0 0 := by
  unfold j_X6_renewPort_95 at h
  refine pg_icmp_eq 115 dX6_renewPort_95 (by decide) (fun c7 => ?_) (fun c7 => ?_)
  · rw [if_pos c7] at h
    obtain rfl := Option.some.inj h
    exact hE.2.2.1 _ _ _ _ _ dX6_renewPort_115 rfl (Nat.zero_le _) (Nat.zero_le _) ⟨rfl, rfl⟩
  · rw [if_neg c7] at h
    refine pg_aload_n dX6_renewPort_98 rfl ?_
    refine pg_dup dX6_renewPort_99 rfl ?_
    refine eg_get dX6_renewPort_100 fa_X6_15 hS sp1 (Nat.le_of_ble_eq_true rfl) (Nat.le_of_ble_eq_true rfl) rfl rfl ?_
    refine pg_iconst 1 dX6_renewPort_103 rfl ?_
    refine pg_iadd dX6_renewPort_104 ?_
    refine eg_put dX6_renewPort_105 fa_X6_15 hS sp1 (Nat.le_of_ble_eq_true rfl) (Nat.le_of_ble_eq_true rfl) rfl (Nat.le_of_ble_eq_true rfl) rfl (fun m8 e_m8 => ?_)
    replace h := lt_at h e_m8
    refine pg_aload_n dX6_renewPort_108 rfl ?_
    refine eg_get dX6_renewPort_109 fa_X6_9 hS sp120 (Nat.le_of_ble_eq_true rfl) (Nat.le_of_ble_eq_true rfl) rfl rfl ?_
    refine pg_iload_n dX6_renewPort_112 rfl ?_
    refine pg_iconst 1 dX6_renewPort_113 rfl ?_
    obtain ⟨g1, h⟩ := gd_at h
    refine eg_zastJ v3.toNatClampNeg dX6_renewPort_114 hS sp121 (Nat.le_of_ble_eq_true rfl) (Nat.le_of_ble_eq_true rfl) (fun _ _ _ => rfl) (inR_vp g1) rfl rfl (fun m9 e_m9 => ?_)
    replace h := lt_at h e_m9
    obtain rfl := Option.some.inj h
    exact hE.2.2.1 _ _ _ _ _ dX6_renewPort_115 rfl (Nat.zero_le _) (Nat.zero_le _) ⟨rfl, rfl⟩
set_option maxRecDepth 20000 in
set_option maxHeartbeats 4000000 in
theorem lj_X6_renewPort_42 (hfl : g.1.stackTraces = false) (hS : pS 0 138 S) {v2 : Int32} {v3 : Int32} {v4 : Int32} {v6 : Int32} {u0 : Int32} {m0 : me} {r : me} (h : j_X6_renewPort_42 v2 v3 v4 v6 u0 m0 = some r) (hE : pm_End g mX6_renewPort X 0 0 (qV S r) qF) : pm_G g mX6_renewPort X 42 [some (.ref 120), some (.ref 1), some (.int v2), some (.int v3), some (.int v4), some (.ref 11), some (.int v6), none] [(.int u0)] (en S m0) 0 0 := by
  unfold j_X6_renewPort_42 at h
  refine eg_istore [some (.ref 120), some (.ref 1), some (.int v2), some (.int v3), some (.int v4), some (.ref 11), some (.int v6), some (.int u0)] u0 dX6_renewPort_42 rfl (Nat.le_of_ble_eq_true rfl) rfl ?_
  refine pg_aload dX6_renewPort_44 rfl ?_
  refine eg_get dX6_renewPort_46 fa_X6_44 hS sp11 (Nat.le_of_ble_eq_true rfl) (Nat.le_of_ble_eq_true rfl) rfl rfl ?_
  refine pg_iload dX6_renewPort_49 rfl ?_
  refine pg_aload_n dX6_renewPort_51 rfl ?_
  refine eg_get dX6_renewPort_52 fa_X6_47 hS sp1 (Nat.le_of_ble_eq_true rfl) (Nat.le_of_ble_eq_true rfl) rfl rfl ?_
  refine pg_aload dX6_renewPort_55 rfl ?_
  refine pg_iload_n dX6_renewPort_57 rfl ?_
  refine pg_iload_n dX6_renewPort_58 rfl ?_
  refine pg_iload dX6_renewPort_59 rfl ?_
  obtain ⟨r3, h_r3, h⟩ := bd_at h
  refine eg_cSi (C := mX6_roleOf) (as := [(.ref 2), (.ref 11), (.int v2), (.int v3), (.int v4)]) dX6_renewPort_61 mw493 cs_X6_roleOf rfl rfl (Nat.le_of_ble_eq_true rfl) rfl ⟨(Nat.le_of_ble_eq_true rfl), (Nat.le_of_ble_eq_true rfl)⟩ (ct_X6_roleOf hfl (hS.sub (Nat.le_of_ble_eq_true rfl) (Nat.le_of_ble_eq_true rfl)) h_r3) ?_
  obtain ⟨g1, h⟩ := gd_at h
  refine eg_iastJ v6.toNatClampNeg dX6_renewPort_64 hS sp20 (Nat.le_of_ble_eq_true rfl) (Nat.le_of_ble_eq_true rfl) (fun _ _ _ => rfl) (inR_vp g1) rfl (fun m4 e_m4 => ?_)
  replace h := lt_at h e_m4
  refine pg_aload dX6_renewPort_65 rfl ?_
  refine pg_iload dX6_renewPort_67 rfl ?_
  refine pg_aload_n dX6_renewPort_69 rfl ?_
  refine eg_get dX6_renewPort_70 fa_X6_55 hS sp1 (Nat.le_of_ble_eq_true rfl) (Nat.le_of_ble_eq_true rfl) rfl rfl ?_
  obtain ⟨r5, h_r5, h⟩ := bd_at h
  refine eg_cSv (C := mX6_moveState) (as := [(.ref 11), (.int v6), (.int (m4.1 1 2))]) dX6_renewPort_73 mw498 cs_X6_moveState rfl rfl (Nat.le_of_ble_eq_true rfl) rfl ⟨(Nat.le_of_ble_eq_true rfl), (Nat.le_of_ble_eq_true rfl)⟩ (ct_X6_moveState hfl (hS.sub (Nat.le_of_ble_eq_true rfl) (Nat.le_of_ble_eq_true rfl)) h_r5) ?_
  refine pg_iload dX6_renewPort_76 rfl ?_
  refine pg_aload dX6_renewPort_78 rfl ?_
  refine eg_get dX6_renewPort_80 fa_X6_41 hS sp11 (Nat.le_of_ble_eq_true rfl) (Nat.le_of_ble_eq_true rfl) rfl rfl ?_
  refine pg_iload dX6_renewPort_83 rfl ?_
  obtain ⟨g1, h⟩ := gd_at h
  refine eg_ialdJ v6.toNatClampNeg dX6_renewPort_85 hS sp21 (Nat.le_of_ble_eq_true rfl) (Nat.le_of_ble_eq_true rfl) rfl (inR_vp g1) rfl ?_
  refine pg_iconst 3 dX6_renewPort_86 rfl ?_
  refine pg_icmp_ne 94 dX6_renewPort_87 (by decide) (fun c6 => ?_) (fun c6 => ?_)
  · rw [if_neg c6] at h
    refine pg_iconst 0 dX6_renewPort_94 rfl ?_
    refine eg_forget [some (.ref 120), some (.ref 1), none, some (.int v3), none, some (.ref 11), none, none] (show pm_sub _ _ from ⟨rfl, ⟨rfl, ⟨rfl, ⟨rfl, trivial⟩⟩⟩⟩) ?_
    exact lj_X6_renewPort_95 hfl hS h hE
  · rw [if_pos c6] at h
    refine pg_iconst 1 dX6_renewPort_90 rfl ?_
    refine pg_goto 95 dX6_renewPort_91 (by decide) ?_
    refine eg_forget [some (.ref 120), some (.ref 1), none, some (.int v3), none, some (.ref 11), none, none] (show pm_sub _ _ from ⟨rfl, ⟨rfl, ⟨rfl, ⟨rfl, trivial⟩⟩⟩⟩) ?_
    exact lj_X6_renewPort_95 hfl hS h hE
set_option maxRecDepth 20000 in
set_option maxHeartbeats 4000000 in
theorem lj_X6_renewPort_23 (hfl : g.1.stackTraces = false) (hS : pS 0 138 S) {v2 : Int32} {v3 : Int32} {v4 : Int32} {u0 : Int32} {m0 : me} {r : me} (h : j_X6_renewPort_23 v2 v3 v4 u0 m0 = some r) (hE : pm_End g mX6_renewPort X 0 0 (qV S r) qF) : pm_G g mX6_renewPort X 23 [some (.ref 120), some (.ref 1), some (.int v2), some (.int v3), some (.int v4), some (.ref 11), none, none] [(.int u0)] (en S m0) 0 0 := by
  unfold j_X6_renewPort_23 at h
  refine eg_istore [some (.ref 120), some (.ref 1), some (.int v2), some (.int v3), some (.int v4), some (.ref 11), some (.int u0), none] u0 dX6_renewPort_23 rfl (Nat.le_of_ble_eq_true rfl) rfl ?_
  refine pg_aload dX6_renewPort_25 rfl ?_
  refine eg_get dX6_renewPort_27 fa_X6_41 hS sp11 (Nat.le_of_ble_eq_true rfl) (Nat.le_of_ble_eq_true rfl) rfl rfl ?_
  refine pg_iload dX6_renewPort_30 rfl ?_
  obtain ⟨g1, h⟩ := gd_at h
  refine eg_ialdJ u0.toNatClampNeg dX6_renewPort_32 hS sp21 (Nat.le_of_ble_eq_true rfl) (Nat.le_of_ble_eq_true rfl) rfl (inR_vp g1) rfl ?_
  refine pg_iconst 3 dX6_renewPort_33 rfl ?_
  refine pg_icmp_ne 41 dX6_renewPort_34 (by decide) (fun c2 => ?_) (fun c2 => ?_)
  · rw [if_neg c2] at h
    refine pg_iconst 0 dX6_renewPort_41 rfl ?_
    exact lj_X6_renewPort_42 hfl hS h hE
  · rw [if_pos c2] at h
    refine pg_iconst 1 dX6_renewPort_37 rfl ?_
    refine pg_goto 42 dX6_renewPort_38 (by decide) ?_
    exact lj_X6_renewPort_42 hfl hS h hE
set_option maxRecDepth 20000 in
set_option maxHeartbeats 4000000 in
theorem ct_X6_renewPort (hfl : g.1.stackTraces = false) (hS : pS 0 138 S) {v2 : Int32} {v3 : Int32} {v4 : Int32} {m0 : me} {x : me} (h : f_X6_renewPort v2 v3 v4 m0 = some x) : pm_Ct g mX6_renewPort [.ref 120, .ref 1, .int v2, .int v3, .int v4] (en S m0) 0 0 (qV S x) qF := by
  refine pm_of (by decide +kernel) rfl hfl (Nat.le_of_ble_eq_true rfl) (fun X hE => ?_)
  show pm_G g mX6_renewPort X 0 [some (.ref 120), some (.ref 1), some (.int v2), some (.int v3), some (.int v4), none, none, none] [] (en S m0) 0 0
  unfold f_X6_renewPort at h
  refine pg_aload_n dX6_renewPort_0 rfl ?_
  refine eg_get dX6_renewPort_1 fa_X6_21 hS sp1 (Nat.le_of_ble_eq_true rfl) (Nat.le_of_ble_eq_true rfl) rfl rfl ?_
  refine eg_astore [some (.ref 120), some (.ref 1), some (.int v2), some (.int v3), some (.int v4), some (.ref 11), none, none] dX6_renewPort_4 (Nat.le_of_ble_eq_true rfl) rfl ?_
  refine pg_iload_n dX6_renewPort_6 rfl ?_
  refine pg_iload dX6_renewPort_7 rfl ?_
  refine pg_icmp_ge 18 dX6_renewPort_9 (by decide) (fun c1 => ?_) (fun c1 => ?_)
  · rw [if_pos c1] at h
    refine pg_iconst 2 dX6_renewPort_18 rfl ?_
    refine pg_iload_n dX6_renewPort_19 rfl ?_
    refine pg_imul dX6_renewPort_20 ?_
    refine pg_iconst 1 dX6_renewPort_21 rfl ?_
    refine pg_iadd dX6_renewPort_22 ?_
    exact lj_X6_renewPort_23 hfl hS h hE
  · rw [if_neg c1] at h
    refine pg_iconst 2 dX6_renewPort_12 rfl ?_
    refine pg_iload_n dX6_renewPort_13 rfl ?_
    refine pg_imul dX6_renewPort_14 ?_
    refine pg_goto 23 dX6_renewPort_15 (by decide) ?_
    exact lj_X6_renewPort_23 hfl hS h hE
def b_X6_renew_7 (v2 : Int32) (s : Int32 × me) : Option ((Int32 × me) ⊕ (Int32 × me)) :=
  if 8 ≤ s.1 then
    some (.inr (s.1, s.2))
  else
    gd (inR s.1 8) (
    lt (wI s.2 121 s.1.toNatClampNeg 0) (fun m3 =>
    lt (s.1 + 1) (fun w4 =>
    some (.inl (w4, m3)))))
def b_X6_renew_28 (v2 : Int32) (s : Int32 × me) : Option ((Int32 × me) ⊕ (Int32 × me)) :=
  if (s.2.1 11 0) ≤ s.1 then
    some (.inr (s.1, s.2))
  else
    gd (inR s.1 16) (
    lt (s.2.1 12 s.1.toNatClampNeg) (fun w7 =>
    gd (inR s.1 16) (
    lt (s.2.1 13 s.1.toNatClampNeg) (fun w8 =>
    bd (f_X6_renewPort s.1 w7 w8 s.2) (fun r9 =>
    bd (f_X6_renewPort s.1 w8 w7 r9) (fun r10 =>
    lt (s.1 + 1) (fun w11 =>
    some (.inl (w11, r10)))))))))
def f_X6_renew (m0 : me) : Option (Int32 × me) :=
  lt (m0.1 1 6) (fun w1 =>
  bd (lo (b_X6_renew_7 w1) 2048 (0, m0)) (fun s5 =>
  bd (lo (b_X6_renew_28 w1) 2048 (0, s5.2)) (fun s12 =>
  if (s12.2.1 1 6) = w1 then
    some ((0, s12.2))
  else
    some ((1, s12.2)))))
set_option maxRecDepth 20000 in
set_option maxHeartbeats 4000000 in
theorem lb_X6_renew_7 (hfl : g.1.stackTraces = false) (hS : pS 0 138 S) {v2 : Int32} {s : Int32 × me} {r : (Int32 × me) ⊕ (Int32 × me)} (h : b_X6_renew_7 v2 s = some r) (hN : ∀ s', r = .inl s' → (fun z9 : Int32 × me => pm_G g mX6_renew X 7 [some (.ref 120), some (.ref 1), some (.int v2), some (.int z9.1), none, none] [] (en S z9.2) 0 0) s') (hT : ∀ t, r = .inr t → (fun z9 : Int32 × me => pm_G g mX6_renew X 26 [some (.ref 120), some (.ref 1), some (.int v2), some (.int z9.1), none, none] [] (en S z9.2) 0 0) t) : (fun z9 : Int32 × me => pm_G g mX6_renew X 7 [some (.ref 120), some (.ref 1), some (.int v2), some (.int z9.1), none, none] [] (en S z9.2) 0 0) s := by
  unfold b_X6_renew_7 at h
  show pm_G g mX6_renew X 7 [some (.ref 120), some (.ref 1), some (.int v2), some (.int s.1), none, none] [] (en S s.2) 0 0
  refine pg_iload_n dX6_renew_7 rfl ?_
  refine pg_bipush 8 dX6_renew_8 rfl ?_
  refine pg_icmp_ge 26 dX6_renew_10 (by decide) (fun c2 => ?_) (fun c2 => ?_)
  · rw [if_pos c2] at h
    obtain rfl := Option.some.inj h
    exact hT _ rfl
  · rw [if_neg c2] at h
    refine pg_aload_n dX6_renew_13 rfl ?_
    refine eg_get dX6_renew_14 fa_X6_9 hS sp120 (Nat.le_of_ble_eq_true rfl) (Nat.le_of_ble_eq_true rfl) rfl rfl ?_
    refine pg_iload_n dX6_renew_17 rfl ?_
    refine pg_iconst 0 dX6_renew_18 rfl ?_
    obtain ⟨g1, h⟩ := gd_at h
    refine eg_zastJ s.1.toNatClampNeg dX6_renew_19 hS sp121 (Nat.le_of_ble_eq_true rfl) (Nat.le_of_ble_eq_true rfl) (fun _ _ _ => rfl) (inR_vp g1) rfl rfl (fun m3 e_m3 => ?_)
    replace h := lt_at h e_m3
    obtain ⟨w4, e_w4⟩ : ∃ z : Int32, z = s.1 + 1 := ⟨_, rfl⟩
    replace h := lt_at h e_w4
    refine eg_iinc [some (.ref 120), some (.ref 1), some (.int v2), some (.int w4), none, none] w4 1 dX6_renew_20 rfl rfl e_w4 rfl ?_
    refine pg_goto 7 dX6_renew_23 (by decide) ?_
    obtain rfl := Option.some.inj h
    exact hN _ rfl
set_option maxRecDepth 20000 in
set_option maxHeartbeats 4000000 in
theorem lb_X6_renew_28 (hfl : g.1.stackTraces = false) (hS : pS 0 138 S) {v2 : Int32} {s : Int32 × me} {r : (Int32 × me) ⊕ (Int32 × me)} (h : b_X6_renew_28 v2 s = some r) (hN : ∀ s', r = .inl s' → (fun z9 : Int32 × me => pm_G g mX6_renew X 28 [some (.ref 120), some (.ref 1), some (.int v2), some (.int z9.1), none, none] [] (en S z9.2) 0 0) s') (hT : ∀ t, r = .inr t → (fun z9 : Int32 × me => pm_G g mX6_renew X 87 [some (.ref 120), some (.ref 1), some (.int v2), some (.int z9.1), none, none] [] (en S z9.2) 0 0) t) : (fun z9 : Int32 × me => pm_G g mX6_renew X 28 [some (.ref 120), some (.ref 1), some (.int v2), some (.int z9.1), none, none] [] (en S z9.2) 0 0) s := by
  unfold b_X6_renew_28 at h
  show pm_G g mX6_renew X 28 [some (.ref 120), some (.ref 1), some (.int v2), some (.int s.1), none, none] [] (en S s.2) 0 0
  refine pg_iload_n dX6_renew_28 rfl ?_
  refine pg_aload_n dX6_renew_29 rfl ?_
  refine eg_get dX6_renew_30 fa_X6_21 hS sp1 (Nat.le_of_ble_eq_true rfl) (Nat.le_of_ble_eq_true rfl) rfl rfl ?_
  refine eg_get dX6_renew_33 fa_X6_25 hS sp11 (Nat.le_of_ble_eq_true rfl) (Nat.le_of_ble_eq_true rfl) rfl rfl ?_
  refine pg_icmp_ge 87 dX6_renew_36 (by decide) (fun c6 => ?_) (fun c6 => ?_)
  · rw [if_pos c6] at h
    obtain rfl := Option.some.inj h
    exact hT _ rfl
  · rw [if_neg c6] at h
    refine pg_aload_n dX6_renew_39 rfl ?_
    refine eg_get dX6_renew_40 fa_X6_21 hS sp1 (Nat.le_of_ble_eq_true rfl) (Nat.le_of_ble_eq_true rfl) rfl rfl ?_
    refine eg_get dX6_renew_43 fa_X6_30 hS sp11 (Nat.le_of_ble_eq_true rfl) (Nat.le_of_ble_eq_true rfl) rfl rfl ?_
    refine pg_iload_n dX6_renew_46 rfl ?_
    obtain ⟨g1, h⟩ := gd_at h
    refine eg_ialdJ s.1.toNatClampNeg dX6_renew_47 hS sp12 (Nat.le_of_ble_eq_true rfl) (Nat.le_of_ble_eq_true rfl) rfl (inR_vp g1) rfl ?_
    obtain ⟨w7, e_w7⟩ : ∃ z : Int32, z = s.2.1 12 s.1.toNatClampNeg := ⟨_, rfl⟩
    replace h := lt_at h e_w7
    refine eg_istore [some (.ref 120), some (.ref 1), some (.int v2), some (.int s.1), some (.int w7), none] w7 dX6_renew_48 e_w7 (Nat.le_of_ble_eq_true rfl) rfl ?_
    refine pg_aload_n dX6_renew_50 rfl ?_
    refine eg_get dX6_renew_51 fa_X6_21 hS sp1 (Nat.le_of_ble_eq_true rfl) (Nat.le_of_ble_eq_true rfl) rfl rfl ?_
    refine eg_get dX6_renew_54 fa_X6_34 hS sp11 (Nat.le_of_ble_eq_true rfl) (Nat.le_of_ble_eq_true rfl) rfl rfl ?_
    refine pg_iload_n dX6_renew_57 rfl ?_
    obtain ⟨g1, h⟩ := gd_at h
    refine eg_ialdJ s.1.toNatClampNeg dX6_renew_58 hS sp13 (Nat.le_of_ble_eq_true rfl) (Nat.le_of_ble_eq_true rfl) rfl (inR_vp g1) rfl ?_
    obtain ⟨w8, e_w8⟩ : ∃ z : Int32, z = s.2.1 13 s.1.toNatClampNeg := ⟨_, rfl⟩
    replace h := lt_at h e_w8
    refine eg_istore [some (.ref 120), some (.ref 1), some (.int v2), some (.int s.1), some (.int w7), some (.int w8)] w8 dX6_renew_59 e_w8 (Nat.le_of_ble_eq_true rfl) rfl ?_
    refine pg_aload_n dX6_renew_61 rfl ?_
    refine pg_aload_n dX6_renew_62 rfl ?_
    refine pg_iload_n dX6_renew_63 rfl ?_
    refine pg_iload dX6_renew_64 rfl ?_
    refine pg_iload dX6_renew_66 rfl ?_
    obtain ⟨r9, h_r9, h⟩ := bd_at h
    refine eg_cVv (C := mX6_renewPort) (as := [(.ref 1), (.int s.1), (.int w7), (.int w8)]) dX6_renew_68 mw485 cv_X6_renewPort hS sp120 (Nat.le_of_ble_eq_true rfl) (Nat.le_of_ble_eq_true rfl) rfl rfl rfl (Nat.le_of_ble_eq_true rfl) rfl ⟨(Nat.le_of_ble_eq_true rfl), (Nat.le_of_ble_eq_true rfl)⟩ (ct_X6_renewPort hfl (hS.sub (Nat.le_of_ble_eq_true rfl) (Nat.le_of_ble_eq_true rfl)) h_r9) ?_
    refine pg_aload_n dX6_renew_71 rfl ?_
    refine pg_aload_n dX6_renew_72 rfl ?_
    refine pg_iload_n dX6_renew_73 rfl ?_
    refine pg_iload dX6_renew_74 rfl ?_
    refine pg_iload dX6_renew_76 rfl ?_
    obtain ⟨r10, h_r10, h⟩ := bd_at h
    refine eg_cVv (C := mX6_renewPort) (as := [(.ref 1), (.int s.1), (.int w8), (.int w7)]) dX6_renew_78 mw485 cv_X6_renewPort hS sp120 (Nat.le_of_ble_eq_true rfl) (Nat.le_of_ble_eq_true rfl) rfl rfl rfl (Nat.le_of_ble_eq_true rfl) rfl ⟨(Nat.le_of_ble_eq_true rfl), (Nat.le_of_ble_eq_true rfl)⟩ (ct_X6_renewPort hfl (hS.sub (Nat.le_of_ble_eq_true rfl) (Nat.le_of_ble_eq_true rfl)) h_r10) ?_
    obtain ⟨w11, e_w11⟩ : ∃ z : Int32, z = s.1 + 1 := ⟨_, rfl⟩
    replace h := lt_at h e_w11
    refine eg_iinc [some (.ref 120), some (.ref 1), some (.int v2), some (.int w11), some (.int w7), some (.int w8)] w11 1 dX6_renew_81 rfl rfl e_w11 rfl ?_
    refine pg_goto 28 dX6_renew_84 (by decide) ?_
    obtain rfl := Option.some.inj h
    refine eg_forget [some (.ref 120), some (.ref 1), some (.int v2), some (.int w11), none, none] (show pm_sub _ _ from ⟨rfl, ⟨rfl, ⟨rfl, ⟨rfl, trivial⟩⟩⟩⟩) ?_
    exact hN _ rfl
set_option maxRecDepth 20000 in
set_option maxHeartbeats 4000000 in
theorem ct_X6_renew (hfl : g.1.stackTraces = false) (hS : pS 0 138 S) {m0 : me} {x : (Int32 × me)} (h : f_X6_renew m0 = some x) : pm_Ct g mX6_renew [.ref 120, .ref 1] (en S m0) 0 0 (qI S x) qF := by
  refine pm_of (by decide +kernel) rfl hfl (Nat.le_of_ble_eq_true rfl) (fun X hE => ?_)
  show pm_G g mX6_renew X 0 [some (.ref 120), some (.ref 1), none, none, none, none] [] (en S m0) 0 0
  unfold f_X6_renew at h
  refine pg_aload_n dX6_renew_0 rfl ?_
  refine eg_get dX6_renew_1 fa_X6_15 hS sp1 (Nat.le_of_ble_eq_true rfl) (Nat.le_of_ble_eq_true rfl) rfl rfl ?_
  obtain ⟨w1, e_w1⟩ : ∃ z : Int32, z = m0.1 1 6 := ⟨_, rfl⟩
  replace h := lt_at h e_w1
  refine eg_istore_n [some (.ref 120), some (.ref 1), some (.int w1), none, none, none] w1 dX6_renew_4 e_w1 (Nat.le_of_ble_eq_true rfl) rfl ?_
  refine pg_iconst 0 dX6_renew_5 rfl ?_
  refine eg_istore_n [some (.ref 120), some (.ref 1), some (.int w1), some (.int 0), none, none] 0 dX6_renew_6 rfl (Nat.le_of_ble_eq_true rfl) rfl ?_
  obtain ⟨s5, h_s5, h⟩ := bd_at h
  refine lo_at (b := b_X6_renew_7 w1) (G := (fun z9 : Int32 × me => pm_G g mX6_renew X 7 [some (.ref 120), some (.ref 1), some (.int w1), some (.int z9.1), none, none] [] (en S z9.2) 0 0)) (T := (fun z9 : Int32 × me => pm_G g mX6_renew X 26 [some (.ref 120), some (.ref 1), some (.int w1), some (.int z9.1), none, none] [] (en S z9.2) 0 0)) (fun q9 r9 h1 h2 h3 => lb_X6_renew_7 hfl hS h1 h2 h3) 2048 (0, m0) s5 h_s5 ?_
  show pm_G g mX6_renew X 26 [some (.ref 120), some (.ref 1), some (.int w1), some (.int s5.1), none, none] [] (en S s5.2) 0 0
  refine pg_iconst 0 dX6_renew_26 rfl ?_
  refine eg_istore_n [some (.ref 120), some (.ref 1), some (.int w1), some (.int 0), none, none] 0 dX6_renew_27 rfl (Nat.le_of_ble_eq_true rfl) rfl ?_
  obtain ⟨s12, h_s12, h⟩ := bd_at h
  refine lo_at (b := b_X6_renew_28 w1) (G := (fun z9 : Int32 × me => pm_G g mX6_renew X 28 [some (.ref 120), some (.ref 1), some (.int w1), some (.int z9.1), none, none] [] (en S z9.2) 0 0)) (T := (fun z9 : Int32 × me => pm_G g mX6_renew X 87 [some (.ref 120), some (.ref 1), some (.int w1), some (.int z9.1), none, none] [] (en S z9.2) 0 0)) (fun q9 r9 h1 h2 h3 => lb_X6_renew_28 hfl hS h1 h2 h3) 2048 (0, s5.2) s12 h_s12 ?_
  show pm_G g mX6_renew X 87 [some (.ref 120), some (.ref 1), some (.int w1), some (.int s12.1), none, none] [] (en S s12.2) 0 0
  refine pg_aload_n dX6_renew_87 rfl ?_
  refine eg_get dX6_renew_88 fa_X6_15 hS sp1 (Nat.le_of_ble_eq_true rfl) (Nat.le_of_ble_eq_true rfl) rfl rfl ?_
  refine pg_iload_n dX6_renew_91 rfl ?_
  refine pg_icmp_eq 99 dX6_renew_92 (by decide) (fun c13 => ?_) (fun c13 => ?_)
  · rw [if_pos c13] at h
    refine pg_iconst 0 dX6_renew_99 rfl ?_
    obtain rfl := Option.some.inj h
    exact hE.2.1 _ _ _ _ _ _ .boolean dX6_renew_100 rfl rfl (Nat.zero_le _) (Nat.zero_le _) ⟨rfl, rfl⟩
  · rw [if_neg c13] at h
    refine pg_iconst 1 dX6_renew_95 rfl ?_
    refine pg_goto 100 dX6_renew_96 (by decide) ?_
    obtain rfl := Option.some.inj h
    exact hE.2.1 _ _ _ _ _ _ .boolean dX6_renew_100 rfl rfl (Nat.zero_le _) (Nat.zero_le _) ⟨rfl, rfl⟩
def f_X5_areJoined (v1 : Int32) (v2 : Int32) (m0 : me) : Option (Int32 × me) :=
  gd (inR v1 8) (
  gd (inR v2 8) (
  if (m0.1 127 v1.toNatClampNeg) = (m0.1 127 v2.toNatClampNeg) then
    some ((1, m0))
  else
    some ((0, m0))))
set_option maxRecDepth 20000 in
set_option maxHeartbeats 4000000 in
theorem ct_X5_areJoined (hfl : g.1.stackTraces = false) (hS : pS 0 138 S) {v1 : Int32} {v2 : Int32} {m0 : me} {x : (Int32 × me)} (h : f_X5_areJoined v1 v2 m0 = some x) : pm_Ct g mX5_areJoined [.ref 126, .int v1, .int v2] (en S m0) 0 0 (qI S x) qF := by
  refine pm_of (by decide +kernel) rfl hfl (Nat.le_of_ble_eq_true rfl) (fun X hE => ?_)
  show pm_G g mX5_areJoined X 0 [some (.ref 126), some (.int v1), some (.int v2)] [] (en S m0) 0 0
  unfold f_X5_areJoined at h
  refine pg_aload_n dX5_areJoined_0 rfl ?_
  refine eg_get dX5_areJoined_1 fa_X5_9 hS sp126 (Nat.le_of_ble_eq_true rfl) (Nat.le_of_ble_eq_true rfl) rfl rfl ?_
  refine pg_iload_n dX5_areJoined_4 rfl ?_
  obtain ⟨g1, h⟩ := gd_at h
  refine eg_ialdJ v1.toNatClampNeg dX5_areJoined_5 hS sp127 (Nat.le_of_ble_eq_true rfl) (Nat.le_of_ble_eq_true rfl) rfl (inR_vp g1) rfl ?_
  refine pg_aload_n dX5_areJoined_6 rfl ?_
  refine eg_get dX5_areJoined_7 fa_X5_9 hS sp126 (Nat.le_of_ble_eq_true rfl) (Nat.le_of_ble_eq_true rfl) rfl rfl ?_
  refine pg_iload_n dX5_areJoined_10 rfl ?_
  obtain ⟨g1, h⟩ := gd_at h
  refine eg_ialdJ v2.toNatClampNeg dX5_areJoined_11 hS sp127 (Nat.le_of_ble_eq_true rfl) (Nat.le_of_ble_eq_true rfl) rfl (inR_vp g1) rfl ?_
  refine pg_icmp_ne 19 dX5_areJoined_12 (by decide) (fun c1 => ?_) (fun c1 => ?_)
  · rw [if_neg c1] at h
    refine pg_iconst 0 dX5_areJoined_19 rfl ?_
    obtain rfl := Option.some.inj h
    exact hE.2.1 _ _ _ _ _ _ .boolean dX5_areJoined_20 rfl rfl (Nat.zero_le _) (Nat.zero_le _) ⟨rfl, rfl⟩
  · rw [if_pos c1] at h
    refine pg_iconst 1 dX5_areJoined_15 rfl ?_
    refine pg_goto 20 dX5_areJoined_16 (by decide) ?_
    obtain rfl := Option.some.inj h
    exact hE.2.1 _ _ _ _ _ _ .boolean dX5_areJoined_20 rfl rfl (Nat.zero_le _) (Nat.zero_le _) ⟨rfl, rfl⟩
def f_X1_makeEntry (v1 : Int32) (v2 : Int32) (v3 : Int32) (v4 : Int32) (m0 : me) : Option me :=
  gd (inR ((v1 * 8) + v2) 64) (
  lt (wI m0 9 (((v1 * 8) + v2).toNatClampNeg) v3) (fun m1 =>
  gd (inR ((v1 * 8) + v2) 64) (
  lt (wI m1 10 (((v1 * 8) + v2).toNatClampNeg) v4) (fun m2 =>
  some (m2)))))
set_option maxRecDepth 20000 in
set_option maxHeartbeats 4000000 in
theorem ct_X1_makeEntry (hfl : g.1.stackTraces = false) (hS : pS 1 28 S) {v1 : Int32} {v2 : Int32} {v3 : Int32} {v4 : Int32} {m0 : me} {x : me} (h : f_X1_makeEntry v1 v2 v3 v4 m0 = some x) : pm_Ct g mX1_makeEntry [.ref 2, .int v1, .int v2, .int v3, .int v4] (en S m0) 0 0 (qV S x) qF := by
  refine pm_of (by decide +kernel) rfl hfl (Nat.le_of_ble_eq_true rfl) (fun X hE => ?_)
  show pm_G g mX1_makeEntry X 0 [some (.ref 2), some (.int v1), some (.int v2), some (.int v3), some (.int v4)] [] (en S m0) 0 0
  unfold f_X1_makeEntry at h
  refine pg_aload_n dX1_makeEntry_0 rfl ?_
  refine eg_get dX1_makeEntry_1 fa_X1_30 hS sp2 (Nat.le_of_ble_eq_true rfl) (Nat.le_of_ble_eq_true rfl) rfl rfl ?_
  refine pg_iload_n dX1_makeEntry_4 rfl ?_
  refine pg_bipush 8 dX1_makeEntry_5 rfl ?_
  refine pg_imul dX1_makeEntry_7 ?_
  refine pg_iload_n dX1_makeEntry_8 rfl ?_
  refine pg_iadd dX1_makeEntry_9 ?_
  refine pg_iload_n dX1_makeEntry_10 rfl ?_
  obtain ⟨g1, h⟩ := gd_at h
  refine eg_iastJ (((v1 * 8) + v2).toNatClampNeg) dX1_makeEntry_11 hS sp9 (Nat.le_of_ble_eq_true rfl) (Nat.le_of_ble_eq_true rfl) (fun _ _ _ => rfl) (inR_vp g1) rfl (fun m1 e_m1 => ?_)
  replace h := lt_at h e_m1
  refine pg_aload_n dX1_makeEntry_12 rfl ?_
  refine eg_get dX1_makeEntry_13 fa_X1_33 hS sp2 (Nat.le_of_ble_eq_true rfl) (Nat.le_of_ble_eq_true rfl) rfl rfl ?_
  refine pg_iload_n dX1_makeEntry_16 rfl ?_
  refine pg_bipush 8 dX1_makeEntry_17 rfl ?_
  refine pg_imul dX1_makeEntry_19 ?_
  refine pg_iload_n dX1_makeEntry_20 rfl ?_
  refine pg_iadd dX1_makeEntry_21 ?_
  refine pg_iload dX1_makeEntry_22 rfl ?_
  obtain ⟨g1, h⟩ := gd_at h
  refine eg_iastJ (((v1 * 8) + v2).toNatClampNeg) dX1_makeEntry_24 hS sp10 (Nat.le_of_ble_eq_true rfl) (Nat.le_of_ble_eq_true rfl) (fun _ _ _ => rfl) (inR_vp g1) rfl (fun m2 e_m2 => ?_)
  replace h := lt_at h e_m2
  obtain rfl := Option.some.inj h
  exact hE.2.2.1 _ _ _ _ _ dX1_makeEntry_25 rfl (Nat.zero_le _) (Nat.zero_le _) ⟨rfl, rfl⟩
def b_X1_flush_2 (v1 : Int32) (s : Int32 × me) : Option ((Int32 × me) ⊕ (Int32 × me)) :=
  if 8 ≤ s.1 then
    some (.inr (s.1, s.2))
  else
    bd (f_X1_makeEntry v1 s.1 (-1) 0 s.2) (fun r2 =>
    lt (s.1 + 1) (fun w3 =>
    some (.inl (w3, r2))))
def f_X1_flush (v1 : Int32) (m0 : me) : Option me :=
  bd (lo (b_X1_flush_2 v1) 2048 (0, m0)) (fun s4 =>
  some (s4.2))
set_option maxRecDepth 20000 in
set_option maxHeartbeats 4000000 in
theorem lb_X1_flush_2 (hfl : g.1.stackTraces = false) (hS : pS 1 28 S) {v1 : Int32} {s : Int32 × me} {r : (Int32 × me) ⊕ (Int32 × me)} (h : b_X1_flush_2 v1 s = some r) (hN : ∀ s', r = .inl s' → (fun z9 : Int32 × me => pm_G g mX1_flush X 2 [some (.ref 2), some (.int v1), some (.int z9.1)] [] (en S z9.2) 0 0) s') (hT : ∀ t, r = .inr t → (fun z9 : Int32 × me => pm_G g mX1_flush X 22 [some (.ref 2), some (.int v1), some (.int z9.1)] [] (en S z9.2) 0 0) t) : (fun z9 : Int32 × me => pm_G g mX1_flush X 2 [some (.ref 2), some (.int v1), some (.int z9.1)] [] (en S z9.2) 0 0) s := by
  unfold b_X1_flush_2 at h
  show pm_G g mX1_flush X 2 [some (.ref 2), some (.int v1), some (.int s.1)] [] (en S s.2) 0 0
  refine pg_iload_n dX1_flush_2 rfl ?_
  refine pg_bipush 8 dX1_flush_3 rfl ?_
  refine pg_icmp_ge 22 dX1_flush_5 (by decide) (fun c1 => ?_) (fun c1 => ?_)
  · rw [if_pos c1] at h
    obtain rfl := Option.some.inj h
    exact hT _ rfl
  · rw [if_neg c1] at h
    refine pg_aload_n dX1_flush_8 rfl ?_
    refine pg_iload_n dX1_flush_9 rfl ?_
    refine pg_iload_n dX1_flush_10 rfl ?_
    refine pg_iconst (-1) dX1_flush_11 rfl ?_
    refine pg_iconst 0 dX1_flush_12 rfl ?_
    obtain ⟨r2, h_r2, h⟩ := bd_at h
    refine eg_cVv (C := mX1_makeEntry) (as := [(.int v1), (.int s.1), (.int (-1)), (.int 0)]) dX1_flush_13 mw153 cv_X1_makeEntry hS sp2 (Nat.le_of_ble_eq_true rfl) (Nat.le_of_ble_eq_true rfl) rfl rfl rfl (Nat.le_of_ble_eq_true rfl) rfl ⟨(Nat.le_of_ble_eq_true rfl), (Nat.le_of_ble_eq_true rfl)⟩ (ct_X1_makeEntry hfl (hS.sub (Nat.le_of_ble_eq_true rfl) (Nat.le_of_ble_eq_true rfl)) h_r2) ?_
    obtain ⟨w3, e_w3⟩ : ∃ z : Int32, z = s.1 + 1 := ⟨_, rfl⟩
    replace h := lt_at h e_w3
    refine eg_iinc [some (.ref 2), some (.int v1), some (.int w3)] w3 1 dX1_flush_16 rfl rfl e_w3 rfl ?_
    refine pg_goto 2 dX1_flush_19 (by decide) ?_
    obtain rfl := Option.some.inj h
    exact hN _ rfl
set_option maxRecDepth 20000 in
set_option maxHeartbeats 4000000 in
theorem ct_X1_flush (hfl : g.1.stackTraces = false) (hS : pS 1 28 S) {v1 : Int32} {m0 : me} {x : me} (h : f_X1_flush v1 m0 = some x) : pm_Ct g mX1_flush [.ref 2, .int v1] (en S m0) 0 0 (qV S x) qF := by
  refine pm_of (by decide +kernel) rfl hfl (Nat.le_of_ble_eq_true rfl) (fun X hE => ?_)
  show pm_G g mX1_flush X 0 [some (.ref 2), some (.int v1), none] [] (en S m0) 0 0
  unfold f_X1_flush at h
  refine pg_iconst 0 dX1_flush_0 rfl ?_
  refine eg_istore_n [some (.ref 2), some (.int v1), some (.int 0)] 0 dX1_flush_1 rfl (Nat.le_of_ble_eq_true rfl) rfl ?_
  obtain ⟨s4, h_s4, h⟩ := bd_at h
  refine lo_at (b := b_X1_flush_2 v1) (G := (fun z9 : Int32 × me => pm_G g mX1_flush X 2 [some (.ref 2), some (.int v1), some (.int z9.1)] [] (en S z9.2) 0 0)) (T := (fun z9 : Int32 × me => pm_G g mX1_flush X 22 [some (.ref 2), some (.int v1), some (.int z9.1)] [] (en S z9.2) 0 0)) (fun q9 r9 h1 h2 h3 => lb_X1_flush_2 hfl hS h1 h2 h3) 2048 (0, m0) s4 h_s4 ?_
  show pm_G g mX1_flush X 22 [some (.ref 2), some (.int v1), some (.int s4.1)] [] (en S s4.2) 0 0
  obtain rfl := Option.some.inj h
  exact hE.2.2.1 _ _ _ _ _ dX1_flush_22 rfl (Nat.zero_le _) (Nat.zero_le _) ⟨rfl, rfl⟩
def b_X6_flushTables_13 (v3 : Int32) (s : Int32 × me) : Option ((Int32 × me) ⊕ (Int32 × me)) :=
  if (s.2.1 1 0) ≤ s.1 then
    some (.inr (s.1, s.2))
  else
    gd (inR s.1 8) (
    if (s.2.1 121 s.1.toNatClampNeg) = 0 then
      lt (s.1 + 1) (fun w4 =>
      some (.inl (w4, s.2)))
    else
      bd (f_X5_areJoined s.1 v3 s.2) (fun r5 =>
      if r5.1 = 0 then
        lt (s.1 + 1) (fun w7 =>
        some (.inl (w7, r5.2)))
      else
        bd (f_X1_flush v3 r5.2) (fun r8 =>
        lt (s.1 + 1) (fun w9 =>
        some (.inl (w9, r8))))))
def b_X6_flushTables_2 (s : Int32 × me) : Option ((Int32 × me) ⊕ (Int32 × me)) :=
  if (s.2.1 1 0) ≤ s.1 then
    some (.inr (s.1, s.2))
  else
    bd (lo (b_X6_flushTables_13 s.1) 2048 (0, s.2)) (fun s10 =>
    lt (s.1 + 1) (fun w11 =>
    some (.inl (w11, s10.2))))
def f_X6_flushTables (m0 : me) : Option me :=
  bd (lo (b_X6_flushTables_2) 2048 (0, m0)) (fun s12 =>
  some (s12.2))
set_option maxRecDepth 20000 in
set_option maxHeartbeats 4000000 in
theorem lb_X6_flushTables_13 (hfl : g.1.stackTraces = false) (hS : pS 0 138 S) {v3 : Int32} {s : Int32 × me} {r : (Int32 × me) ⊕ (Int32 × me)} (h : b_X6_flushTables_13 v3 s = some r) (hN : ∀ s', r = .inl s' → (fun z9 : Int32 × me => pm_G g mX6_flushTables X 13 [some (.ref 120), some (.ref 1), some (.ref 126), some (.int v3), some (.int z9.1)] [] (en S z9.2) 0 0) s') (hT : ∀ t, r = .inr t → (fun z9 : Int32 × me => pm_G g mX6_flushTables X 56 [some (.ref 120), some (.ref 1), some (.ref 126), some (.int v3), some (.int z9.1)] [] (en S z9.2) 0 0) t) : (fun z9 : Int32 × me => pm_G g mX6_flushTables X 13 [some (.ref 120), some (.ref 1), some (.ref 126), some (.int v3), some (.int z9.1)] [] (en S z9.2) 0 0) s := by
  unfold b_X6_flushTables_13 at h
  show pm_G g mX6_flushTables X 13 [some (.ref 120), some (.ref 1), some (.ref 126), some (.int v3), some (.int s.1)] [] (en S s.2) 0 0
  refine pg_iload dX6_flushTables_13 rfl ?_
  refine pg_aload_n dX6_flushTables_15 rfl ?_
  refine eg_get dX6_flushTables_16 fa_X6_87 hS sp1 (Nat.le_of_ble_eq_true rfl) (Nat.le_of_ble_eq_true rfl) rfl rfl ?_
  refine pg_icmp_ge 56 dX6_flushTables_19 (by decide) (fun c2 => ?_) (fun c2 => ?_)
  · rw [if_pos c2] at h
    obtain rfl := Option.some.inj h
    exact hT _ rfl
  · rw [if_neg c2] at h
    refine pg_aload_n dX6_flushTables_22 rfl ?_
    refine eg_get dX6_flushTables_23 fa_X6_9 hS sp120 (Nat.le_of_ble_eq_true rfl) (Nat.le_of_ble_eq_true rfl) rfl rfl ?_
    refine pg_iload dX6_flushTables_26 rfl ?_
    obtain ⟨g1, h⟩ := gd_at h
    refine eg_zaldJ s.1.toNatClampNeg dX6_flushTables_28 hS sp121 (Nat.le_of_ble_eq_true rfl) (Nat.le_of_ble_eq_true rfl) rfl (inR_vp g1) rfl ?_
    refine pg_if_eq 50 dX6_flushTables_29 (by decide) (fun c3 => ?_) (fun c3 => ?_)
    · rw [if_pos c3] at h
      obtain ⟨w4, e_w4⟩ : ∃ z : Int32, z = s.1 + 1 := ⟨_, rfl⟩
      replace h := lt_at h e_w4
      refine eg_iinc [some (.ref 120), some (.ref 1), some (.ref 126), some (.int v3), some (.int w4)] w4 1 dX6_flushTables_50 rfl rfl e_w4 rfl ?_
      refine pg_goto 13 dX6_flushTables_53 (by decide) ?_
      obtain rfl := Option.some.inj h
      exact hN _ rfl
    · rw [if_neg c3] at h
      refine pg_aload_n dX6_flushTables_32 rfl ?_
      refine pg_iload dX6_flushTables_33 rfl ?_
      refine pg_iload_n dX6_flushTables_35 rfl ?_
      obtain ⟨r5, h_r5, h⟩ := bd_at h
      refine eg_cVi (C := mX5_areJoined) (as := [(.int s.1), (.int v3)]) dX6_flushTables_36 mw513 cv_X5_areJoined hS sp126 (Nat.le_of_ble_eq_true rfl) (Nat.le_of_ble_eq_true rfl) rfl rfl rfl (Nat.le_of_ble_eq_true rfl) rfl ⟨(Nat.le_of_ble_eq_true rfl), (Nat.le_of_ble_eq_true rfl)⟩ (ct_X5_areJoined hfl (hS.sub (Nat.le_of_ble_eq_true rfl) (Nat.le_of_ble_eq_true rfl)) h_r5) ?_
      refine pg_if_eq 50 dX6_flushTables_39 (by decide) (fun c6 => ?_) (fun c6 => ?_)
      · rw [if_pos c6] at h
        obtain ⟨w7, e_w7⟩ : ∃ z : Int32, z = s.1 + 1 := ⟨_, rfl⟩
        replace h := lt_at h e_w7
        refine eg_iinc [some (.ref 120), some (.ref 1), some (.ref 126), some (.int v3), some (.int w7)] w7 1 dX6_flushTables_50 rfl rfl e_w7 rfl ?_
        refine pg_goto 13 dX6_flushTables_53 (by decide) ?_
        obtain rfl := Option.some.inj h
        exact hN _ rfl
      · rw [if_neg c6] at h
        refine pg_aload_n dX6_flushTables_42 rfl ?_
        refine eg_get dX6_flushTables_43 fa_X6_47 hS sp1 (Nat.le_of_ble_eq_true rfl) (Nat.le_of_ble_eq_true rfl) rfl rfl ?_
        refine pg_iload_n dX6_flushTables_46 rfl ?_
        obtain ⟨r8, h_r8, h⟩ := bd_at h
        refine eg_cVv (C := mX1_flush) (as := [(.int v3)]) dX6_flushTables_47 mw518 cv_X1_flush hS sp2 (Nat.le_of_ble_eq_true rfl) (Nat.le_of_ble_eq_true rfl) rfl rfl rfl (Nat.le_of_ble_eq_true rfl) rfl ⟨(Nat.le_of_ble_eq_true rfl), (Nat.le_of_ble_eq_true rfl)⟩ (ct_X1_flush hfl (hS.sub (Nat.le_of_ble_eq_true rfl) (Nat.le_of_ble_eq_true rfl)) h_r8) ?_
        obtain ⟨w9, e_w9⟩ : ∃ z : Int32, z = s.1 + 1 := ⟨_, rfl⟩
        replace h := lt_at h e_w9
        refine eg_iinc [some (.ref 120), some (.ref 1), some (.ref 126), some (.int v3), some (.int w9)] w9 1 dX6_flushTables_50 rfl rfl e_w9 rfl ?_
        refine pg_goto 13 dX6_flushTables_53 (by decide) ?_
        obtain rfl := Option.some.inj h
        exact hN _ rfl
set_option maxRecDepth 20000 in
set_option maxHeartbeats 4000000 in
theorem lb_X6_flushTables_2 (hfl : g.1.stackTraces = false) (hS : pS 0 138 S) {s : Int32 × me} {r : (Int32 × me) ⊕ (Int32 × me)} (h : b_X6_flushTables_2 s = some r) (hN : ∀ s', r = .inl s' → (fun z9 : Int32 × me => pm_G g mX6_flushTables X 2 [some (.ref 120), some (.ref 1), some (.ref 126), some (.int z9.1), none] [] (en S z9.2) 0 0) s') (hT : ∀ t, r = .inr t → (fun z9 : Int32 × me => pm_G g mX6_flushTables X 62 [some (.ref 120), some (.ref 1), some (.ref 126), some (.int z9.1), none] [] (en S z9.2) 0 0) t) : (fun z9 : Int32 × me => pm_G g mX6_flushTables X 2 [some (.ref 120), some (.ref 1), some (.ref 126), some (.int z9.1), none] [] (en S z9.2) 0 0) s := by
  unfold b_X6_flushTables_2 at h
  show pm_G g mX6_flushTables X 2 [some (.ref 120), some (.ref 1), some (.ref 126), some (.int s.1), none] [] (en S s.2) 0 0
  refine pg_iload_n dX6_flushTables_2 rfl ?_
  refine pg_aload_n dX6_flushTables_3 rfl ?_
  refine eg_get dX6_flushTables_4 fa_X6_87 hS sp1 (Nat.le_of_ble_eq_true rfl) (Nat.le_of_ble_eq_true rfl) rfl rfl ?_
  refine pg_icmp_ge 62 dX6_flushTables_7 (by decide) (fun c1 => ?_) (fun c1 => ?_)
  · rw [if_pos c1] at h
    obtain rfl := Option.some.inj h
    exact hT _ rfl
  · rw [if_neg c1] at h
    refine pg_iconst 0 dX6_flushTables_10 rfl ?_
    refine eg_istore [some (.ref 120), some (.ref 1), some (.ref 126), some (.int s.1), some (.int 0)] 0 dX6_flushTables_11 rfl (Nat.le_of_ble_eq_true rfl) rfl ?_
    obtain ⟨s10, h_s10, h⟩ := bd_at h
    refine lo_at (b := b_X6_flushTables_13 s.1) (G := (fun z9 : Int32 × me => pm_G g mX6_flushTables X 13 [some (.ref 120), some (.ref 1), some (.ref 126), some (.int s.1), some (.int z9.1)] [] (en S z9.2) 0 0)) (T := (fun z9 : Int32 × me => pm_G g mX6_flushTables X 56 [some (.ref 120), some (.ref 1), some (.ref 126), some (.int s.1), some (.int z9.1)] [] (en S z9.2) 0 0)) (fun q9 r9 h1 h2 h3 => lb_X6_flushTables_13 hfl hS h1 h2 h3) 2048 (0, s.2) s10 h_s10 ?_
    show pm_G g mX6_flushTables X 56 [some (.ref 120), some (.ref 1), some (.ref 126), some (.int s.1), some (.int s10.1)] [] (en S s10.2) 0 0
    obtain ⟨w11, e_w11⟩ : ∃ z : Int32, z = s.1 + 1 := ⟨_, rfl⟩
    replace h := lt_at h e_w11
    refine eg_iinc [some (.ref 120), some (.ref 1), some (.ref 126), some (.int w11), some (.int s10.1)] w11 1 dX6_flushTables_56 rfl rfl e_w11 rfl ?_
    refine pg_goto 2 dX6_flushTables_59 (by decide) ?_
    obtain rfl := Option.some.inj h
    refine eg_forget [some (.ref 120), some (.ref 1), some (.ref 126), some (.int w11), none] (show pm_sub _ _ from ⟨rfl, ⟨rfl, ⟨rfl, ⟨rfl, trivial⟩⟩⟩⟩) ?_
    exact hN _ rfl
set_option maxRecDepth 20000 in
set_option maxHeartbeats 4000000 in
theorem ct_X6_flushTables (hfl : g.1.stackTraces = false) (hS : pS 0 138 S) {m0 : me} {x : me} (h : f_X6_flushTables m0 = some x) : pm_Ct g mX6_flushTables [.ref 120, .ref 1, .ref 126] (en S m0) 0 0 (qV S x) qF := by
  refine pm_of (by decide +kernel) rfl hfl (Nat.le_of_ble_eq_true rfl) (fun X hE => ?_)
  show pm_G g mX6_flushTables X 0 [some (.ref 120), some (.ref 1), some (.ref 126), none, none] [] (en S m0) 0 0
  unfold f_X6_flushTables at h
  refine pg_iconst 0 dX6_flushTables_0 rfl ?_
  refine eg_istore_n [some (.ref 120), some (.ref 1), some (.ref 126), some (.int 0), none] 0 dX6_flushTables_1 rfl (Nat.le_of_ble_eq_true rfl) rfl ?_
  obtain ⟨s12, h_s12, h⟩ := bd_at h
  refine lo_at (b := b_X6_flushTables_2) (G := (fun z9 : Int32 × me => pm_G g mX6_flushTables X 2 [some (.ref 120), some (.ref 1), some (.ref 126), some (.int z9.1), none] [] (en S z9.2) 0 0)) (T := (fun z9 : Int32 × me => pm_G g mX6_flushTables X 62 [some (.ref 120), some (.ref 1), some (.ref 126), some (.int z9.1), none] [] (en S z9.2) 0 0)) (fun q9 r9 h1 h2 h3 => lb_X6_flushTables_2 hfl hS h1 h2 h3) 2048 (0, m0) s12 h_s12 ?_
  show pm_G g mX6_flushTables X 62 [some (.ref 120), some (.ref 1), some (.ref 126), some (.int s12.1), none] [] (en S s12.2) 0 0
  obtain rfl := Option.some.inj h
  exact hE.2.2.1 _ _ _ _ _ dX6_flushTables_62 rfl (Nat.zero_le _) (Nat.zero_le _) ⟨rfl, rfl⟩
def f_X8_countingBid (v1 : Int32) (v2 : Int32) (m0 : me) : Option (Int32 × me) :=
  gd (inR ((v1 * 16) + v2) 64) (
  lt (m0.1 27 (((v1 * 16) + v2).toNatClampNeg)) (fun w1 =>
  gd (inR v1 4) (
  if (m0.1 24 v1.toNatClampNeg) < w1 then
    some ((0, m0))
  else
    some ((w1, m0)))))
set_option maxRecDepth 20000 in
set_option maxHeartbeats 4000000 in
theorem ct_X8_countingBid (hfl : g.1.stackTraces = false) (hS : pS 1 28 S) {v1 : Int32} {v2 : Int32} {m0 : me} {x : (Int32 × me)} (h : f_X8_countingBid v1 v2 m0 = some x) : pm_Ct g mX8_countingBid [.ref 23, .int v1, .int v2] (en S m0) 0 0 (qI S x) qF := by
  refine pm_of (by decide +kernel) rfl hfl (Nat.le_of_ble_eq_true rfl) (fun X hE => ?_)
  show pm_G g mX8_countingBid X 0 [some (.ref 23), some (.int v1), some (.int v2), none] [] (en S m0) 0 0
  unfold f_X8_countingBid at h
  refine pg_aload_n dX8_countingBid_0 rfl ?_
  refine eg_get dX8_countingBid_1 fa_X8_21 hS sp23 (Nat.le_of_ble_eq_true rfl) (Nat.le_of_ble_eq_true rfl) rfl rfl ?_
  refine pg_iload_n dX8_countingBid_4 rfl ?_
  refine pg_bipush 16 dX8_countingBid_5 rfl ?_
  refine pg_imul dX8_countingBid_7 ?_
  refine pg_iload_n dX8_countingBid_8 rfl ?_
  refine pg_iadd dX8_countingBid_9 ?_
  obtain ⟨g1, h⟩ := gd_at h
  refine eg_ialdJ (((v1 * 16) + v2).toNatClampNeg) dX8_countingBid_10 hS sp27 (Nat.le_of_ble_eq_true rfl) (Nat.le_of_ble_eq_true rfl) rfl (inR_vp g1) rfl ?_
  obtain ⟨w1, e_w1⟩ : ∃ z : Int32, z = m0.1 27 (((v1 * 16) + v2).toNatClampNeg) := ⟨_, rfl⟩
  replace h := lt_at h e_w1
  refine eg_istore_n [some (.ref 23), some (.int v1), some (.int v2), some (.int w1)] w1 dX8_countingBid_11 e_w1 (Nat.le_of_ble_eq_true rfl) rfl ?_
  refine pg_iload_n dX8_countingBid_12 rfl ?_
  refine pg_aload_n dX8_countingBid_13 rfl ?_
  refine eg_get dX8_countingBid_14 fa_X8_9 hS sp23 (Nat.le_of_ble_eq_true rfl) (Nat.le_of_ble_eq_true rfl) rfl rfl ?_
  refine pg_iload_n dX8_countingBid_17 rfl ?_
  obtain ⟨g1, h⟩ := gd_at h
  refine eg_ialdJ v1.toNatClampNeg dX8_countingBid_18 hS sp24 (Nat.le_of_ble_eq_true rfl) (Nat.le_of_ble_eq_true rfl) rfl (inR_vp g1) rfl ?_
  refine pg_icmp_gt 26 dX8_countingBid_19 (by decide) (fun c2 => ?_) (fun c2 => ?_)
  · rw [if_pos c2] at h
    refine pg_iconst 0 dX8_countingBid_26 rfl ?_
    obtain rfl := Option.some.inj h
    exact hE.2.1 _ _ _ _ _ _ .int dX8_countingBid_27 rfl rfl (Nat.zero_le _) (Nat.zero_le _) ⟨rfl, rfl⟩
  · rw [if_neg c2] at h
    refine pg_iload_n dX8_countingBid_22 rfl ?_
    refine pg_goto 27 dX8_countingBid_23 (by decide) ?_
    obtain rfl := Option.some.inj h
    exact hE.2.1 _ _ _ _ _ _ .int dX8_countingBid_27 rfl rfl (Nat.zero_le _) (Nat.zero_le _) ⟨rfl, rfl⟩
def b_X0_sell_35 (v2 : Int32) (s : Int32 × Int32 × Int32 × Int32 × me) : Option ((Int32 × Int32 × Int32 × Int32 × me) ⊕ (Int32 × Int32 × Int32 × Int32 × me)) :=
  if 4 ≤ s.2.2.2.1 then
    some (.inr (s.1, s.2.1, s.2.2.1, s.2.2.2.1, s.2.2.2.2))
  else
    bd (f_X8_countingBid s.2.2.2.1 v2 s.2.2.2.2) (fun r5 =>
    if r5.1 ≤ s.2.1 then
      if r5.1 ≤ s.2.2.1 then
        lt (s.2.2.2.1 + 1) (fun w8 =>
        some (.inl (s.1, s.2.1, s.2.2.1, w8, r5.2)))
      else
        lt (s.2.2.2.1 + 1) (fun w9 =>
        some (.inl (s.1, s.2.1, r5.1, w9, r5.2)))
    else
      lt (s.2.2.2.1 + 1) (fun w10 =>
      some (.inl (s.2.2.2.1, r5.1, s.2.1, w10, r5.2))))
def j_X0_sell_105 (v2 : Int32) (v3 : Int32) (u0 : Int32) (m0 : me) : Option me :=
  gd (inR v2 16) (
  lt (wI m0 17 v2.toNatClampNeg v3) (fun m14 =>
  gd (inR v2 16) (
  lt (wI m14 18 v2.toNatClampNeg u0) (fun m15 =>
  gd (inR v3 4) (
  gd (inR v3 4) (
  lt (wI m15 24 v3.toNatClampNeg ((m15.1 24 v3.toNatClampNeg) - u0)) (fun m16 =>
  gd (inR v3 4) (
  gd (inR v3 4) (
  lt (wI m16 25 v3.toNatClampNeg ((m16.1 25 v3.toNatClampNeg) + u0)) (fun m17 =>
  some (m17)))))))))))
def f_X0_sell (v2 : Int32) (m0 : me) : Option me :=
  gd (inR v2 16) (
  lt (wI m0 17 v2.toNatClampNeg (-1)) (fun m1 =>
  gd (inR v2 16) (
  lt (wI m1 18 v2.toNatClampNeg 0) (fun m2 =>
  gd (inR v2 16) (
  if (m2.1 16 v2.toNatClampNeg) = 0 then
    some (m2)
  else
    bd (lo (b_X0_sell_35 v2) 2048 ((-1), 0, 0, 0, m2)) (fun s11 =>
    if s11.1 = (-1) then
      some (s11.2.2.2.2)
    else
      if s11.2.2.1 ≤ 0 then
        j_X0_sell_105 v2 s11.1 1 s11.2.2.2.2
      else
        j_X0_sell_105 v2 s11.1 s11.2.2.1 s11.2.2.2.2))))))
set_option maxRecDepth 20000 in
set_option maxHeartbeats 4000000 in
theorem lb_X0_sell_35 (hfl : g.1.stackTraces = false) (hS : pS 1 28 S) {v2 : Int32} {s : Int32 × Int32 × Int32 × Int32 × me} {r : (Int32 × Int32 × Int32 × Int32 × me) ⊕ (Int32 × Int32 × Int32 × Int32 × me)} (h : b_X0_sell_35 v2 s = some r) (hN : ∀ s', r = .inl s' → (fun z9 : Int32 × Int32 × Int32 × Int32 × me => pm_G g mX0_sell X 35 [some (.ref 11), some (.ref 23), some (.int v2), some (.int z9.1), some (.int z9.2.1), some (.int z9.2.2.1), some (.int z9.2.2.2.1), none] [] (en S z9.2.2.2.2) 0 0) s') (hT : ∀ t, r = .inr t → (fun z9 : Int32 × Int32 × Int32 × Int32 × me => pm_G g mX0_sell X 88 [some (.ref 11), some (.ref 23), some (.int v2), some (.int z9.1), some (.int z9.2.1), some (.int z9.2.2.1), some (.int z9.2.2.2.1), none] [] (en S z9.2.2.2.2) 0 0) t) : (fun z9 : Int32 × Int32 × Int32 × Int32 × me => pm_G g mX0_sell X 35 [some (.ref 11), some (.ref 23), some (.int v2), some (.int z9.1), some (.int z9.2.1), some (.int z9.2.2.1), some (.int z9.2.2.2.1), none] [] (en S z9.2.2.2.2) 0 0) s := by
  unfold b_X0_sell_35 at h
  show pm_G g mX0_sell X 35 [some (.ref 11), some (.ref 23), some (.int v2), some (.int s.1), some (.int s.2.1), some (.int s.2.2.1), some (.int s.2.2.2.1), none] [] (en S s.2.2.2.2) 0 0
  refine pg_iload dX0_sell_35 rfl ?_
  refine pg_iconst 4 dX0_sell_37 rfl ?_
  refine pg_icmp_ge 88 dX0_sell_38 (by decide) (fun c4 => ?_) (fun c4 => ?_)
  · rw [if_pos c4] at h
    obtain rfl := Option.some.inj h
    exact hT _ rfl
  · rw [if_neg c4] at h
    refine pg_aload_n dX0_sell_41 rfl ?_
    refine pg_iload dX0_sell_42 rfl ?_
    refine pg_iload_n dX0_sell_44 rfl ?_
    obtain ⟨r5, h_r5, h⟩ := bd_at h
    refine eg_cVi (C := mX8_countingBid) (as := [(.int s.2.2.2.1), (.int v2)]) dX0_sell_45 mw444 cv_X8_countingBid hS sp23 (Nat.le_of_ble_eq_true rfl) (Nat.le_of_ble_eq_true rfl) rfl rfl rfl (Nat.le_of_ble_eq_true rfl) rfl ⟨(Nat.le_of_ble_eq_true rfl), (Nat.le_of_ble_eq_true rfl)⟩ (ct_X8_countingBid hfl (hS.sub (Nat.le_of_ble_eq_true rfl) (Nat.le_of_ble_eq_true rfl)) h_r5) ?_
    refine eg_istore [some (.ref 11), some (.ref 23), some (.int v2), some (.int s.1), some (.int s.2.1), some (.int s.2.2.1), some (.int s.2.2.2.1), some (.int r5.1)] r5.1 dX0_sell_48 rfl (Nat.le_of_ble_eq_true rfl) rfl ?_
    refine pg_iload dX0_sell_50 rfl ?_
    refine pg_iload dX0_sell_52 rfl ?_
    refine pg_icmp_le 71 dX0_sell_54 (by decide) (fun c6 => ?_) (fun c6 => ?_)
    · rw [if_pos c6] at h
      refine pg_iload dX0_sell_71 rfl ?_
      refine pg_iload dX0_sell_73 rfl ?_
      refine pg_icmp_le 82 dX0_sell_75 (by decide) (fun c7 => ?_) (fun c7 => ?_)
      · rw [if_pos c7] at h
        obtain ⟨w8, e_w8⟩ : ∃ z : Int32, z = s.2.2.2.1 + 1 := ⟨_, rfl⟩
        replace h := lt_at h e_w8
        refine eg_iinc [some (.ref 11), some (.ref 23), some (.int v2), some (.int s.1), some (.int s.2.1), some (.int s.2.2.1), some (.int w8), some (.int r5.1)] w8 1 dX0_sell_82 rfl rfl e_w8 rfl ?_
        refine pg_goto 35 dX0_sell_85 (by decide) ?_
        obtain rfl := Option.some.inj h
        refine eg_forget [some (.ref 11), some (.ref 23), some (.int v2), some (.int s.1), some (.int s.2.1), some (.int s.2.2.1), some (.int w8), none] (show pm_sub _ _ from ⟨rfl, ⟨rfl, ⟨rfl, ⟨rfl, ⟨rfl, ⟨rfl, ⟨rfl, trivial⟩⟩⟩⟩⟩⟩⟩) ?_
        exact hN _ rfl
      · rw [if_neg c7] at h
        refine pg_iload dX0_sell_78 rfl ?_
        refine eg_istore [some (.ref 11), some (.ref 23), some (.int v2), some (.int s.1), some (.int s.2.1), some (.int r5.1), some (.int s.2.2.2.1), some (.int r5.1)] r5.1 dX0_sell_80 rfl (Nat.le_of_ble_eq_true rfl) rfl ?_
        obtain ⟨w9, e_w9⟩ : ∃ z : Int32, z = s.2.2.2.1 + 1 := ⟨_, rfl⟩
        replace h := lt_at h e_w9
        refine eg_iinc [some (.ref 11), some (.ref 23), some (.int v2), some (.int s.1), some (.int s.2.1), some (.int r5.1), some (.int w9), some (.int r5.1)] w9 1 dX0_sell_82 rfl rfl e_w9 rfl ?_
        refine pg_goto 35 dX0_sell_85 (by decide) ?_
        obtain rfl := Option.some.inj h
        refine eg_forget [some (.ref 11), some (.ref 23), some (.int v2), some (.int s.1), some (.int s.2.1), some (.int r5.1), some (.int w9), none] (show pm_sub _ _ from ⟨rfl, ⟨rfl, ⟨rfl, ⟨rfl, ⟨rfl, ⟨rfl, ⟨rfl, trivial⟩⟩⟩⟩⟩⟩⟩) ?_
        exact hN _ rfl
    · rw [if_neg c6] at h
      refine pg_iload dX0_sell_57 rfl ?_
      refine eg_istore [some (.ref 11), some (.ref 23), some (.int v2), some (.int s.1), some (.int s.2.1), some (.int s.2.1), some (.int s.2.2.2.1), some (.int r5.1)] s.2.1 dX0_sell_59 rfl (Nat.le_of_ble_eq_true rfl) rfl ?_
      refine pg_iload dX0_sell_61 rfl ?_
      refine eg_istore [some (.ref 11), some (.ref 23), some (.int v2), some (.int s.1), some (.int r5.1), some (.int s.2.1), some (.int s.2.2.2.1), some (.int r5.1)] r5.1 dX0_sell_63 rfl (Nat.le_of_ble_eq_true rfl) rfl ?_
      refine pg_iload dX0_sell_65 rfl ?_
      refine eg_istore_n [some (.ref 11), some (.ref 23), some (.int v2), some (.int s.2.2.2.1), some (.int r5.1), some (.int s.2.1), some (.int s.2.2.2.1), some (.int r5.1)] s.2.2.2.1 dX0_sell_67 rfl (Nat.le_of_ble_eq_true rfl) rfl ?_
      refine pg_goto 82 dX0_sell_68 (by decide) ?_
      obtain ⟨w10, e_w10⟩ : ∃ z : Int32, z = s.2.2.2.1 + 1 := ⟨_, rfl⟩
      replace h := lt_at h e_w10
      refine eg_iinc [some (.ref 11), some (.ref 23), some (.int v2), some (.int s.2.2.2.1), some (.int r5.1), some (.int s.2.1), some (.int w10), some (.int r5.1)] w10 1 dX0_sell_82 rfl rfl e_w10 rfl ?_
      refine pg_goto 35 dX0_sell_85 (by decide) ?_
      obtain rfl := Option.some.inj h
      refine eg_forget [some (.ref 11), some (.ref 23), some (.int v2), some (.int s.2.2.2.1), some (.int r5.1), some (.int s.2.1), some (.int w10), none] (show pm_sub _ _ from ⟨rfl, ⟨rfl, ⟨rfl, ⟨rfl, ⟨rfl, ⟨rfl, ⟨rfl, trivial⟩⟩⟩⟩⟩⟩⟩) ?_
      exact hN _ rfl
set_option maxRecDepth 20000 in
set_option maxHeartbeats 4000000 in
theorem lj_X0_sell_105 (hfl : g.1.stackTraces = false) (hS : pS 1 28 S) {v2 : Int32} {v3 : Int32} {u0 : Int32} {m0 : me} {r : me} (h : j_X0_sell_105 v2 v3 u0 m0 = some r) (hE : pm_End g mX0_sell X 0 0 (qV S r) qF) : pm_G g mX0_sell X 105 [some (.ref 11), some (.ref 23), some (.int v2), some (.int v3), none, none, none, none] [(.int u0)] (en S m0) 0 0 := by
  unfold j_X0_sell_105 at h
  refine eg_istore [some (.ref 11), some (.ref 23), some (.int v2), some (.int v3), none, none, some (.int u0), none] u0 dX0_sell_105 rfl (Nat.le_of_ble_eq_true rfl) rfl ?_
  refine pg_aload_n dX0_sell_107 rfl ?_
  refine eg_get dX0_sell_108 fa_X0_47 hS sp11 (Nat.le_of_ble_eq_true rfl) (Nat.le_of_ble_eq_true rfl) rfl rfl ?_
  refine pg_iload_n dX0_sell_111 rfl ?_
  refine pg_iload_n dX0_sell_112 rfl ?_
  obtain ⟨g1, h⟩ := gd_at h
  refine eg_iastJ v2.toNatClampNeg dX0_sell_113 hS sp17 (Nat.le_of_ble_eq_true rfl) (Nat.le_of_ble_eq_true rfl) (fun _ _ _ => rfl) (inR_vp g1) rfl (fun m14 e_m14 => ?_)
  replace h := lt_at h e_m14
  refine pg_aload_n dX0_sell_114 rfl ?_
  refine eg_get dX0_sell_115 fa_X0_50 hS sp11 (Nat.le_of_ble_eq_true rfl) (Nat.le_of_ble_eq_true rfl) rfl rfl ?_
  refine pg_iload_n dX0_sell_118 rfl ?_
  refine pg_iload dX0_sell_119 rfl ?_
  obtain ⟨g1, h⟩ := gd_at h
  refine eg_iastJ v2.toNatClampNeg dX0_sell_121 hS sp18 (Nat.le_of_ble_eq_true rfl) (Nat.le_of_ble_eq_true rfl) (fun _ _ _ => rfl) (inR_vp g1) rfl (fun m15 e_m15 => ?_)
  replace h := lt_at h e_m15
  refine pg_aload_n dX0_sell_122 rfl ?_
  refine eg_get dX0_sell_123 fa_X0_19 hS sp23 (Nat.le_of_ble_eq_true rfl) (Nat.le_of_ble_eq_true rfl) rfl rfl ?_
  refine pg_iload_n dX0_sell_126 rfl ?_
  refine pg_dup2 dX0_sell_127 rfl rfl ?_
  obtain ⟨g1, h⟩ := gd_at h
  refine eg_ialdJ v3.toNatClampNeg dX0_sell_128 hS sp24 (Nat.le_of_ble_eq_true rfl) (Nat.le_of_ble_eq_true rfl) rfl (inR_vp g1) rfl ?_
  refine pg_iload dX0_sell_129 rfl ?_
  refine pg_isub dX0_sell_131 ?_
  obtain ⟨g1, h⟩ := gd_at h
  refine eg_iastJ v3.toNatClampNeg dX0_sell_132 hS sp24 (Nat.le_of_ble_eq_true rfl) (Nat.le_of_ble_eq_true rfl) (fun _ _ _ => rfl) (inR_vp g1) rfl (fun m16 e_m16 => ?_)
  replace h := lt_at h e_m16
  refine pg_aload_n dX0_sell_133 rfl ?_
  refine eg_get dX0_sell_134 fa_X0_61 hS sp23 (Nat.le_of_ble_eq_true rfl) (Nat.le_of_ble_eq_true rfl) rfl rfl ?_
  refine pg_iload_n dX0_sell_137 rfl ?_
  refine pg_dup2 dX0_sell_138 rfl rfl ?_
  obtain ⟨g1, h⟩ := gd_at h
  refine eg_ialdJ v3.toNatClampNeg dX0_sell_139 hS sp25 (Nat.le_of_ble_eq_true rfl) (Nat.le_of_ble_eq_true rfl) rfl (inR_vp g1) rfl ?_
  refine pg_iload dX0_sell_140 rfl ?_
  refine pg_iadd dX0_sell_142 ?_
  obtain ⟨g1, h⟩ := gd_at h
  refine eg_iastJ v3.toNatClampNeg dX0_sell_143 hS sp25 (Nat.le_of_ble_eq_true rfl) (Nat.le_of_ble_eq_true rfl) (fun _ _ _ => rfl) (inR_vp g1) rfl (fun m17 e_m17 => ?_)
  replace h := lt_at h e_m17
  obtain rfl := Option.some.inj h
  exact hE.2.2.1 _ _ _ _ _ dX0_sell_144 rfl (Nat.zero_le _) (Nat.zero_le _) ⟨rfl, rfl⟩
set_option maxRecDepth 20000 in
set_option maxHeartbeats 4000000 in
theorem ct_X0_sell (hfl : g.1.stackTraces = false) (hS : pS 1 28 S) {v2 : Int32} {m0 : me} {x : me} (h : f_X0_sell v2 m0 = some x) : pm_Ct g mX0_sell [.ref 11, .ref 23, .int v2] (en S m0) 0 0 (qV S x) qF := by
  refine pm_of (by decide +kernel) rfl hfl (Nat.le_of_ble_eq_true rfl) (fun X hE => ?_)
  show pm_G g mX0_sell X 0 [some (.ref 11), some (.ref 23), some (.int v2), none, none, none, none, none] [] (en S m0) 0 0
  unfold f_X0_sell at h
  refine pg_aload_n dX0_sell_0 rfl ?_
  refine eg_get dX0_sell_1 fa_X0_47 hS sp11 (Nat.le_of_ble_eq_true rfl) (Nat.le_of_ble_eq_true rfl) rfl rfl ?_
  refine pg_iload_n dX0_sell_4 rfl ?_
  refine pg_iconst (-1) dX0_sell_5 rfl ?_
  obtain ⟨g1, h⟩ := gd_at h
  refine eg_iastJ v2.toNatClampNeg dX0_sell_6 hS sp17 (Nat.le_of_ble_eq_true rfl) (Nat.le_of_ble_eq_true rfl) (fun _ _ _ => rfl) (inR_vp g1) rfl (fun m1 e_m1 => ?_)
  replace h := lt_at h e_m1
  refine pg_aload_n dX0_sell_7 rfl ?_
  refine eg_get dX0_sell_8 fa_X0_50 hS sp11 (Nat.le_of_ble_eq_true rfl) (Nat.le_of_ble_eq_true rfl) rfl rfl ?_
  refine pg_iload_n dX0_sell_11 rfl ?_
  refine pg_iconst 0 dX0_sell_12 rfl ?_
  obtain ⟨g1, h⟩ := gd_at h
  refine eg_iastJ v2.toNatClampNeg dX0_sell_13 hS sp18 (Nat.le_of_ble_eq_true rfl) (Nat.le_of_ble_eq_true rfl) (fun _ _ _ => rfl) (inR_vp g1) rfl (fun m2 e_m2 => ?_)
  replace h := lt_at h e_m2
  refine pg_aload_n dX0_sell_14 rfl ?_
  refine eg_get dX0_sell_15 fa_X0_53 hS sp11 (Nat.le_of_ble_eq_true rfl) (Nat.le_of_ble_eq_true rfl) rfl rfl ?_
  refine pg_iload_n dX0_sell_18 rfl ?_
  obtain ⟨g1, h⟩ := gd_at h
  refine eg_zaldJ v2.toNatClampNeg dX0_sell_19 hS sp16 (Nat.le_of_ble_eq_true rfl) (Nat.le_of_ble_eq_true rfl) rfl (inR_vp g1) rfl ?_
  refine pg_if_ne 24 dX0_sell_20 (by decide) (fun c3 => ?_) (fun c3 => ?_)
  · rw [if_neg c3] at h
    refine pg_iconst (-1) dX0_sell_24 rfl ?_
    refine eg_istore_n [some (.ref 11), some (.ref 23), some (.int v2), some (.int (-1)), none, none, none, none] (-1) dX0_sell_25 rfl (Nat.le_of_ble_eq_true rfl) rfl ?_
    refine pg_iconst 0 dX0_sell_26 rfl ?_
    refine eg_istore [some (.ref 11), some (.ref 23), some (.int v2), some (.int (-1)), some (.int 0), none, none, none] 0 dX0_sell_27 rfl (Nat.le_of_ble_eq_true rfl) rfl ?_
    refine pg_iconst 0 dX0_sell_29 rfl ?_
    refine eg_istore [some (.ref 11), some (.ref 23), some (.int v2), some (.int (-1)), some (.int 0), some (.int 0), none, none] 0 dX0_sell_30 rfl (Nat.le_of_ble_eq_true rfl) rfl ?_
    refine pg_iconst 0 dX0_sell_32 rfl ?_
    refine eg_istore [some (.ref 11), some (.ref 23), some (.int v2), some (.int (-1)), some (.int 0), some (.int 0), some (.int 0), none] 0 dX0_sell_33 rfl (Nat.le_of_ble_eq_true rfl) rfl ?_
    obtain ⟨s11, h_s11, h⟩ := bd_at h
    refine lo_at (b := b_X0_sell_35 v2) (G := (fun z9 : Int32 × Int32 × Int32 × Int32 × me => pm_G g mX0_sell X 35 [some (.ref 11), some (.ref 23), some (.int v2), some (.int z9.1), some (.int z9.2.1), some (.int z9.2.2.1), some (.int z9.2.2.2.1), none] [] (en S z9.2.2.2.2) 0 0)) (T := (fun z9 : Int32 × Int32 × Int32 × Int32 × me => pm_G g mX0_sell X 88 [some (.ref 11), some (.ref 23), some (.int v2), some (.int z9.1), some (.int z9.2.1), some (.int z9.2.2.1), some (.int z9.2.2.2.1), none] [] (en S z9.2.2.2.2) 0 0)) (fun q9 r9 h1 h2 h3 => lb_X0_sell_35 hfl hS h1 h2 h3) 2048 ((-1), 0, 0, 0, m2) s11 h_s11 ?_
    show pm_G g mX0_sell X 88 [some (.ref 11), some (.ref 23), some (.int v2), some (.int s11.1), some (.int s11.2.1), some (.int s11.2.2.1), some (.int s11.2.2.2.1), none] [] (en S s11.2.2.2.2) 0 0
    refine pg_iload_n dX0_sell_88 rfl ?_
    refine pg_iconst (-1) dX0_sell_89 rfl ?_
    refine pg_icmp_ne 94 dX0_sell_90 (by decide) (fun c12 => ?_) (fun c12 => ?_)
    · rw [if_neg c12] at h
      refine pg_iload dX0_sell_94 rfl ?_
      refine pg_if_le 104 dX0_sell_96 (by decide) (fun c13 => ?_) (fun c13 => ?_)
      · rw [if_pos c13] at h
        refine pg_iconst 1 dX0_sell_104 rfl ?_
        refine eg_forget [some (.ref 11), some (.ref 23), some (.int v2), some (.int s11.1), none, none, none, none] (show pm_sub _ _ from ⟨rfl, ⟨rfl, ⟨rfl, ⟨rfl, trivial⟩⟩⟩⟩) ?_
        exact lj_X0_sell_105 hfl hS h hE
      · rw [if_neg c13] at h
        refine pg_iload dX0_sell_99 rfl ?_
        refine pg_goto 105 dX0_sell_101 (by decide) ?_
        refine eg_forget [some (.ref 11), some (.ref 23), some (.int v2), some (.int s11.1), none, none, none, none] (show pm_sub _ _ from ⟨rfl, ⟨rfl, ⟨rfl, ⟨rfl, trivial⟩⟩⟩⟩) ?_
        exact lj_X0_sell_105 hfl hS h hE
    · rw [if_pos c12] at h
      obtain rfl := Option.some.inj h
      exact hE.2.2.1 _ _ _ _ _ dX0_sell_93 rfl (Nat.zero_le _) (Nat.zero_le _) ⟨rfl, rfl⟩
  · rw [if_pos c3] at h
    obtain rfl := Option.some.inj h
    exact hE.2.2.1 _ _ _ _ _ dX0_sell_23 rfl (Nat.zero_le _) (Nat.zero_le _) ⟨rfl, rfl⟩
end
