section
variable {g : pm_Gl} {X : pm_X} {S : List sF}
def f_X4_isAuctionDue (m0 : me) : Option (Int32 × me) :=
  if (m0.1 1 3) ≤ 0 then
    some ((0, m0))
  else
    gd (nz (m0.1 1 3)) (
    if ((m0.1 1 1) - (m0.1 1 1) / (m0.1 1 3) * (m0.1 1 3)) = 0 then
      some ((1, m0))
    else
      some ((0, m0)))
set_option maxRecDepth 20000 in
set_option maxHeartbeats 4000000 in
theorem ct_X4_isAuctionDue (hfl : g.1.stackTraces = false) (hS : pS 1 28 S) {m0 : me} {x : (Int32 × me)} (h : f_X4_isAuctionDue m0 = some x) : pm_Ct g mX4_isAuctionDue [.ref 1] (en S m0) 0 0 (qI S x) qF := by
  refine pm_of (by decide +kernel) rfl hfl (Nat.le_of_ble_eq_true rfl) (fun X hE => ?_)
  show pm_G g mX4_isAuctionDue X 0 [some (.ref 1)] [] (en S m0) 0 0
  unfold f_X4_isAuctionDue at h
  refine pg_aload_n dX4_isAuctionDue_0 rfl ?_
  refine eg_get dX4_isAuctionDue_1 fa_X4_15 hS sp1 (Nat.le_of_ble_eq_true rfl) (Nat.le_of_ble_eq_true rfl) rfl rfl ?_
  refine pg_if_le 23 dX4_isAuctionDue_4 (by decide) (fun c1 => ?_) (fun c1 => ?_)
  · rw [if_pos c1] at h
    refine pg_iconst 0 dX4_isAuctionDue_23 rfl ?_
    obtain rfl := Option.some.inj h
    exact hE.2.1 _ _ _ _ _ _ .boolean dX4_isAuctionDue_24 rfl rfl (Nat.zero_le _) (Nat.zero_le _) ⟨rfl, rfl⟩
  · rw [if_neg c1] at h
    refine pg_aload_n dX4_isAuctionDue_7 rfl ?_
    refine eg_get dX4_isAuctionDue_8 fa_X4_45 hS sp1 (Nat.le_of_ble_eq_true rfl) (Nat.le_of_ble_eq_true rfl) rfl rfl ?_
    refine pg_aload_n dX4_isAuctionDue_11 rfl ?_
    refine eg_get dX4_isAuctionDue_12 fa_X4_15 hS sp1 (Nat.le_of_ble_eq_true rfl) (Nat.le_of_ble_eq_true rfl) rfl rfl ?_
    obtain ⟨g1, h⟩ := gd_at h
    refine pg_irem dX4_isAuctionDue_15 (nz_ne g1) ?_
    refine pg_if_ne 23 dX4_isAuctionDue_16 (by decide) (fun c2 => ?_) (fun c2 => ?_)
    · rw [if_neg c2] at h
      refine pg_iconst 0 dX4_isAuctionDue_23 rfl ?_
      obtain rfl := Option.some.inj h
      exact hE.2.1 _ _ _ _ _ _ .boolean dX4_isAuctionDue_24 rfl rfl (Nat.zero_le _) (Nat.zero_le _) ⟨rfl, rfl⟩
    · rw [if_pos c2] at h
      refine pg_iconst 1 dX4_isAuctionDue_19 rfl ?_
      refine pg_goto 24 dX4_isAuctionDue_20 (by decide) ?_
      obtain rfl := Option.some.inj h
      exact hE.2.1 _ _ _ _ _ _ .boolean dX4_isAuctionDue_24 rfl rfl (Nat.zero_le _) (Nat.zero_le _) ⟨rfl, rfl⟩
def f_X10_isBetter (v1 : Int32) (v2 : Int32) (v3 : Int32) (v4 : Int32) (m0 : me) : Option (Int32 × me) :=
  gd (inR v1 8) (
  if v2 = (m0.1 115 v1.toNatClampNeg) then
    gd (inR v1 8) (
    if v3 = (m0.1 116 v1.toNatClampNeg) then
      gd (inR v1 8) (
      if (m0.1 119 v1.toNatClampNeg) ≤ v4 then
        some ((0, m0))
      else
        some ((1, m0)))
    else
      gd (inR v1 8) (
      if (m0.1 116 v1.toNatClampNeg) ≤ v3 then
        some ((0, m0))
      else
        some ((1, m0))))
  else
    gd (inR v1 8) (
    if (m0.1 115 v1.toNatClampNeg) ≤ v2 then
      some ((0, m0))
    else
      some ((1, m0))))
set_option maxRecDepth 20000 in
set_option maxHeartbeats 4000000 in
theorem ct_X10_isBetter (hfl : g.1.stackTraces = false) (hS : pS 0 138 S) {v1 : Int32} {v2 : Int32} {v3 : Int32} {v4 : Int32} {m0 : me} {x : (Int32 × me)} (h : f_X10_isBetter v1 v2 v3 v4 m0 = some x) : pm_Ct g mX10_isBetter [.ref 114, .int v1, .int v2, .int v3, .int v4] (en S m0) 0 0 (qI S x) qF := by
  refine pm_of (by decide +kernel) rfl hfl (Nat.le_of_ble_eq_true rfl) (fun X hE => ?_)
  show pm_G g mX10_isBetter X 0 [some (.ref 114), some (.int v1), some (.int v2), some (.int v3), some (.int v4)] [] (en S m0) 0 0
  unfold f_X10_isBetter at h
  refine pg_iload_n dX10_isBetter_0 rfl ?_
  refine pg_aload_n dX10_isBetter_1 rfl ?_
  refine eg_get dX10_isBetter_2 fa_X10_9 hS sp114 (Nat.le_of_ble_eq_true rfl) (Nat.le_of_ble_eq_true rfl) rfl rfl ?_
  refine pg_iload_n dX10_isBetter_5 rfl ?_
  obtain ⟨g1, h⟩ := gd_at h
  refine eg_ialdJ v1.toNatClampNeg dX10_isBetter_6 hS sp115 (Nat.le_of_ble_eq_true rfl) (Nat.le_of_ble_eq_true rfl) rfl (inR_vp g1) rfl ?_
  refine pg_icmp_eq 26 dX10_isBetter_7 (by decide) (fun c1 => ?_) (fun c1 => ?_)
  · rw [if_pos c1] at h
    refine pg_iload_n dX10_isBetter_26 rfl ?_
    refine pg_aload_n dX10_isBetter_27 rfl ?_
    refine eg_get dX10_isBetter_28 fa_X10_15 hS sp114 (Nat.le_of_ble_eq_true rfl) (Nat.le_of_ble_eq_true rfl) rfl rfl ?_
    refine pg_iload_n dX10_isBetter_31 rfl ?_
    obtain ⟨g1, h⟩ := gd_at h
    refine eg_ialdJ v1.toNatClampNeg dX10_isBetter_32 hS sp116 (Nat.le_of_ble_eq_true rfl) (Nat.le_of_ble_eq_true rfl) rfl (inR_vp g1) rfl ?_
    refine pg_icmp_eq 52 dX10_isBetter_33 (by decide) (fun c2 => ?_) (fun c2 => ?_)
    · rw [if_pos c2] at h
      refine pg_iload dX10_isBetter_52 rfl ?_
      refine pg_aload_n dX10_isBetter_54 rfl ?_
      refine eg_get dX10_isBetter_55 fa_X10_24 hS sp114 (Nat.le_of_ble_eq_true rfl) (Nat.le_of_ble_eq_true rfl) rfl rfl ?_
      refine pg_iload_n dX10_isBetter_58 rfl ?_
      obtain ⟨g1, h⟩ := gd_at h
      refine eg_ialdJ v1.toNatClampNeg dX10_isBetter_59 hS sp119 (Nat.le_of_ble_eq_true rfl) (Nat.le_of_ble_eq_true rfl) rfl (inR_vp g1) rfl ?_
      refine pg_icmp_ge 67 dX10_isBetter_60 (by decide) (fun c3 => ?_) (fun c3 => ?_)
      · rw [if_pos c3] at h
        refine pg_iconst 0 dX10_isBetter_67 rfl ?_
        obtain rfl := Option.some.inj h
        exact hE.2.1 _ _ _ _ _ _ .boolean dX10_isBetter_68 rfl rfl (Nat.zero_le _) (Nat.zero_le _) ⟨rfl, rfl⟩
      · rw [if_neg c3] at h
        refine pg_iconst 1 dX10_isBetter_63 rfl ?_
        refine pg_goto 68 dX10_isBetter_64 (by decide) ?_
        obtain rfl := Option.some.inj h
        exact hE.2.1 _ _ _ _ _ _ .boolean dX10_isBetter_68 rfl rfl (Nat.zero_le _) (Nat.zero_le _) ⟨rfl, rfl⟩
    · rw [if_neg c2] at h
      refine pg_iload_n dX10_isBetter_36 rfl ?_
      refine pg_aload_n dX10_isBetter_37 rfl ?_
      refine eg_get dX10_isBetter_38 fa_X10_15 hS sp114 (Nat.le_of_ble_eq_true rfl) (Nat.le_of_ble_eq_true rfl) rfl rfl ?_
      refine pg_iload_n dX10_isBetter_41 rfl ?_
      obtain ⟨g1, h⟩ := gd_at h
      refine eg_ialdJ v1.toNatClampNeg dX10_isBetter_42 hS sp116 (Nat.le_of_ble_eq_true rfl) (Nat.le_of_ble_eq_true rfl) rfl (inR_vp g1) rfl ?_
      refine pg_icmp_ge 50 dX10_isBetter_43 (by decide) (fun c4 => ?_) (fun c4 => ?_)
      · rw [if_pos c4] at h
        refine pg_iconst 0 dX10_isBetter_50 rfl ?_
        obtain rfl := Option.some.inj h
        exact hE.2.1 _ _ _ _ _ _ .boolean dX10_isBetter_51 rfl rfl (Nat.zero_le _) (Nat.zero_le _) ⟨rfl, rfl⟩
      · rw [if_neg c4] at h
        refine pg_iconst 1 dX10_isBetter_46 rfl ?_
        refine pg_goto 51 dX10_isBetter_47 (by decide) ?_
        obtain rfl := Option.some.inj h
        exact hE.2.1 _ _ _ _ _ _ .boolean dX10_isBetter_51 rfl rfl (Nat.zero_le _) (Nat.zero_le _) ⟨rfl, rfl⟩
  · rw [if_neg c1] at h
    refine pg_iload_n dX10_isBetter_10 rfl ?_
    refine pg_aload_n dX10_isBetter_11 rfl ?_
    refine eg_get dX10_isBetter_12 fa_X10_9 hS sp114 (Nat.le_of_ble_eq_true rfl) (Nat.le_of_ble_eq_true rfl) rfl rfl ?_
    refine pg_iload_n dX10_isBetter_15 rfl ?_
    obtain ⟨g1, h⟩ := gd_at h
    refine eg_ialdJ v1.toNatClampNeg dX10_isBetter_16 hS sp115 (Nat.le_of_ble_eq_true rfl) (Nat.le_of_ble_eq_true rfl) rfl (inR_vp g1) rfl ?_
    refine pg_icmp_ge 24 dX10_isBetter_17 (by decide) (fun c5 => ?_) (fun c5 => ?_)
    · rw [if_pos c5] at h
      refine pg_iconst 0 dX10_isBetter_24 rfl ?_
      obtain rfl := Option.some.inj h
      exact hE.2.1 _ _ _ _ _ _ .boolean dX10_isBetter_25 rfl rfl (Nat.zero_le _) (Nat.zero_le _) ⟨rfl, rfl⟩
    · rw [if_neg c5] at h
      refine pg_iconst 1 dX10_isBetter_20 rfl ?_
      refine pg_goto 25 dX10_isBetter_21 (by decide) ?_
      obtain rfl := Option.some.inj h
      exact hE.2.1 _ _ _ _ _ _ .boolean dX10_isBetter_25 rfl rfl (Nat.zero_le _) (Nat.zero_le _) ⟨rfl, rfl⟩
def f_X10_consider (v2 : Int32) (v3 : Int32) (v4 : Int32) (m0 : me) : Option me :=
  gd (inR v4 8) (
  lt (m0.1 4 v4.toNatClampNeg) (fun w1 =>
  gd (inR v4 8) (
  gd (inR v2 16) (
  lt ((m0.1 5 v4.toNatClampNeg) + (m0.1 15 v2.toNatClampNeg)) (fun w2 =>
  bd (f_X1_idOf v4 m0) (fun r3 =>
  gd (inR v4 8) (
  if 10 ≤ (r3.2.1 6 v4.toNatClampNeg) then
    some (r3.2)
  else
    bd (f_X10_isBetter v3 w1 w2 r3.1 r3.2) (fun r5 =>
    if r5.1 = 0 then
      some (r5.2)
    else
      gd (inR v3 8) (
      lt (wI r5.2 119 v3.toNatClampNeg r3.1) (fun m7 =>
      gd (inR v3 8) (
      lt (wI m7 115 v3.toNatClampNeg w1) (fun m8 =>
      gd (inR v3 8) (
      lt (wI m8 116 v3.toNatClampNeg w2) (fun m9 =>
      gd (inR v4 8) (
      gd (inR v3 8) (
      lt (wI m9 117 v3.toNatClampNeg ((m9.1 6 v4.toNatClampNeg) + 1)) (fun m10 =>
      gd (inR v3 8) (
      lt (wI m10 118 v3.toNatClampNeg v2) (fun m11 =>
      some (m11))))))))))))))))))))
set_option maxRecDepth 20000 in
set_option maxHeartbeats 4000000 in
theorem ct_X10_consider (hfl : g.1.stackTraces = false) (hS : pS 0 138 S) {v2 : Int32} {v3 : Int32} {v4 : Int32} {m0 : me} {x : me} (h : f_X10_consider v2 v3 v4 m0 = some x) : pm_Ct g mX10_consider [.ref 114, .ref 1, .int v2, .int v3, .int v4] (en S m0) 0 0 (qV S x) qF := by
  refine pm_of (by decide +kernel) rfl hfl (Nat.le_of_ble_eq_true rfl) (fun X hE => ?_)
  show pm_G g mX10_consider X 0 [some (.ref 114), some (.ref 1), some (.int v2), some (.int v3), some (.int v4), none, none, none] [] (en S m0) 0 0
  unfold f_X10_consider at h
  refine pg_aload_n dX10_consider_0 rfl ?_
  refine eg_get dX10_consider_1 fa_X10_33 hS sp1 (Nat.le_of_ble_eq_true rfl) (Nat.le_of_ble_eq_true rfl) rfl rfl ?_
  refine eg_get dX10_consider_4 fa_X10_66 hS sp2 (Nat.le_of_ble_eq_true rfl) (Nat.le_of_ble_eq_true rfl) rfl rfl ?_
  refine pg_iload dX10_consider_7 rfl ?_
  obtain ⟨g1, h⟩ := gd_at h
  refine eg_ialdJ v4.toNatClampNeg dX10_consider_9 hS sp4 (Nat.le_of_ble_eq_true rfl) (Nat.le_of_ble_eq_true rfl) rfl (inR_vp g1) rfl ?_
  obtain ⟨w1, e_w1⟩ : ∃ z : Int32, z = m0.1 4 v4.toNatClampNeg := ⟨_, rfl⟩
  replace h := lt_at h e_w1
  refine eg_istore [some (.ref 114), some (.ref 1), some (.int v2), some (.int v3), some (.int v4), some (.int w1), none, none] w1 dX10_consider_10 e_w1 (Nat.le_of_ble_eq_true rfl) rfl ?_
  refine pg_aload_n dX10_consider_12 rfl ?_
  refine eg_get dX10_consider_13 fa_X10_33 hS sp1 (Nat.le_of_ble_eq_true rfl) (Nat.le_of_ble_eq_true rfl) rfl rfl ?_
  refine eg_get dX10_consider_16 fa_X10_73 hS sp2 (Nat.le_of_ble_eq_true rfl) (Nat.le_of_ble_eq_true rfl) rfl rfl ?_
  refine pg_iload dX10_consider_19 rfl ?_
  obtain ⟨g1, h⟩ := gd_at h
  refine eg_ialdJ v4.toNatClampNeg dX10_consider_21 hS sp5 (Nat.le_of_ble_eq_true rfl) (Nat.le_of_ble_eq_true rfl) rfl (inR_vp g1) rfl ?_
  refine pg_aload_n dX10_consider_22 rfl ?_
  refine eg_get dX10_consider_23 fa_X10_43 hS sp1 (Nat.le_of_ble_eq_true rfl) (Nat.le_of_ble_eq_true rfl) rfl rfl ?_
  refine eg_get dX10_consider_26 fa_X10_76 hS sp11 (Nat.le_of_ble_eq_true rfl) (Nat.le_of_ble_eq_true rfl) rfl rfl ?_
  refine pg_iload_n dX10_consider_29 rfl ?_
  obtain ⟨g1, h⟩ := gd_at h
  refine eg_ialdJ v2.toNatClampNeg dX10_consider_30 hS sp15 (Nat.le_of_ble_eq_true rfl) (Nat.le_of_ble_eq_true rfl) rfl (inR_vp g1) rfl ?_
  refine pg_iadd dX10_consider_31 ?_
  obtain ⟨w2, e_w2⟩ : ∃ z : Int32, z = (m0.1 5 v4.toNatClampNeg) + (m0.1 15 v2.toNatClampNeg) := ⟨_, rfl⟩
  replace h := lt_at h e_w2
  refine eg_istore [some (.ref 114), some (.ref 1), some (.int v2), some (.int v3), some (.int v4), some (.int w1), some (.int w2), none] w2 dX10_consider_32 e_w2 (Nat.le_of_ble_eq_true rfl) rfl ?_
  refine pg_aload_n dX10_consider_34 rfl ?_
  refine eg_get dX10_consider_35 fa_X10_33 hS sp1 (Nat.le_of_ble_eq_true rfl) (Nat.le_of_ble_eq_true rfl) rfl rfl ?_
  refine pg_iload dX10_consider_38 rfl ?_
  obtain ⟨r3, h_r3, h⟩ := bd_at h
  refine eg_cVi (C := mX1_idOf) (as := [(.int v4)]) dX10_consider_40 mw458 cv_X1_idOf hS sp2 (Nat.le_of_ble_eq_true rfl) (Nat.le_of_ble_eq_true rfl) rfl rfl rfl (Nat.le_of_ble_eq_true rfl) rfl ⟨(Nat.le_of_ble_eq_true rfl), (Nat.le_of_ble_eq_true rfl)⟩ (ct_X1_idOf hfl (hS.sub (Nat.le_of_ble_eq_true rfl) (Nat.le_of_ble_eq_true rfl)) h_r3) ?_
  refine eg_istore [some (.ref 114), some (.ref 1), some (.int v2), some (.int v3), some (.int v4), some (.int w1), some (.int w2), some (.int r3.1)] r3.1 dX10_consider_43 rfl (Nat.le_of_ble_eq_true rfl) rfl ?_
  refine pg_aload_n dX10_consider_45 rfl ?_
  refine eg_get dX10_consider_46 fa_X10_33 hS sp1 (Nat.le_of_ble_eq_true rfl) (Nat.le_of_ble_eq_true rfl) rfl rfl ?_
  refine eg_get dX10_consider_49 fa_X10_74 hS sp2 (Nat.le_of_ble_eq_true rfl) (Nat.le_of_ble_eq_true rfl) rfl rfl ?_
  refine pg_iload dX10_consider_52 rfl ?_
  obtain ⟨g1, h⟩ := gd_at h
  refine eg_ialdJ v4.toNatClampNeg dX10_consider_54 hS sp6 (Nat.le_of_ble_eq_true rfl) (Nat.le_of_ble_eq_true rfl) rfl (inR_vp g1) rfl ?_
  refine pg_bipush 10 dX10_consider_55 rfl ?_
  refine pg_icmp_ge 123 dX10_consider_57 (by decide) (fun c4 => ?_) (fun c4 => ?_)
  · rw [if_pos c4] at h
    obtain rfl := Option.some.inj h
    exact hE.2.2.1 _ _ _ _ _ dX10_consider_123 rfl (Nat.zero_le _) (Nat.zero_le _) ⟨rfl, rfl⟩
  · rw [if_neg c4] at h
    refine pg_aload_n dX10_consider_60 rfl ?_
    refine pg_iload_n dX10_consider_61 rfl ?_
    refine pg_iload dX10_consider_62 rfl ?_
    refine pg_iload dX10_consider_64 rfl ?_
    refine pg_iload dX10_consider_66 rfl ?_
    obtain ⟨r5, h_r5, h⟩ := bd_at h
    refine eg_cVi (C := mX10_isBetter) (as := [(.int v3), (.int w1), (.int w2), (.int r3.1)]) dX10_consider_68 mw475 cv_X10_isBetter hS sp114 (Nat.le_of_ble_eq_true rfl) (Nat.le_of_ble_eq_true rfl) rfl rfl rfl (Nat.le_of_ble_eq_true rfl) rfl ⟨(Nat.le_of_ble_eq_true rfl), (Nat.le_of_ble_eq_true rfl)⟩ (ct_X10_isBetter hfl (hS.sub (Nat.le_of_ble_eq_true rfl) (Nat.le_of_ble_eq_true rfl)) h_r5) ?_
    refine pg_if_eq 123 dX10_consider_71 (by decide) (fun c6 => ?_) (fun c6 => ?_)
    · rw [if_pos c6] at h
      obtain rfl := Option.some.inj h
      exact hE.2.2.1 _ _ _ _ _ dX10_consider_123 rfl (Nat.zero_le _) (Nat.zero_le _) ⟨rfl, rfl⟩
    · rw [if_neg c6] at h
      refine pg_aload_n dX10_consider_74 rfl ?_
      refine eg_get dX10_consider_75 fa_X10_24 hS sp114 (Nat.le_of_ble_eq_true rfl) (Nat.le_of_ble_eq_true rfl) rfl rfl ?_
      refine pg_iload_n dX10_consider_78 rfl ?_
      refine pg_iload dX10_consider_79 rfl ?_
      obtain ⟨g1, h⟩ := gd_at h
      refine eg_iastJ v3.toNatClampNeg dX10_consider_81 hS sp119 (Nat.le_of_ble_eq_true rfl) (Nat.le_of_ble_eq_true rfl) (fun _ _ _ => rfl) (inR_vp g1) rfl (fun m7 e_m7 => ?_)
      replace h := lt_at h e_m7
      refine pg_aload_n dX10_consider_82 rfl ?_
      refine eg_get dX10_consider_83 fa_X10_9 hS sp114 (Nat.le_of_ble_eq_true rfl) (Nat.le_of_ble_eq_true rfl) rfl rfl ?_
      refine pg_iload_n dX10_consider_86 rfl ?_
      refine pg_iload dX10_consider_87 rfl ?_
      obtain ⟨g1, h⟩ := gd_at h
      refine eg_iastJ v3.toNatClampNeg dX10_consider_89 hS sp115 (Nat.le_of_ble_eq_true rfl) (Nat.le_of_ble_eq_true rfl) (fun _ _ _ => rfl) (inR_vp g1) rfl (fun m8 e_m8 => ?_)
      replace h := lt_at h e_m8
      refine pg_aload_n dX10_consider_90 rfl ?_
      refine eg_get dX10_consider_91 fa_X10_15 hS sp114 (Nat.le_of_ble_eq_true rfl) (Nat.le_of_ble_eq_true rfl) rfl rfl ?_
      refine pg_iload_n dX10_consider_94 rfl ?_
      refine pg_iload dX10_consider_95 rfl ?_
      obtain ⟨g1, h⟩ := gd_at h
      refine eg_iastJ v3.toNatClampNeg dX10_consider_97 hS sp116 (Nat.le_of_ble_eq_true rfl) (Nat.le_of_ble_eq_true rfl) (fun _ _ _ => rfl) (inR_vp g1) rfl (fun m9 e_m9 => ?_)
      replace h := lt_at h e_m9
      refine pg_aload_n dX10_consider_98 rfl ?_
      refine eg_get dX10_consider_99 fa_X10_18 hS sp114 (Nat.le_of_ble_eq_true rfl) (Nat.le_of_ble_eq_true rfl) rfl rfl ?_
      refine pg_iload_n dX10_consider_102 rfl ?_
      refine pg_aload_n dX10_consider_103 rfl ?_
      refine eg_get dX10_consider_104 fa_X10_33 hS sp1 (Nat.le_of_ble_eq_true rfl) (Nat.le_of_ble_eq_true rfl) rfl rfl ?_
      refine eg_get dX10_consider_107 fa_X10_74 hS sp2 (Nat.le_of_ble_eq_true rfl) (Nat.le_of_ble_eq_true rfl) rfl rfl ?_
      refine pg_iload dX10_consider_110 rfl ?_
      obtain ⟨g1, h⟩ := gd_at h
      refine eg_ialdJ v4.toNatClampNeg dX10_consider_112 hS sp6 (Nat.le_of_ble_eq_true rfl) (Nat.le_of_ble_eq_true rfl) rfl (inR_vp g1) rfl ?_
      refine pg_iconst 1 dX10_consider_113 rfl ?_
      refine pg_iadd dX10_consider_114 ?_
      obtain ⟨g1, h⟩ := gd_at h
      refine eg_iastJ v3.toNatClampNeg dX10_consider_115 hS sp117 (Nat.le_of_ble_eq_true rfl) (Nat.le_of_ble_eq_true rfl) (fun _ _ _ => rfl) (inR_vp g1) rfl (fun m10 e_m10 => ?_)
      replace h := lt_at h e_m10
      refine pg_aload_n dX10_consider_116 rfl ?_
      refine eg_get dX10_consider_117 fa_X10_21 hS sp114 (Nat.le_of_ble_eq_true rfl) (Nat.le_of_ble_eq_true rfl) rfl rfl ?_
      refine pg_iload_n dX10_consider_120 rfl ?_
      refine pg_iload_n dX10_consider_121 rfl ?_
      obtain ⟨g1, h⟩ := gd_at h
      refine eg_iastJ v3.toNatClampNeg dX10_consider_122 hS sp118 (Nat.le_of_ble_eq_true rfl) (Nat.le_of_ble_eq_true rfl) (fun _ _ _ => rfl) (inR_vp g1) rfl (fun m11 e_m11 => ?_)
      replace h := lt_at h e_m11
      obtain rfl := Option.some.inj h
      exact hE.2.2.1 _ _ _ _ _ dX10_consider_123 rfl (Nat.zero_le _) (Nat.zero_le _) ⟨rfl, rfl⟩
def b_X10_renew_2 (s : Int32 × me) : Option ((Int32 × me) ⊕ (Int32 × me)) :=
  if (s.2.1 1 0) ≤ s.1 then
    some (.inr (s.1, s.2))
  else
    bd (f_X1_idOf s.1 s.2) (fun r2 =>
    gd (inR s.1 8) (
    lt (wI r2.2 119 s.1.toNatClampNeg r2.1) (fun m3 =>
    gd (inR s.1 8) (
    gd (inR s.1 8) (
    lt (wI m3 115 s.1.toNatClampNeg (m3.1 119 s.1.toNatClampNeg)) (fun m4 =>
    gd (inR s.1 8) (
    lt (wI m4 116 s.1.toNatClampNeg 0) (fun m5 =>
    gd (inR s.1 8) (
    lt (wI m5 117 s.1.toNatClampNeg 0) (fun m6 =>
    gd (inR s.1 8) (
    lt (wI m6 118 s.1.toNatClampNeg (-1)) (fun m7 =>
    lt (s.1 + 1) (fun w8 =>
    some (.inl (w8, m7)))))))))))))))
def b_X10_renew_65 (s : Int32 × me) : Option ((Int32 × me) ⊕ (Int32 × me)) :=
  if (s.2.1 11 0) ≤ s.1 then
    some (.inr (s.1, s.2))
  else
    gd (inR s.1 16) (
    if (s.2.1 16 s.1.toNatClampNeg) = 0 then
      lt (s.1 + 1) (fun w12 =>
      some (.inl (w12, s.2)))
    else
      gd (inR s.1 16) (
      lt (s.2.1 12 s.1.toNatClampNeg) (fun w13 =>
      gd (inR s.1 16) (
      lt (s.2.1 13 s.1.toNatClampNeg) (fun w14 =>
      bd (f_X10_consider s.1 w13 w14 s.2) (fun r15 =>
      bd (f_X10_consider s.1 w14 w13 r15) (fun r16 =>
      lt (s.1 + 1) (fun w17 =>
      some (.inl (w17, r16))))))))))
def f_X10_renew (m0 : me) : Option me :=
  bd (lo (b_X10_renew_2) 2048 (0, m0)) (fun s9 =>
  bd (lo (b_X10_renew_65) 2048 (0, s9.2)) (fun s18 =>
  gd (inR (s18.2.1 1 0) 9) (
  lt (cp s18.2 115 4 0 0 ((s18.2.1 1 0).toNatClampNeg)) (fun m19 =>
  gd (inR (m19.1 1 0) 9) (
  lt (cp m19 116 5 0 0 ((m19.1 1 0).toNatClampNeg)) (fun m20 =>
  gd (inR (m20.1 1 0) 9) (
  lt (cp m20 117 6 0 0 ((m20.1 1 0).toNatClampNeg)) (fun m21 =>
  gd (inR (m21.1 1 0) 9) (
  lt (cp m21 118 7 0 0 ((m21.1 1 0).toNatClampNeg)) (fun m22 =>
  some (m22)))))))))))
set_option maxRecDepth 20000 in
set_option maxHeartbeats 4000000 in
theorem lb_X10_renew_2 (hfl : g.1.stackTraces = false) (hS : pS 0 138 S) {s : Int32 × me} {r : (Int32 × me) ⊕ (Int32 × me)} (h : b_X10_renew_2 s = some r) (hN : ∀ s', r = .inl s' → (fun z9 : Int32 × me => pm_G g mX10_renew X 2 [some (.ref 114), some (.ref 1), some (.int z9.1), none, none] [] (en S z9.2) 0 0) s') (hT : ∀ t, r = .inr t → (fun z9 : Int32 × me => pm_G g mX10_renew X 63 [some (.ref 114), some (.ref 1), some (.int z9.1), none, none] [] (en S z9.2) 0 0) t) : (fun z9 : Int32 × me => pm_G g mX10_renew X 2 [some (.ref 114), some (.ref 1), some (.int z9.1), none, none] [] (en S z9.2) 0 0) s := by
  unfold b_X10_renew_2 at h
  show pm_G g mX10_renew X 2 [some (.ref 114), some (.ref 1), some (.int s.1), none, none] [] (en S s.2) 0 0
  refine pg_iload_n dX10_renew_2 rfl ?_
  refine pg_aload_n dX10_renew_3 rfl ?_
  refine eg_get dX10_renew_4 fa_X10_27 hS sp1 (Nat.le_of_ble_eq_true rfl) (Nat.le_of_ble_eq_true rfl) rfl rfl ?_
  refine pg_icmp_ge 63 dX10_renew_7 (by decide) (fun c1 => ?_) (fun c1 => ?_)
  · rw [if_pos c1] at h
    obtain rfl := Option.some.inj h
    exact hT _ rfl
  · rw [if_neg c1] at h
    refine pg_aload_n dX10_renew_10 rfl ?_
    refine eg_get dX10_renew_11 fa_X10_24 hS sp114 (Nat.le_of_ble_eq_true rfl) (Nat.le_of_ble_eq_true rfl) rfl rfl ?_
    refine pg_iload_n dX10_renew_14 rfl ?_
    refine pg_aload_n dX10_renew_15 rfl ?_
    refine eg_get dX10_renew_16 fa_X10_33 hS sp1 (Nat.le_of_ble_eq_true rfl) (Nat.le_of_ble_eq_true rfl) rfl rfl ?_
    refine pg_iload_n dX10_renew_19 rfl ?_
    obtain ⟨r2, h_r2, h⟩ := bd_at h
    refine eg_cVi (C := mX1_idOf) (as := [(.int s.1)]) dX10_renew_20 mw458 cv_X1_idOf hS sp2 (Nat.le_of_ble_eq_true rfl) (Nat.le_of_ble_eq_true rfl) rfl rfl rfl (Nat.le_of_ble_eq_true rfl) rfl ⟨(Nat.le_of_ble_eq_true rfl), (Nat.le_of_ble_eq_true rfl)⟩ (ct_X1_idOf hfl (hS.sub (Nat.le_of_ble_eq_true rfl) (Nat.le_of_ble_eq_true rfl)) h_r2) ?_
    obtain ⟨g1, h⟩ := gd_at h
    refine eg_iastJ s.1.toNatClampNeg dX10_renew_23 hS sp119 (Nat.le_of_ble_eq_true rfl) (Nat.le_of_ble_eq_true rfl) (fun _ _ _ => rfl) (inR_vp g1) rfl (fun m3 e_m3 => ?_)
    replace h := lt_at h e_m3
    refine pg_aload_n dX10_renew_24 rfl ?_
    refine eg_get dX10_renew_25 fa_X10_9 hS sp114 (Nat.le_of_ble_eq_true rfl) (Nat.le_of_ble_eq_true rfl) rfl rfl ?_
    refine pg_iload_n dX10_renew_28 rfl ?_
    refine pg_aload_n dX10_renew_29 rfl ?_
    refine eg_get dX10_renew_30 fa_X10_24 hS sp114 (Nat.le_of_ble_eq_true rfl) (Nat.le_of_ble_eq_true rfl) rfl rfl ?_
    refine pg_iload_n dX10_renew_33 rfl ?_
    obtain ⟨g1, h⟩ := gd_at h
    refine eg_ialdJ s.1.toNatClampNeg dX10_renew_34 hS sp119 (Nat.le_of_ble_eq_true rfl) (Nat.le_of_ble_eq_true rfl) rfl (inR_vp g1) rfl ?_
    obtain ⟨g1, h⟩ := gd_at h
    refine eg_iastJ s.1.toNatClampNeg dX10_renew_35 hS sp115 (Nat.le_of_ble_eq_true rfl) (Nat.le_of_ble_eq_true rfl) (fun _ _ _ => rfl) (inR_vp g1) rfl (fun m4 e_m4 => ?_)
    replace h := lt_at h e_m4
    refine pg_aload_n dX10_renew_36 rfl ?_
    refine eg_get dX10_renew_37 fa_X10_15 hS sp114 (Nat.le_of_ble_eq_true rfl) (Nat.le_of_ble_eq_true rfl) rfl rfl ?_
    refine pg_iload_n dX10_renew_40 rfl ?_
    refine pg_iconst 0 dX10_renew_41 rfl ?_
    obtain ⟨g1, h⟩ := gd_at h
    refine eg_iastJ s.1.toNatClampNeg dX10_renew_42 hS sp116 (Nat.le_of_ble_eq_true rfl) (Nat.le_of_ble_eq_true rfl) (fun _ _ _ => rfl) (inR_vp g1) rfl (fun m5 e_m5 => ?_)
    replace h := lt_at h e_m5
    refine pg_aload_n dX10_renew_43 rfl ?_
    refine eg_get dX10_renew_44 fa_X10_18 hS sp114 (Nat.le_of_ble_eq_true rfl) (Nat.le_of_ble_eq_true rfl) rfl rfl ?_
    refine pg_iload_n dX10_renew_47 rfl ?_
    refine pg_iconst 0 dX10_renew_48 rfl ?_
    obtain ⟨g1, h⟩ := gd_at h
    refine eg_iastJ s.1.toNatClampNeg dX10_renew_49 hS sp117 (Nat.le_of_ble_eq_true rfl) (Nat.le_of_ble_eq_true rfl) (fun _ _ _ => rfl) (inR_vp g1) rfl (fun m6 e_m6 => ?_)
    replace h := lt_at h e_m6
    refine pg_aload_n dX10_renew_50 rfl ?_
    refine eg_get dX10_renew_51 fa_X10_21 hS sp114 (Nat.le_of_ble_eq_true rfl) (Nat.le_of_ble_eq_true rfl) rfl rfl ?_
    refine pg_iload_n dX10_renew_54 rfl ?_
    refine pg_iconst (-1) dX10_renew_55 rfl ?_
    obtain ⟨g1, h⟩ := gd_at h
    refine eg_iastJ s.1.toNatClampNeg dX10_renew_56 hS sp118 (Nat.le_of_ble_eq_true rfl) (Nat.le_of_ble_eq_true rfl) (fun _ _ _ => rfl) (inR_vp g1) rfl (fun m7 e_m7 => ?_)
    replace h := lt_at h e_m7
    obtain ⟨w8, e_w8⟩ : ∃ z : Int32, z = s.1 + 1 := ⟨_, rfl⟩
    replace h := lt_at h e_w8
    refine eg_iinc [some (.ref 114), some (.ref 1), some (.int w8), none, none] w8 1 dX10_renew_57 rfl rfl e_w8 rfl ?_
    refine pg_goto 2 dX10_renew_60 (by decide) ?_
    obtain rfl := Option.some.inj h
    exact hN _ rfl
set_option maxRecDepth 20000 in
set_option maxHeartbeats 4000000 in
theorem lb_X10_renew_65 (hfl : g.1.stackTraces = false) (hS : pS 0 138 S) {s : Int32 × me} {r : (Int32 × me) ⊕ (Int32 × me)} (h : b_X10_renew_65 s = some r) (hN : ∀ s', r = .inl s' → (fun z9 : Int32 × me => pm_G g mX10_renew X 65 [some (.ref 114), some (.ref 1), some (.int z9.1), none, none] [] (en S z9.2) 0 0) s') (hT : ∀ t, r = .inr t → (fun z9 : Int32 × me => pm_G g mX10_renew X 133 [some (.ref 114), some (.ref 1), some (.int z9.1), none, none] [] (en S z9.2) 0 0) t) : (fun z9 : Int32 × me => pm_G g mX10_renew X 65 [some (.ref 114), some (.ref 1), some (.int z9.1), none, none] [] (en S z9.2) 0 0) s := by
  unfold b_X10_renew_65 at h
  show pm_G g mX10_renew X 65 [some (.ref 114), some (.ref 1), some (.int s.1), none, none] [] (en S s.2) 0 0
  refine pg_iload_n dX10_renew_65 rfl ?_
  refine pg_aload_n dX10_renew_66 rfl ?_
  refine eg_get dX10_renew_67 fa_X10_43 hS sp1 (Nat.le_of_ble_eq_true rfl) (Nat.le_of_ble_eq_true rfl) rfl rfl ?_
  refine eg_get dX10_renew_70 fa_X10_47 hS sp11 (Nat.le_of_ble_eq_true rfl) (Nat.le_of_ble_eq_true rfl) rfl rfl ?_
  refine pg_icmp_ge 133 dX10_renew_73 (by decide) (fun c10 => ?_) (fun c10 => ?_)
  · rw [if_pos c10] at h
    obtain rfl := Option.some.inj h
    exact hT _ rfl
  · rw [if_neg c10] at h
    refine pg_aload_n dX10_renew_76 rfl ?_
    refine eg_get dX10_renew_77 fa_X10_43 hS sp1 (Nat.le_of_ble_eq_true rfl) (Nat.le_of_ble_eq_true rfl) rfl rfl ?_
    refine eg_get dX10_renew_80 fa_X10_52 hS sp11 (Nat.le_of_ble_eq_true rfl) (Nat.le_of_ble_eq_true rfl) rfl rfl ?_
    refine pg_iload_n dX10_renew_83 rfl ?_
    obtain ⟨g1, h⟩ := gd_at h
    refine eg_zaldJ s.1.toNatClampNeg dX10_renew_84 hS sp16 (Nat.le_of_ble_eq_true rfl) (Nat.le_of_ble_eq_true rfl) rfl (inR_vp g1) rfl ?_
    refine pg_if_eq 127 dX10_renew_85 (by decide) (fun c11 => ?_) (fun c11 => ?_)
    · rw [if_pos c11] at h
      obtain ⟨w12, e_w12⟩ : ∃ z : Int32, z = s.1 + 1 := ⟨_, rfl⟩
      replace h := lt_at h e_w12
      refine eg_iinc [some (.ref 114), some (.ref 1), some (.int w12), none, none] w12 1 dX10_renew_127 rfl rfl e_w12 rfl ?_
      refine pg_goto 65 dX10_renew_130 (by decide) ?_
      obtain rfl := Option.some.inj h
      exact hN _ rfl
    · rw [if_neg c11] at h
      refine pg_aload_n dX10_renew_88 rfl ?_
      refine eg_get dX10_renew_89 fa_X10_43 hS sp1 (Nat.le_of_ble_eq_true rfl) (Nat.le_of_ble_eq_true rfl) rfl rfl ?_
      refine eg_get dX10_renew_92 fa_X10_56 hS sp11 (Nat.le_of_ble_eq_true rfl) (Nat.le_of_ble_eq_true rfl) rfl rfl ?_
      refine pg_iload_n dX10_renew_95 rfl ?_
      obtain ⟨g1, h⟩ := gd_at h
      refine eg_ialdJ s.1.toNatClampNeg dX10_renew_96 hS sp12 (Nat.le_of_ble_eq_true rfl) (Nat.le_of_ble_eq_true rfl) rfl (inR_vp g1) rfl ?_
      obtain ⟨w13, e_w13⟩ : ∃ z : Int32, z = s.2.1 12 s.1.toNatClampNeg := ⟨_, rfl⟩
      replace h := lt_at h e_w13
      refine eg_istore_n [some (.ref 114), some (.ref 1), some (.int s.1), some (.int w13), none] w13 dX10_renew_97 e_w13 (Nat.le_of_ble_eq_true rfl) rfl ?_
      refine pg_aload_n dX10_renew_98 rfl ?_
      refine eg_get dX10_renew_99 fa_X10_43 hS sp1 (Nat.le_of_ble_eq_true rfl) (Nat.le_of_ble_eq_true rfl) rfl rfl ?_
      refine eg_get dX10_renew_102 fa_X10_59 hS sp11 (Nat.le_of_ble_eq_true rfl) (Nat.le_of_ble_eq_true rfl) rfl rfl ?_
      refine pg_iload_n dX10_renew_105 rfl ?_
      obtain ⟨g1, h⟩ := gd_at h
      refine eg_ialdJ s.1.toNatClampNeg dX10_renew_106 hS sp13 (Nat.le_of_ble_eq_true rfl) (Nat.le_of_ble_eq_true rfl) rfl (inR_vp g1) rfl ?_
      obtain ⟨w14, e_w14⟩ : ∃ z : Int32, z = s.2.1 13 s.1.toNatClampNeg := ⟨_, rfl⟩
      replace h := lt_at h e_w14
      refine eg_istore [some (.ref 114), some (.ref 1), some (.int s.1), some (.int w13), some (.int w14)] w14 dX10_renew_107 e_w14 (Nat.le_of_ble_eq_true rfl) rfl ?_
      refine pg_aload_n dX10_renew_109 rfl ?_
      refine pg_aload_n dX10_renew_110 rfl ?_
      refine pg_iload_n dX10_renew_111 rfl ?_
      refine pg_iload_n dX10_renew_112 rfl ?_
      refine pg_iload dX10_renew_113 rfl ?_
      obtain ⟨r15, h_r15, h⟩ := bd_at h
      refine eg_cVv (C := mX10_consider) (as := [(.ref 1), (.int s.1), (.int w13), (.int w14)]) dX10_renew_115 mw464 cv_X10_consider hS sp114 (Nat.le_of_ble_eq_true rfl) (Nat.le_of_ble_eq_true rfl) rfl rfl rfl (Nat.le_of_ble_eq_true rfl) rfl ⟨(Nat.le_of_ble_eq_true rfl), (Nat.le_of_ble_eq_true rfl)⟩ (ct_X10_consider hfl (hS.sub (Nat.le_of_ble_eq_true rfl) (Nat.le_of_ble_eq_true rfl)) h_r15) ?_
      refine pg_aload_n dX10_renew_118 rfl ?_
      refine pg_aload_n dX10_renew_119 rfl ?_
      refine pg_iload_n dX10_renew_120 rfl ?_
      refine pg_iload dX10_renew_121 rfl ?_
      refine pg_iload_n dX10_renew_123 rfl ?_
      obtain ⟨r16, h_r16, h⟩ := bd_at h
      refine eg_cVv (C := mX10_consider) (as := [(.ref 1), (.int s.1), (.int w14), (.int w13)]) dX10_renew_124 mw464 cv_X10_consider hS sp114 (Nat.le_of_ble_eq_true rfl) (Nat.le_of_ble_eq_true rfl) rfl rfl rfl (Nat.le_of_ble_eq_true rfl) rfl ⟨(Nat.le_of_ble_eq_true rfl), (Nat.le_of_ble_eq_true rfl)⟩ (ct_X10_consider hfl (hS.sub (Nat.le_of_ble_eq_true rfl) (Nat.le_of_ble_eq_true rfl)) h_r16) ?_
      obtain ⟨w17, e_w17⟩ : ∃ z : Int32, z = s.1 + 1 := ⟨_, rfl⟩
      replace h := lt_at h e_w17
      refine eg_iinc [some (.ref 114), some (.ref 1), some (.int w17), some (.int w13), some (.int w14)] w17 1 dX10_renew_127 rfl rfl e_w17 rfl ?_
      refine pg_goto 65 dX10_renew_130 (by decide) ?_
      obtain rfl := Option.some.inj h
      refine eg_forget [some (.ref 114), some (.ref 1), some (.int w17), none, none] (show pm_sub _ _ from ⟨rfl, ⟨rfl, ⟨rfl, trivial⟩⟩⟩) ?_
      exact hN _ rfl
set_option maxRecDepth 20000 in
set_option maxHeartbeats 4000000 in
theorem ct_X10_renew (hfl : g.1.stackTraces = false) (hS : pS 0 138 S) {m0 : me} {x : me} (h : f_X10_renew m0 = some x) : pm_Ct g mX10_renew [.ref 114, .ref 1] (en S m0) 0 0 (qV S x) qF := by
  refine pm_of (by decide +kernel) rfl hfl (Nat.le_of_ble_eq_true rfl) (fun X hE => ?_)
  show pm_G g mX10_renew X 0 [some (.ref 114), some (.ref 1), none, none, none] [] (en S m0) 0 0
  unfold f_X10_renew at h
  refine pg_iconst 0 dX10_renew_0 rfl ?_
  refine eg_istore_n [some (.ref 114), some (.ref 1), some (.int 0), none, none] 0 dX10_renew_1 rfl (Nat.le_of_ble_eq_true rfl) rfl ?_
  obtain ⟨s9, h_s9, h⟩ := bd_at h
  refine lo_at (b := b_X10_renew_2) (G := (fun z9 : Int32 × me => pm_G g mX10_renew X 2 [some (.ref 114), some (.ref 1), some (.int z9.1), none, none] [] (en S z9.2) 0 0)) (T := (fun z9 : Int32 × me => pm_G g mX10_renew X 63 [some (.ref 114), some (.ref 1), some (.int z9.1), none, none] [] (en S z9.2) 0 0)) (fun q9 r9 h1 h2 h3 => lb_X10_renew_2 hfl hS h1 h2 h3) 2048 (0, m0) s9 h_s9 ?_
  show pm_G g mX10_renew X 63 [some (.ref 114), some (.ref 1), some (.int s9.1), none, none] [] (en S s9.2) 0 0
  refine pg_iconst 0 dX10_renew_63 rfl ?_
  refine eg_istore_n [some (.ref 114), some (.ref 1), some (.int 0), none, none] 0 dX10_renew_64 rfl (Nat.le_of_ble_eq_true rfl) rfl ?_
  obtain ⟨s18, h_s18, h⟩ := bd_at h
  refine lo_at (b := b_X10_renew_65) (G := (fun z9 : Int32 × me => pm_G g mX10_renew X 65 [some (.ref 114), some (.ref 1), some (.int z9.1), none, none] [] (en S z9.2) 0 0)) (T := (fun z9 : Int32 × me => pm_G g mX10_renew X 133 [some (.ref 114), some (.ref 1), some (.int z9.1), none, none] [] (en S z9.2) 0 0)) (fun q9 r9 h1 h2 h3 => lb_X10_renew_65 hfl hS h1 h2 h3) 2048 (0, s9.2) s18 h_s18 ?_
  show pm_G g mX10_renew X 133 [some (.ref 114), some (.ref 1), some (.int s18.1), none, none] [] (en S s18.2) 0 0
  refine pg_aload_n dX10_renew_133 rfl ?_
  refine eg_get dX10_renew_134 fa_X10_9 hS sp114 (Nat.le_of_ble_eq_true rfl) (Nat.le_of_ble_eq_true rfl) rfl rfl ?_
  refine pg_iconst 0 dX10_renew_137 rfl ?_
  refine pg_aload_n dX10_renew_138 rfl ?_
  refine eg_get dX10_renew_139 fa_X10_33 hS sp1 (Nat.le_of_ble_eq_true rfl) (Nat.le_of_ble_eq_true rfl) rfl rfl ?_
  refine eg_get dX10_renew_142 fa_X10_66 hS sp2 (Nat.le_of_ble_eq_true rfl) (Nat.le_of_ble_eq_true rfl) rfl rfl ?_
  refine pg_iconst 0 dX10_renew_145 rfl ?_
  refine pg_aload_n dX10_renew_146 rfl ?_
  refine eg_get dX10_renew_147 fa_X10_27 hS sp1 (Nat.le_of_ble_eq_true rfl) (Nat.le_of_ble_eq_true rfl) rfl rfl ?_
  obtain ⟨g1, h⟩ := gd_at h
  refine eg_copyI (n9 := (s18.2.1 1 0).toNatClampNeg) dX10_renew_150 mw470 mw308 mw307 mw309 hS sp115 (Nat.le_of_ble_eq_true rfl) (Nat.le_of_ble_eq_true rfl) rfl sp4 (Nat.le_of_ble_eq_true rfl) (Nat.le_of_ble_eq_true rfl) (fun _ _ _ => rfl) (fun q => inR_vp g1 (Or.inl q)) rfl (Nat.le_of_lt_succ (Nat.lt_of_lt_of_le (inR_lt g1) (Nat.le_of_ble_eq_true rfl))) (Nat.le_of_lt_succ (Nat.lt_of_lt_of_le (inR_lt g1) (Nat.le_of_ble_eq_true rfl))) rfl (Nat.le_of_ble_eq_true rfl) (Nat.le_of_ble_eq_true rfl) (fun m19 e_m19 => ?_)
  replace h := lt_at h e_m19
  refine pg_aload_n dX10_renew_153 rfl ?_
  refine eg_get dX10_renew_154 fa_X10_15 hS sp114 (Nat.le_of_ble_eq_true rfl) (Nat.le_of_ble_eq_true rfl) rfl rfl ?_
  refine pg_iconst 0 dX10_renew_157 rfl ?_
  refine pg_aload_n dX10_renew_158 rfl ?_
  refine eg_get dX10_renew_159 fa_X10_33 hS sp1 (Nat.le_of_ble_eq_true rfl) (Nat.le_of_ble_eq_true rfl) rfl rfl ?_
  refine eg_get dX10_renew_162 fa_X10_73 hS sp2 (Nat.le_of_ble_eq_true rfl) (Nat.le_of_ble_eq_true rfl) rfl rfl ?_
  refine pg_iconst 0 dX10_renew_165 rfl ?_
  refine pg_aload_n dX10_renew_166 rfl ?_
  refine eg_get dX10_renew_167 fa_X10_27 hS sp1 (Nat.le_of_ble_eq_true rfl) (Nat.le_of_ble_eq_true rfl) rfl rfl ?_
  obtain ⟨g1, h⟩ := gd_at h
  refine eg_copyI (n9 := (m19.1 1 0).toNatClampNeg) dX10_renew_170 mw470 mw308 mw307 mw309 hS sp116 (Nat.le_of_ble_eq_true rfl) (Nat.le_of_ble_eq_true rfl) rfl sp5 (Nat.le_of_ble_eq_true rfl) (Nat.le_of_ble_eq_true rfl) (fun _ _ _ => rfl) (fun q => inR_vp g1 (Or.inl q)) rfl (Nat.le_of_lt_succ (Nat.lt_of_lt_of_le (inR_lt g1) (Nat.le_of_ble_eq_true rfl))) (Nat.le_of_lt_succ (Nat.lt_of_lt_of_le (inR_lt g1) (Nat.le_of_ble_eq_true rfl))) rfl (Nat.le_of_ble_eq_true rfl) (Nat.le_of_ble_eq_true rfl) (fun m20 e_m20 => ?_)
  replace h := lt_at h e_m20
  refine pg_aload_n dX10_renew_173 rfl ?_
  refine eg_get dX10_renew_174 fa_X10_18 hS sp114 (Nat.le_of_ble_eq_true rfl) (Nat.le_of_ble_eq_true rfl) rfl rfl ?_
  refine pg_iconst 0 dX10_renew_177 rfl ?_
  refine pg_aload_n dX10_renew_178 rfl ?_
  refine eg_get dX10_renew_179 fa_X10_33 hS sp1 (Nat.le_of_ble_eq_true rfl) (Nat.le_of_ble_eq_true rfl) rfl rfl ?_
  refine eg_get dX10_renew_182 fa_X10_74 hS sp2 (Nat.le_of_ble_eq_true rfl) (Nat.le_of_ble_eq_true rfl) rfl rfl ?_
  refine pg_iconst 0 dX10_renew_185 rfl ?_
  refine pg_aload_n dX10_renew_186 rfl ?_
  refine eg_get dX10_renew_187 fa_X10_27 hS sp1 (Nat.le_of_ble_eq_true rfl) (Nat.le_of_ble_eq_true rfl) rfl rfl ?_
  obtain ⟨g1, h⟩ := gd_at h
  refine eg_copyI (n9 := (m20.1 1 0).toNatClampNeg) dX10_renew_190 mw470 mw308 mw307 mw309 hS sp117 (Nat.le_of_ble_eq_true rfl) (Nat.le_of_ble_eq_true rfl) rfl sp6 (Nat.le_of_ble_eq_true rfl) (Nat.le_of_ble_eq_true rfl) (fun _ _ _ => rfl) (fun q => inR_vp g1 (Or.inl q)) rfl (Nat.le_of_lt_succ (Nat.lt_of_lt_of_le (inR_lt g1) (Nat.le_of_ble_eq_true rfl))) (Nat.le_of_lt_succ (Nat.lt_of_lt_of_le (inR_lt g1) (Nat.le_of_ble_eq_true rfl))) rfl (Nat.le_of_ble_eq_true rfl) (Nat.le_of_ble_eq_true rfl) (fun m21 e_m21 => ?_)
  replace h := lt_at h e_m21
  refine pg_aload_n dX10_renew_193 rfl ?_
  refine eg_get dX10_renew_194 fa_X10_21 hS sp114 (Nat.le_of_ble_eq_true rfl) (Nat.le_of_ble_eq_true rfl) rfl rfl ?_
  refine pg_iconst 0 dX10_renew_197 rfl ?_
  refine pg_aload_n dX10_renew_198 rfl ?_
  refine eg_get dX10_renew_199 fa_X10_33 hS sp1 (Nat.le_of_ble_eq_true rfl) (Nat.le_of_ble_eq_true rfl) rfl rfl ?_
  refine eg_get dX10_renew_202 fa_X10_75 hS sp2 (Nat.le_of_ble_eq_true rfl) (Nat.le_of_ble_eq_true rfl) rfl rfl ?_
  refine pg_iconst 0 dX10_renew_205 rfl ?_
  refine pg_aload_n dX10_renew_206 rfl ?_
  refine eg_get dX10_renew_207 fa_X10_27 hS sp1 (Nat.le_of_ble_eq_true rfl) (Nat.le_of_ble_eq_true rfl) rfl rfl ?_
  obtain ⟨g1, h⟩ := gd_at h
  refine eg_copyI (n9 := (m21.1 1 0).toNatClampNeg) dX10_renew_210 mw470 mw308 mw307 mw309 hS sp118 (Nat.le_of_ble_eq_true rfl) (Nat.le_of_ble_eq_true rfl) rfl sp7 (Nat.le_of_ble_eq_true rfl) (Nat.le_of_ble_eq_true rfl) (fun _ _ _ => rfl) (fun q => inR_vp g1 (Or.inl q)) rfl (Nat.le_of_lt_succ (Nat.lt_of_lt_of_le (inR_lt g1) (Nat.le_of_ble_eq_true rfl))) (Nat.le_of_lt_succ (Nat.lt_of_lt_of_le (inR_lt g1) (Nat.le_of_ble_eq_true rfl))) rfl (Nat.le_of_ble_eq_true rfl) (Nat.le_of_ble_eq_true rfl) (fun m22 e_m22 => ?_)
  replace h := lt_at h e_m22
  obtain rfl := Option.some.inj h
  exact hE.2.2.1 _ _ _ _ _ dX10_renew_213 rfl (Nat.zero_le _) (Nat.zero_le _) ⟨rfl, rfl⟩
def f_X6_comesBefore (v1 : Int32) (v2 : Int32) (m0 : me) : Option (Int32 × me) :=
  gd (inR v1 8) (
  gd (inR v2 8) (
  if (m0.1 4 v1.toNatClampNeg) = (m0.1 4 v2.toNatClampNeg) then
    gd (inR v1 8) (
    gd (inR v2 8) (
    if (m0.1 5 v1.toNatClampNeg) = (m0.1 5 v2.toNatClampNeg) then
      bd (f_X1_idOf v1 m0) (fun r3 =>
      bd (f_X1_idOf v2 r3.2) (fun r4 =>
      if r4.1 ≤ r3.1 then
        some ((0, r4.2))
      else
        some ((1, r4.2))))
    else
      gd (inR v1 8) (
      gd (inR v2 8) (
      if (m0.1 5 v2.toNatClampNeg) ≤ (m0.1 5 v1.toNatClampNeg) then
        some ((0, m0))
      else
        some ((1, m0))))))
  else
    gd (inR v1 8) (
    gd (inR v2 8) (
    if (m0.1 4 v2.toNatClampNeg) ≤ (m0.1 4 v1.toNatClampNeg) then
      some ((0, m0))
    else
      some ((1, m0))))))
set_option maxRecDepth 20000 in
set_option maxHeartbeats 4000000 in
theorem ct_X6_comesBefore (hfl : g.1.stackTraces = false) (hS : pS 1 28 S) {v1 : Int32} {v2 : Int32} {m0 : me} {x : (Int32 × me)} (h : f_X6_comesBefore v1 v2 m0 = some x) : pm_Ct g mX6_comesBefore [.ref 2, .int v1, .int v2] (en S m0) 0 0 (qI S x) qF := by
  refine pm_of (by decide +kernel) rfl hfl (Nat.le_of_ble_eq_true rfl) (fun X hE => ?_)
  show pm_G g mX6_comesBefore X 0 [some (.ref 2), some (.int v1), some (.int v2)] [] (en S m0) 0 0
  unfold f_X6_comesBefore at h
  refine pg_aload_n dX6_comesBefore_0 rfl ?_
  refine eg_get dX6_comesBefore_1 fa_X6_74 hS sp2 (Nat.le_of_ble_eq_true rfl) (Nat.le_of_ble_eq_true rfl) rfl rfl ?_
  refine pg_iload_n dX6_comesBefore_4 rfl ?_
  obtain ⟨g1, h⟩ := gd_at h
  refine eg_ialdJ v1.toNatClampNeg dX6_comesBefore_5 hS sp4 (Nat.le_of_ble_eq_true rfl) (Nat.le_of_ble_eq_true rfl) rfl (inR_vp g1) rfl ?_
  refine pg_aload_n dX6_comesBefore_6 rfl ?_
  refine eg_get dX6_comesBefore_7 fa_X6_74 hS sp2 (Nat.le_of_ble_eq_true rfl) (Nat.le_of_ble_eq_true rfl) rfl rfl ?_
  refine pg_iload_n dX6_comesBefore_10 rfl ?_
  obtain ⟨g1, h⟩ := gd_at h
  refine eg_ialdJ v2.toNatClampNeg dX6_comesBefore_11 hS sp4 (Nat.le_of_ble_eq_true rfl) (Nat.le_of_ble_eq_true rfl) rfl (inR_vp g1) rfl ?_
  refine pg_icmp_eq 36 dX6_comesBefore_12 (by decide) (fun c1 => ?_) (fun c1 => ?_)
  · rw [if_pos c1] at h
    refine pg_aload_n dX6_comesBefore_36 rfl ?_
    refine eg_get dX6_comesBefore_37 fa_X6_77 hS sp2 (Nat.le_of_ble_eq_true rfl) (Nat.le_of_ble_eq_true rfl) rfl rfl ?_
    refine pg_iload_n dX6_comesBefore_40 rfl ?_
    obtain ⟨g1, h⟩ := gd_at h
    refine eg_ialdJ v1.toNatClampNeg dX6_comesBefore_41 hS sp5 (Nat.le_of_ble_eq_true rfl) (Nat.le_of_ble_eq_true rfl) rfl (inR_vp g1) rfl ?_
    refine pg_aload_n dX6_comesBefore_42 rfl ?_
    refine eg_get dX6_comesBefore_43 fa_X6_77 hS sp2 (Nat.le_of_ble_eq_true rfl) (Nat.le_of_ble_eq_true rfl) rfl rfl ?_
    refine pg_iload_n dX6_comesBefore_46 rfl ?_
    obtain ⟨g1, h⟩ := gd_at h
    refine eg_ialdJ v2.toNatClampNeg dX6_comesBefore_47 hS sp5 (Nat.le_of_ble_eq_true rfl) (Nat.le_of_ble_eq_true rfl) rfl (inR_vp g1) rfl ?_
    refine pg_icmp_eq 72 dX6_comesBefore_48 (by decide) (fun c2 => ?_) (fun c2 => ?_)
    · rw [if_pos c2] at h
      refine pg_aload_n dX6_comesBefore_72 rfl ?_
      refine pg_iload_n dX6_comesBefore_73 rfl ?_
      obtain ⟨r3, h_r3, h⟩ := bd_at h
      refine eg_cVi (C := mX1_idOf) (as := [(.int v1)]) dX6_comesBefore_74 mw510 cv_X1_idOf hS sp2 (Nat.le_of_ble_eq_true rfl) (Nat.le_of_ble_eq_true rfl) rfl rfl rfl (Nat.le_of_ble_eq_true rfl) rfl ⟨(Nat.le_of_ble_eq_true rfl), (Nat.le_of_ble_eq_true rfl)⟩ (ct_X1_idOf hfl (hS.sub (Nat.le_of_ble_eq_true rfl) (Nat.le_of_ble_eq_true rfl)) h_r3) ?_
      refine pg_aload_n dX6_comesBefore_77 rfl ?_
      refine pg_iload_n dX6_comesBefore_78 rfl ?_
      obtain ⟨r4, h_r4, h⟩ := bd_at h
      refine eg_cVi (C := mX1_idOf) (as := [(.int v2)]) dX6_comesBefore_79 mw510 cv_X1_idOf hS sp2 (Nat.le_of_ble_eq_true rfl) (Nat.le_of_ble_eq_true rfl) rfl rfl rfl (Nat.le_of_ble_eq_true rfl) rfl ⟨(Nat.le_of_ble_eq_true rfl), (Nat.le_of_ble_eq_true rfl)⟩ (ct_X1_idOf hfl (hS.sub (Nat.le_of_ble_eq_true rfl) (Nat.le_of_ble_eq_true rfl)) h_r4) ?_
      refine pg_icmp_ge 89 dX6_comesBefore_82 (by decide) (fun c5 => ?_) (fun c5 => ?_)
      · rw [if_pos c5] at h
        refine pg_iconst 0 dX6_comesBefore_89 rfl ?_
        obtain rfl := Option.some.inj h
        exact hE.2.1 _ _ _ _ _ _ .boolean dX6_comesBefore_90 rfl rfl (Nat.zero_le _) (Nat.zero_le _) ⟨rfl, rfl⟩
      · rw [if_neg c5] at h
        refine pg_iconst 1 dX6_comesBefore_85 rfl ?_
        refine pg_goto 90 dX6_comesBefore_86 (by decide) ?_
        obtain rfl := Option.some.inj h
        exact hE.2.1 _ _ _ _ _ _ .boolean dX6_comesBefore_90 rfl rfl (Nat.zero_le _) (Nat.zero_le _) ⟨rfl, rfl⟩
    · rw [if_neg c2] at h
      refine pg_aload_n dX6_comesBefore_51 rfl ?_
      refine eg_get dX6_comesBefore_52 fa_X6_77 hS sp2 (Nat.le_of_ble_eq_true rfl) (Nat.le_of_ble_eq_true rfl) rfl rfl ?_
      refine pg_iload_n dX6_comesBefore_55 rfl ?_
      obtain ⟨g1, h⟩ := gd_at h
      refine eg_ialdJ v1.toNatClampNeg dX6_comesBefore_56 hS sp5 (Nat.le_of_ble_eq_true rfl) (Nat.le_of_ble_eq_true rfl) rfl (inR_vp g1) rfl ?_
      refine pg_aload_n dX6_comesBefore_57 rfl ?_
      refine eg_get dX6_comesBefore_58 fa_X6_77 hS sp2 (Nat.le_of_ble_eq_true rfl) (Nat.le_of_ble_eq_true rfl) rfl rfl ?_
      refine pg_iload_n dX6_comesBefore_61 rfl ?_
      obtain ⟨g1, h⟩ := gd_at h
      refine eg_ialdJ v2.toNatClampNeg dX6_comesBefore_62 hS sp5 (Nat.le_of_ble_eq_true rfl) (Nat.le_of_ble_eq_true rfl) rfl (inR_vp g1) rfl ?_
      refine pg_icmp_ge 70 dX6_comesBefore_63 (by decide) (fun c6 => ?_) (fun c6 => ?_)
      · rw [if_pos c6] at h
        refine pg_iconst 0 dX6_comesBefore_70 rfl ?_
        obtain rfl := Option.some.inj h
        exact hE.2.1 _ _ _ _ _ _ .boolean dX6_comesBefore_71 rfl rfl (Nat.zero_le _) (Nat.zero_le _) ⟨rfl, rfl⟩
      · rw [if_neg c6] at h
        refine pg_iconst 1 dX6_comesBefore_66 rfl ?_
        refine pg_goto 71 dX6_comesBefore_67 (by decide) ?_
        obtain rfl := Option.some.inj h
        exact hE.2.1 _ _ _ _ _ _ .boolean dX6_comesBefore_71 rfl rfl (Nat.zero_le _) (Nat.zero_le _) ⟨rfl, rfl⟩
  · rw [if_neg c1] at h
    refine pg_aload_n dX6_comesBefore_15 rfl ?_
    refine eg_get dX6_comesBefore_16 fa_X6_74 hS sp2 (Nat.le_of_ble_eq_true rfl) (Nat.le_of_ble_eq_true rfl) rfl rfl ?_
    refine pg_iload_n dX6_comesBefore_19 rfl ?_
    obtain ⟨g1, h⟩ := gd_at h
    refine eg_ialdJ v1.toNatClampNeg dX6_comesBefore_20 hS sp4 (Nat.le_of_ble_eq_true rfl) (Nat.le_of_ble_eq_true rfl) rfl (inR_vp g1) rfl ?_
    refine pg_aload_n dX6_comesBefore_21 rfl ?_
    refine eg_get dX6_comesBefore_22 fa_X6_74 hS sp2 (Nat.le_of_ble_eq_true rfl) (Nat.le_of_ble_eq_true rfl) rfl rfl ?_
    refine pg_iload_n dX6_comesBefore_25 rfl ?_
    obtain ⟨g1, h⟩ := gd_at h
    refine eg_ialdJ v2.toNatClampNeg dX6_comesBefore_26 hS sp4 (Nat.le_of_ble_eq_true rfl) (Nat.le_of_ble_eq_true rfl) rfl (inR_vp g1) rfl ?_
    refine pg_icmp_ge 34 dX6_comesBefore_27 (by decide) (fun c7 => ?_) (fun c7 => ?_)
    · rw [if_pos c7] at h
      refine pg_iconst 0 dX6_comesBefore_34 rfl ?_
      obtain rfl := Option.some.inj h
      exact hE.2.1 _ _ _ _ _ _ .boolean dX6_comesBefore_35 rfl rfl (Nat.zero_le _) (Nat.zero_le _) ⟨rfl, rfl⟩
    · rw [if_neg c7] at h
      refine pg_iconst 1 dX6_comesBefore_30 rfl ?_
      refine pg_goto 35 dX6_comesBefore_31 (by decide) ?_
      obtain rfl := Option.some.inj h
      exact hE.2.1 _ _ _ _ _ _ .boolean dX6_comesBefore_35 rfl rfl (Nat.zero_le _) (Nat.zero_le _) ⟨rfl, rfl⟩
def f_X6_roleOf (v2 : Int32) (v3 : Int32) (v4 : Int32) (m0 : me) : Option (Int32 × me) :=
  gd (inR v2 16) (
  if (m0.1 16 v2.toNatClampNeg) = 0 then
    some ((2, m0))
  else
    gd (inR v3 8) (
    if (m0.1 7 v3.toNatClampNeg) = v2 then
      some ((0, m0))
    else
      bd (f_X6_comesBefore v3 v4 m0) (fun r3 =>
      if r3.1 = 0 then
        some ((2, r3.2))
      else
        some ((1, r3.2)))))
set_option maxRecDepth 20000 in
set_option maxHeartbeats 4000000 in
theorem ct_X6_roleOf (hfl : g.1.stackTraces = false) (hS : pS 1 28 S) {v2 : Int32} {v3 : Int32} {v4 : Int32} {m0 : me} {x : (Int32 × me)} (h : f_X6_roleOf v2 v3 v4 m0 = some x) : pm_Ct g mX6_roleOf [.ref 2, .ref 11, .int v2, .int v3, .int v4] (en S m0) 0 0 (qI S x) qF := by
  refine pm_of (by decide +kernel) rfl hfl (Nat.le_of_ble_eq_true rfl) (fun X hE => ?_)
  show pm_G g mX6_roleOf X 0 [some (.ref 2), some (.ref 11), some (.int v2), some (.int v3), some (.int v4)] [] (en S m0) 0 0
  unfold f_X6_roleOf at h
  refine pg_aload_n dX6_roleOf_0 rfl ?_
  refine eg_get dX6_roleOf_1 fa_X6_62 hS sp11 (Nat.le_of_ble_eq_true rfl) (Nat.le_of_ble_eq_true rfl) rfl rfl ?_
  refine pg_iload_n dX6_roleOf_4 rfl ?_
  obtain ⟨g1, h⟩ := gd_at h
  refine eg_zaldJ v2.toNatClampNeg dX6_roleOf_5 hS sp16 (Nat.le_of_ble_eq_true rfl) (Nat.le_of_ble_eq_true rfl) rfl (inR_vp g1) rfl ?_
  refine pg_if_ne 11 dX6_roleOf_6 (by decide) (fun c1 => ?_) (fun c1 => ?_)
  · rw [if_neg c1] at h
    refine pg_aload_n dX6_roleOf_11 rfl ?_
    refine eg_get dX6_roleOf_12 fa_X6_65 hS sp2 (Nat.le_of_ble_eq_true rfl) (Nat.le_of_ble_eq_true rfl) rfl rfl ?_
    refine pg_iload_n dX6_roleOf_15 rfl ?_
    obtain ⟨g1, h⟩ := gd_at h
    refine eg_ialdJ v3.toNatClampNeg dX6_roleOf_16 hS sp7 (Nat.le_of_ble_eq_true rfl) (Nat.le_of_ble_eq_true rfl) rfl (inR_vp g1) rfl ?_
    refine pg_iload_n dX6_roleOf_17 rfl ?_
    refine pg_icmp_ne 23 dX6_roleOf_18 (by decide) (fun c2 => ?_) (fun c2 => ?_)
    · rw [if_neg c2] at h
      refine pg_aload_n dX6_roleOf_23 rfl ?_
      refine pg_iload_n dX6_roleOf_24 rfl ?_
      refine pg_iload dX6_roleOf_25 rfl ?_
      obtain ⟨r3, h_r3, h⟩ := bd_at h
      refine eg_cSi (C := mX6_comesBefore) (as := [(.ref 2), (.int v3), (.int v4)]) dX6_roleOf_27 mw504 cs_X6_comesBefore rfl rfl (Nat.le_of_ble_eq_true rfl) rfl ⟨(Nat.le_of_ble_eq_true rfl), (Nat.le_of_ble_eq_true rfl)⟩ (ct_X6_comesBefore hfl (hS.sub (Nat.le_of_ble_eq_true rfl) (Nat.le_of_ble_eq_true rfl)) h_r3) ?_
      refine pg_if_eq 37 dX6_roleOf_30 (by decide) (fun c4 => ?_) (fun c4 => ?_)
      · rw [if_pos c4] at h
        refine pg_iconst 2 dX6_roleOf_37 rfl ?_
        obtain rfl := Option.some.inj h
        exact hE.2.1 _ _ _ _ _ _ .int dX6_roleOf_38 rfl rfl (Nat.zero_le _) (Nat.zero_le _) ⟨rfl, rfl⟩
      · rw [if_neg c4] at h
        refine pg_iconst 1 dX6_roleOf_33 rfl ?_
        refine pg_goto 38 dX6_roleOf_34 (by decide) ?_
        obtain rfl := Option.some.inj h
        exact hE.2.1 _ _ _ _ _ _ .int dX6_roleOf_38 rfl rfl (Nat.zero_le _) (Nat.zero_le _) ⟨rfl, rfl⟩
    · rw [if_pos c2] at h
      refine pg_iconst 0 dX6_roleOf_21 rfl ?_
      obtain rfl := Option.some.inj h
      exact hE.2.1 _ _ _ _ _ _ .int dX6_roleOf_22 rfl rfl (Nat.zero_le _) (Nat.zero_le _) ⟨rfl, rfl⟩
  · rw [if_pos c1] at h
    refine pg_iconst 2 dX6_roleOf_9 rfl ?_
    obtain rfl := Option.some.inj h
    exact hE.2.1 _ _ _ _ _ _ .int dX6_roleOf_10 rfl rfl (Nat.zero_le _) (Nat.zero_le _) ⟨rfl, rfl⟩
def j_X6_moveState_106 (v1 : Int32) (m0 : me) : Option me :=
  gd (inR v1 32) (
  if (m0.1 22 v1.toNatClampNeg) = 0 then
    gd (inR v1 32) (
    lt (wI m0 21 v1.toNatClampNeg 3) (fun m7 =>
    some (m7)))
  else
    some (m0))
def f_X6_moveState (v1 : Int32) (v2 : Int32) (m0 : me) : Option me :=
  gd (inR v1 32) (
  if (m0.1 20 v1.toNatClampNeg) = 2 then
    gd (inR v1 32) (
    lt (wI m0 21 v1.toNatClampNeg 0) (fun m13 =>
    gd (inR v1 32) (
    lt (wI m13 22 v1.toNatClampNeg 0) (fun m14 =>
    some (m14)))))
  else
    gd (inR v1 32) (
    if (m0.1 21 v1.toNatClampNeg) = 0 then
      gd (inR v1 32) (
      lt (wI m0 21 v1.toNatClampNeg 1) (fun m11 =>
      gd (inR v1 32) (
      lt (wI m11 22 v1.toNatClampNeg v2) (fun m12 =>
      some (m12)))))
    else
      gd (inR v1 32) (
      if (m0.1 21 v1.toNatClampNeg) = 3 then
        some (m0)
      else
        gd (inR v1 32) (
        gd (inR v1 32) (
        lt (wI m0 22 v1.toNatClampNeg ((m0.1 22 v1.toNatClampNeg) - 1)) (fun m4 =>
        gd (inR v1 32) (
        if (m4.1 22 v1.toNatClampNeg) = 0 then
          gd (inR v1 32) (
          if (m4.1 21 v1.toNatClampNeg) = 1 then
            gd (inR v1 32) (
            lt (wI m4 21 v1.toNatClampNeg 2) (fun m9 =>
            gd (inR v1 32) (
            lt (wI m9 22 v1.toNatClampNeg v2) (fun m10 =>
            some (m10)))))
          else
            j_X6_moveState_106 v1 m4)
        else
          j_X6_moveState_106 v1 m4)))))))
set_option maxRecDepth 20000 in
set_option maxHeartbeats 4000000 in
theorem lj_X6_moveState_106 (hfl : g.1.stackTraces = false) (hS : pS 1 28 S) {v1 : Int32} {m0 : me} {r : me} (h : j_X6_moveState_106 v1 m0 = some r) (hE : pm_End g mX6_moveState X 0 0 (qV S r) qF) : pm_G g mX6_moveState X 106 [some (.ref 11), some (.int v1), none] [] (en S m0) 0 0 := by
  unfold j_X6_moveState_106 at h
  refine pg_aload_n dX6_moveState_106 rfl ?_
  refine eg_get dX6_moveState_107 fa_X6_84 hS sp11 (Nat.le_of_ble_eq_true rfl) (Nat.le_of_ble_eq_true rfl) rfl rfl ?_
  refine pg_iload_n dX6_moveState_110 rfl ?_
  obtain ⟨g1, h⟩ := gd_at h
  refine eg_ialdJ v1.toNatClampNeg dX6_moveState_111 hS sp22 (Nat.le_of_ble_eq_true rfl) (Nat.le_of_ble_eq_true rfl) rfl (inR_vp g1) rfl ?_
  refine pg_if_ne 122 dX6_moveState_112 (by decide) (fun c6 => ?_) (fun c6 => ?_)
  · rw [if_neg c6] at h
    obtain rfl := Option.some.inj h
    exact hE.2.2.1 _ _ _ _ _ dX6_moveState_122 rfl (Nat.zero_le _) (Nat.zero_le _) ⟨rfl, rfl⟩
  · rw [if_pos c6] at h
    refine pg_aload_n dX6_moveState_115 rfl ?_
    refine eg_get dX6_moveState_116 fa_X6_41 hS sp11 (Nat.le_of_ble_eq_true rfl) (Nat.le_of_ble_eq_true rfl) rfl rfl ?_
    refine pg_iload_n dX6_moveState_119 rfl ?_
    refine pg_iconst 3 dX6_moveState_120 rfl ?_
    obtain ⟨g1, h⟩ := gd_at h
    refine eg_iastJ v1.toNatClampNeg dX6_moveState_121 hS sp21 (Nat.le_of_ble_eq_true rfl) (Nat.le_of_ble_eq_true rfl) (fun _ _ _ => rfl) (inR_vp g1) rfl (fun m7 e_m7 => ?_)
    replace h := lt_at h e_m7
    obtain rfl := Option.some.inj h
    exact hE.2.2.1 _ _ _ _ _ dX6_moveState_122 rfl (Nat.zero_le _) (Nat.zero_le _) ⟨rfl, rfl⟩
set_option maxRecDepth 20000 in
set_option maxHeartbeats 4000000 in
theorem ct_X6_moveState (hfl : g.1.stackTraces = false) (hS : pS 1 28 S) {v1 : Int32} {v2 : Int32} {m0 : me} {x : me} (h : f_X6_moveState v1 v2 m0 = some x) : pm_Ct g mX6_moveState [.ref 11, .int v1, .int v2] (en S m0) 0 0 (qV S x) qF := by
  refine pm_of (by decide +kernel) rfl hfl (Nat.le_of_ble_eq_true rfl) (fun X hE => ?_)
  show pm_G g mX6_moveState X 0 [some (.ref 11), some (.int v1), some (.int v2)] [] (en S m0) 0 0
  unfold f_X6_moveState at h
  refine pg_aload_n dX6_moveState_0 rfl ?_
  refine eg_get dX6_moveState_1 fa_X6_44 hS sp11 (Nat.le_of_ble_eq_true rfl) (Nat.le_of_ble_eq_true rfl) rfl rfl ?_
  refine pg_iload_n dX6_moveState_4 rfl ?_
  obtain ⟨g1, h⟩ := gd_at h
  refine eg_ialdJ v1.toNatClampNeg dX6_moveState_5 hS sp20 (Nat.le_of_ble_eq_true rfl) (Nat.le_of_ble_eq_true rfl) rfl (inR_vp g1) rfl ?_
  refine pg_iconst 2 dX6_moveState_6 rfl ?_
  refine pg_icmp_ne 25 dX6_moveState_7 (by decide) (fun c1 => ?_) (fun c1 => ?_)
  · rw [if_neg c1] at h
    refine pg_aload_n dX6_moveState_25 rfl ?_
    refine eg_get dX6_moveState_26 fa_X6_41 hS sp11 (Nat.le_of_ble_eq_true rfl) (Nat.le_of_ble_eq_true rfl) rfl rfl ?_
    refine pg_iload_n dX6_moveState_29 rfl ?_
    obtain ⟨g1, h⟩ := gd_at h
    refine eg_ialdJ v1.toNatClampNeg dX6_moveState_30 hS sp21 (Nat.le_of_ble_eq_true rfl) (Nat.le_of_ble_eq_true rfl) rfl (inR_vp g1) rfl ?_
    refine pg_if_ne 49 dX6_moveState_31 (by decide) (fun c2 => ?_) (fun c2 => ?_)
    · rw [if_neg c2] at h
      refine pg_aload_n dX6_moveState_49 rfl ?_
      refine eg_get dX6_moveState_50 fa_X6_41 hS sp11 (Nat.le_of_ble_eq_true rfl) (Nat.le_of_ble_eq_true rfl) rfl rfl ?_
      refine pg_iload_n dX6_moveState_53 rfl ?_
      obtain ⟨g1, h⟩ := gd_at h
      refine eg_ialdJ v1.toNatClampNeg dX6_moveState_54 hS sp21 (Nat.le_of_ble_eq_true rfl) (Nat.le_of_ble_eq_true rfl) rfl (inR_vp g1) rfl ?_
      refine pg_iconst 3 dX6_moveState_55 rfl ?_
      refine pg_icmp_ne 60 dX6_moveState_56 (by decide) (fun c3 => ?_) (fun c3 => ?_)
      · rw [if_neg c3] at h
        refine pg_aload_n dX6_moveState_60 rfl ?_
        refine eg_get dX6_moveState_61 fa_X6_84 hS sp11 (Nat.le_of_ble_eq_true rfl) (Nat.le_of_ble_eq_true rfl) rfl rfl ?_
        refine pg_iload_n dX6_moveState_64 rfl ?_
        refine pg_dup2 dX6_moveState_65 rfl rfl ?_
        obtain ⟨g1, h⟩ := gd_at h
        refine eg_ialdJ v1.toNatClampNeg dX6_moveState_66 hS sp22 (Nat.le_of_ble_eq_true rfl) (Nat.le_of_ble_eq_true rfl) rfl (inR_vp g1) rfl ?_
        refine pg_iconst 1 dX6_moveState_67 rfl ?_
        refine pg_isub dX6_moveState_68 ?_
        obtain ⟨g1, h⟩ := gd_at h
        refine eg_iastJ v1.toNatClampNeg dX6_moveState_69 hS sp22 (Nat.le_of_ble_eq_true rfl) (Nat.le_of_ble_eq_true rfl) (fun _ _ _ => rfl) (inR_vp g1) rfl (fun m4 e_m4 => ?_)
        replace h := lt_at h e_m4
        refine pg_aload_n dX6_moveState_70 rfl ?_
        refine eg_get dX6_moveState_71 fa_X6_84 hS sp11 (Nat.le_of_ble_eq_true rfl) (Nat.le_of_ble_eq_true rfl) rfl rfl ?_
        refine pg_iload_n dX6_moveState_74 rfl ?_
        obtain ⟨g1, h⟩ := gd_at h
        refine eg_ialdJ v1.toNatClampNeg dX6_moveState_75 hS sp22 (Nat.le_of_ble_eq_true rfl) (Nat.le_of_ble_eq_true rfl) rfl (inR_vp g1) rfl ?_
        refine pg_if_ne 106 dX6_moveState_76 (by decide) (fun c5 => ?_) (fun c5 => ?_)
        · rw [if_neg c5] at h
          refine eg_forget [some (.ref 11), some (.int v1), none] (show pm_sub _ _ from ⟨rfl, ⟨rfl, trivial⟩⟩) ?_
          exact lj_X6_moveState_106 hfl hS h hE
        · rw [if_pos c5] at h
          refine pg_aload_n dX6_moveState_79 rfl ?_
          refine eg_get dX6_moveState_80 fa_X6_41 hS sp11 (Nat.le_of_ble_eq_true rfl) (Nat.le_of_ble_eq_true rfl) rfl rfl ?_
          refine pg_iload_n dX6_moveState_83 rfl ?_
          obtain ⟨g1, h⟩ := gd_at h
          refine eg_ialdJ v1.toNatClampNeg dX6_moveState_84 hS sp21 (Nat.le_of_ble_eq_true rfl) (Nat.le_of_ble_eq_true rfl) rfl (inR_vp g1) rfl ?_
          refine pg_iconst 1 dX6_moveState_85 rfl ?_
          refine pg_icmp_ne 106 dX6_moveState_86 (by decide) (fun c8 => ?_) (fun c8 => ?_)
          · rw [if_neg c8] at h
            refine eg_forget [some (.ref 11), some (.int v1), none] (show pm_sub _ _ from ⟨rfl, ⟨rfl, trivial⟩⟩) ?_
            exact lj_X6_moveState_106 hfl hS h hE
          · rw [if_pos c8] at h
            refine pg_aload_n dX6_moveState_89 rfl ?_
            refine eg_get dX6_moveState_90 fa_X6_41 hS sp11 (Nat.le_of_ble_eq_true rfl) (Nat.le_of_ble_eq_true rfl) rfl rfl ?_
            refine pg_iload_n dX6_moveState_93 rfl ?_
            refine pg_iconst 2 dX6_moveState_94 rfl ?_
            obtain ⟨g1, h⟩ := gd_at h
            refine eg_iastJ v1.toNatClampNeg dX6_moveState_95 hS sp21 (Nat.le_of_ble_eq_true rfl) (Nat.le_of_ble_eq_true rfl) (fun _ _ _ => rfl) (inR_vp g1) rfl (fun m9 e_m9 => ?_)
            replace h := lt_at h e_m9
            refine pg_aload_n dX6_moveState_96 rfl ?_
            refine eg_get dX6_moveState_97 fa_X6_84 hS sp11 (Nat.le_of_ble_eq_true rfl) (Nat.le_of_ble_eq_true rfl) rfl rfl ?_
            refine pg_iload_n dX6_moveState_100 rfl ?_
            refine pg_iload_n dX6_moveState_101 rfl ?_
            obtain ⟨g1, h⟩ := gd_at h
            refine eg_iastJ v1.toNatClampNeg dX6_moveState_102 hS sp22 (Nat.le_of_ble_eq_true rfl) (Nat.le_of_ble_eq_true rfl) (fun _ _ _ => rfl) (inR_vp g1) rfl (fun m10 e_m10 => ?_)
            replace h := lt_at h e_m10
            refine pg_goto 122 dX6_moveState_103 (by decide) ?_
            obtain rfl := Option.some.inj h
            exact hE.2.2.1 _ _ _ _ _ dX6_moveState_122 rfl (Nat.zero_le _) (Nat.zero_le _) ⟨rfl, rfl⟩
      · rw [if_pos c3] at h
        obtain rfl := Option.some.inj h
        exact hE.2.2.1 _ _ _ _ _ dX6_moveState_59 rfl (Nat.zero_le _) (Nat.zero_le _) ⟨rfl, rfl⟩
    · rw [if_pos c2] at h
      refine pg_aload_n dX6_moveState_34 rfl ?_
      refine eg_get dX6_moveState_35 fa_X6_41 hS sp11 (Nat.le_of_ble_eq_true rfl) (Nat.le_of_ble_eq_true rfl) rfl rfl ?_
      refine pg_iload_n dX6_moveState_38 rfl ?_
      refine pg_iconst 1 dX6_moveState_39 rfl ?_
      obtain ⟨g1, h⟩ := gd_at h
      refine eg_iastJ v1.toNatClampNeg dX6_moveState_40 hS sp21 (Nat.le_of_ble_eq_true rfl) (Nat.le_of_ble_eq_true rfl) (fun _ _ _ => rfl) (inR_vp g1) rfl (fun m11 e_m11 => ?_)
      replace h := lt_at h e_m11
      refine pg_aload_n dX6_moveState_41 rfl ?_
      refine eg_get dX6_moveState_42 fa_X6_84 hS sp11 (Nat.le_of_ble_eq_true rfl) (Nat.le_of_ble_eq_true rfl) rfl rfl ?_
      refine pg_iload_n dX6_moveState_45 rfl ?_
      refine pg_iload_n dX6_moveState_46 rfl ?_
      obtain ⟨g1, h⟩ := gd_at h
      refine eg_iastJ v1.toNatClampNeg dX6_moveState_47 hS sp22 (Nat.le_of_ble_eq_true rfl) (Nat.le_of_ble_eq_true rfl) (fun _ _ _ => rfl) (inR_vp g1) rfl (fun m12 e_m12 => ?_)
      replace h := lt_at h e_m12
      obtain rfl := Option.some.inj h
      exact hE.2.2.1 _ _ _ _ _ dX6_moveState_48 rfl (Nat.zero_le _) (Nat.zero_le _) ⟨rfl, rfl⟩
  · rw [if_pos c1] at h
    refine pg_aload_n dX6_moveState_10 rfl ?_
    refine eg_get dX6_moveState_11 fa_X6_41 hS sp11 (Nat.le_of_ble_eq_true rfl) (Nat.le_of_ble_eq_true rfl) rfl rfl ?_
    refine pg_iload_n dX6_moveState_14 rfl ?_
    refine pg_iconst 0 dX6_moveState_15 rfl ?_
    obtain ⟨g1, h⟩ := gd_at h
    refine eg_iastJ v1.toNatClampNeg dX6_moveState_16 hS sp21 (Nat.le_of_ble_eq_true rfl) (Nat.le_of_ble_eq_true rfl) (fun _ _ _ => rfl) (inR_vp g1) rfl (fun m13 e_m13 => ?_)
    replace h := lt_at h e_m13
    refine pg_aload_n dX6_moveState_17 rfl ?_
    refine eg_get dX6_moveState_18 fa_X6_84 hS sp11 (Nat.le_of_ble_eq_true rfl) (Nat.le_of_ble_eq_true rfl) rfl rfl ?_
    refine pg_iload_n dX6_moveState_21 rfl ?_
    refine pg_iconst 0 dX6_moveState_22 rfl ?_
    obtain ⟨g1, h⟩ := gd_at h
    refine eg_iastJ v1.toNatClampNeg dX6_moveState_23 hS sp22 (Nat.le_of_ble_eq_true rfl) (Nat.le_of_ble_eq_true rfl) (fun _ _ _ => rfl) (inR_vp g1) rfl (fun m14 e_m14 => ?_)
    replace h := lt_at h e_m14
    obtain rfl := Option.some.inj h
    exact hE.2.2.1 _ _ _ _ _ dX6_moveState_24 rfl (Nat.zero_le _) (Nat.zero_le _) ⟨rfl, rfl⟩
end
