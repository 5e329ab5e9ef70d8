section
variable {g : pm_Gl} {X : pm_X} {S : List sF}
def f_X4_copyFrom_30_1 (m0 : me) : Option me :=
  lt (wI m0 30 0 (m0.1 1 0)) (fun m1 =>
  lt (wI m1 30 1 (m1.1 1 1)) (fun m2 =>
  lt (wI m2 30 2 (m2.1 1 2)) (fun m3 =>
  lt (wI m3 30 3 (m3.1 1 3)) (fun m4 =>
  lt (wI m4 30 4 (m4.1 1 4)) (fun m5 =>
  lt (wI m5 30 5 (m5.1 1 5)) (fun m6 =>
  lt (wI m6 30 6 (m6.1 1 6)) (fun m7 =>
  lt (wI m7 30 7 (m7.1 1 7)) (fun m8 =>
  lt (wI m8 30 8 (m8.1 1 8)) (fun m9 =>
  lt (wI m9 30 9 (m9.1 1 9)) (fun m10 =>
  bd (f_X1_copyFrom_31_2 m10) (fun r11 =>
  bd (f_X3_copyFrom_40_11 r11) (fun r12 =>
  bd (f_X8_copyFrom_52_23 r12) (fun r13 =>
  some (r13))))))))))))))
set_option maxRecDepth 20000 in
set_option maxHeartbeats 4000000 in
theorem ct_X4_copyFrom_30_1 (hfl : g.1.stackTraces = false) (hS : pS 0 138 S) {m0 : me} {x : me} (h : f_X4_copyFrom_30_1 m0 = some x) : pm_Ct g mX4_copyFrom [.ref 30, .ref 1] (en S m0) 0 0 (qV S x) qF := by
  refine pm_of (by decide +kernel) rfl hfl (Nat.le_of_ble_eq_true rfl) (fun X hE => ?_)
  show pm_G g mX4_copyFrom X 0 [some (.ref 30), some (.ref 1)] [] (en S m0) 0 0
  unfold f_X4_copyFrom_30_1 at h
  refine pg_aload_n dX4_copyFrom_0 rfl ?_
  refine pg_aload_n dX4_copyFrom_1 rfl ?_
  refine eg_get dX4_copyFrom_2 fa_X4_42 hS sp1 (Nat.le_of_ble_eq_true rfl) (Nat.le_of_ble_eq_true rfl) rfl rfl ?_
  refine eg_put dX4_copyFrom_5 fa_X4_42 hS sp30 (Nat.le_of_ble_eq_true rfl) (Nat.le_of_ble_eq_true rfl) rfl (Nat.le_of_ble_eq_true rfl) rfl (fun m1 e_m1 => ?_)
  replace h := lt_at h e_m1
  refine pg_aload_n dX4_copyFrom_8 rfl ?_
  refine pg_aload_n dX4_copyFrom_9 rfl ?_
  refine eg_get dX4_copyFrom_10 fa_X4_45 hS sp1 (Nat.le_of_ble_eq_true rfl) (Nat.le_of_ble_eq_true rfl) rfl rfl ?_
  refine eg_put dX4_copyFrom_13 fa_X4_45 hS sp30 (Nat.le_of_ble_eq_true rfl) (Nat.le_of_ble_eq_true rfl) rfl (Nat.le_of_ble_eq_true rfl) rfl (fun m2 e_m2 => ?_)
  replace h := lt_at h e_m2
  refine pg_aload_n dX4_copyFrom_16 rfl ?_
  refine pg_aload_n dX4_copyFrom_17 rfl ?_
  refine eg_get dX4_copyFrom_18 fa_X4_9 hS sp1 (Nat.le_of_ble_eq_true rfl) (Nat.le_of_ble_eq_true rfl) rfl rfl ?_
  refine eg_put dX4_copyFrom_21 fa_X4_9 hS sp30 (Nat.le_of_ble_eq_true rfl) (Nat.le_of_ble_eq_true rfl) rfl (Nat.le_of_ble_eq_true rfl) rfl (fun m3 e_m3 => ?_)
  replace h := lt_at h e_m3
  refine pg_aload_n dX4_copyFrom_24 rfl ?_
  refine pg_aload_n dX4_copyFrom_25 rfl ?_
  refine eg_get dX4_copyFrom_26 fa_X4_15 hS sp1 (Nat.le_of_ble_eq_true rfl) (Nat.le_of_ble_eq_true rfl) rfl rfl ?_
  refine eg_put dX4_copyFrom_29 fa_X4_15 hS sp30 (Nat.le_of_ble_eq_true rfl) (Nat.le_of_ble_eq_true rfl) rfl (Nat.le_of_ble_eq_true rfl) rfl (fun m4 e_m4 => ?_)
  replace h := lt_at h e_m4
  refine pg_aload_n dX4_copyFrom_32 rfl ?_
  refine pg_aload_n dX4_copyFrom_33 rfl ?_
  refine eg_get dX4_copyFrom_34 fa_X4_18 hS sp1 (Nat.le_of_ble_eq_true rfl) (Nat.le_of_ble_eq_true rfl) rfl rfl ?_
  refine eg_put dX4_copyFrom_37 fa_X4_18 hS sp30 (Nat.le_of_ble_eq_true rfl) (Nat.le_of_ble_eq_true rfl) rfl (Nat.le_of_ble_eq_true rfl) rfl (fun m5 e_m5 => ?_)
  replace h := lt_at h e_m5
  refine pg_aload_n dX4_copyFrom_40 rfl ?_
  refine pg_aload_n dX4_copyFrom_41 rfl ?_
  refine eg_get dX4_copyFrom_42 fa_X4_48 hS sp1 (Nat.le_of_ble_eq_true rfl) (Nat.le_of_ble_eq_true rfl) rfl rfl ?_
  refine eg_put dX4_copyFrom_45 fa_X4_48 hS sp30 (Nat.le_of_ble_eq_true rfl) (Nat.le_of_ble_eq_true rfl) rfl (Nat.le_of_ble_eq_true rfl) rfl (fun m6 e_m6 => ?_)
  replace h := lt_at h e_m6
  refine pg_aload_n dX4_copyFrom_48 rfl ?_
  refine pg_aload_n dX4_copyFrom_49 rfl ?_
  refine eg_get dX4_copyFrom_50 fa_X4_51 hS sp1 (Nat.le_of_ble_eq_true rfl) (Nat.le_of_ble_eq_true rfl) rfl rfl ?_
  refine eg_put dX4_copyFrom_53 fa_X4_51 hS sp30 (Nat.le_of_ble_eq_true rfl) (Nat.le_of_ble_eq_true rfl) rfl (Nat.le_of_ble_eq_true rfl) rfl (fun m7 e_m7 => ?_)
  replace h := lt_at h e_m7
  refine pg_aload_n dX4_copyFrom_56 rfl ?_
  refine pg_aload_n dX4_copyFrom_57 rfl ?_
  refine eg_get dX4_copyFrom_58 fa_X4_54 hS sp1 (Nat.le_of_ble_eq_true rfl) (Nat.le_of_ble_eq_true rfl) rfl rfl ?_
  refine eg_put dX4_copyFrom_61 fa_X4_54 hS sp30 (Nat.le_of_ble_eq_true rfl) (Nat.le_of_ble_eq_true rfl) rfl (Nat.le_of_ble_eq_true rfl) rfl (fun m8 e_m8 => ?_)
  replace h := lt_at h e_m8
  refine pg_aload_n dX4_copyFrom_64 rfl ?_
  refine pg_aload_n dX4_copyFrom_65 rfl ?_
  refine eg_get dX4_copyFrom_66 fa_X4_57 hS sp1 (Nat.le_of_ble_eq_true rfl) (Nat.le_of_ble_eq_true rfl) rfl rfl ?_
  refine eg_put dX4_copyFrom_69 fa_X4_57 hS sp30 (Nat.le_of_ble_eq_true rfl) (Nat.le_of_ble_eq_true rfl) rfl (Nat.le_of_ble_eq_true rfl) rfl (fun m9 e_m9 => ?_)
  replace h := lt_at h e_m9
  refine pg_aload_n dX4_copyFrom_72 rfl ?_
  refine pg_aload_n dX4_copyFrom_73 rfl ?_
  refine eg_get dX4_copyFrom_74 fa_X4_60 hS sp1 (Nat.le_of_ble_eq_true rfl) (Nat.le_of_ble_eq_true rfl) rfl rfl ?_
  refine eg_put dX4_copyFrom_77 fa_X4_60 hS sp30 (Nat.le_of_ble_eq_true rfl) (Nat.le_of_ble_eq_true rfl) rfl (Nat.le_of_ble_eq_true rfl) rfl (fun m10 e_m10 => ?_)
  replace h := lt_at h e_m10
  refine pg_aload_n dX4_copyFrom_80 rfl ?_
  refine eg_get dX4_copyFrom_81 fa_X4_24 hS sp30 (Nat.le_of_ble_eq_true rfl) (Nat.le_of_ble_eq_true rfl) rfl rfl ?_
  refine pg_aload_n dX4_copyFrom_84 rfl ?_
  refine eg_get dX4_copyFrom_85 fa_X4_24 hS sp1 (Nat.le_of_ble_eq_true rfl) (Nat.le_of_ble_eq_true rfl) rfl rfl ?_
  obtain ⟨r11, h_r11, h⟩ := bd_at h
  refine eg_cVv (C := mX1_copyFrom) (as := [(.ref 2)]) dX4_copyFrom_88 mw291 cv_X1_copyFrom hS sp31 (Nat.le_of_ble_eq_true rfl) (Nat.le_of_ble_eq_true rfl) rfl rfl rfl (Nat.le_of_ble_eq_true rfl) rfl ⟨(Nat.le_of_ble_eq_true rfl), (Nat.le_of_ble_eq_true rfl)⟩ (ct_X1_copyFrom_31_2 hfl (hS.sub (Nat.le_of_ble_eq_true rfl) (Nat.le_of_ble_eq_true rfl)) h_r11) ?_
  refine pg_aload_n dX4_copyFrom_91 rfl ?_
  refine eg_get dX4_copyFrom_92 fa_X4_31 hS sp30 (Nat.le_of_ble_eq_true rfl) (Nat.le_of_ble_eq_true rfl) rfl rfl ?_
  refine pg_aload_n dX4_copyFrom_95 rfl ?_
  refine eg_get dX4_copyFrom_96 fa_X4_31 hS sp1 (Nat.le_of_ble_eq_true rfl) (Nat.le_of_ble_eq_true rfl) rfl rfl ?_
  obtain ⟨r12, h_r12, h⟩ := bd_at h
  refine eg_cVv (C := mX3_copyFrom) (as := [(.ref 11)]) dX4_copyFrom_99 mw296 cv_X3_copyFrom hS sp40 (Nat.le_of_ble_eq_true rfl) (Nat.le_of_ble_eq_true rfl) rfl rfl rfl (Nat.le_of_ble_eq_true rfl) rfl ⟨(Nat.le_of_ble_eq_true rfl), (Nat.le_of_ble_eq_true rfl)⟩ (ct_X3_copyFrom_40_11 hfl (hS.sub (Nat.le_of_ble_eq_true rfl) (Nat.le_of_ble_eq_true rfl)) h_r12) ?_
  refine pg_aload_n dX4_copyFrom_102 rfl ?_
  refine eg_get dX4_copyFrom_103 fa_X4_38 hS sp30 (Nat.le_of_ble_eq_true rfl) (Nat.le_of_ble_eq_true rfl) rfl rfl ?_
  refine pg_aload_n dX4_copyFrom_106 rfl ?_
  refine eg_get dX4_copyFrom_107 fa_X4_38 hS sp1 (Nat.le_of_ble_eq_true rfl) (Nat.le_of_ble_eq_true rfl) rfl rfl ?_
  obtain ⟨r13, h_r13, h⟩ := bd_at h
  refine eg_cVv (C := mX8_copyFrom) (as := [(.ref 23)]) dX4_copyFrom_110 mw301 cv_X8_copyFrom hS sp52 (Nat.le_of_ble_eq_true rfl) (Nat.le_of_ble_eq_true rfl) rfl rfl rfl (Nat.le_of_ble_eq_true rfl) rfl ⟨(Nat.le_of_ble_eq_true rfl), (Nat.le_of_ble_eq_true rfl)⟩ (ct_X8_copyFrom_52_23 hfl (hS.sub (Nat.le_of_ble_eq_true rfl) (Nat.le_of_ble_eq_true rfl)) h_r13) ?_
  obtain rfl := Option.some.inj h
  exact hE.2.2.1 _ _ _ _ _ dX4_copyFrom_113 rfl (Nat.zero_le _) (Nat.zero_le _) ⟨rfl, rfl⟩
def f_X1_copyFrom_58_2 (m0 : me) : Option me :=
  lt (cp m0 3 59 0 0 8) (fun m1 =>
  lt (cp m1 4 60 0 0 8) (fun m2 =>
  lt (cp m2 5 61 0 0 8) (fun m3 =>
  lt (cp m3 6 62 0 0 8) (fun m4 =>
  lt (cp m4 7 63 0 0 8) (fun m5 =>
  lt (cp m5 8 64 0 0 8) (fun m6 =>
  lt (cp m6 9 65 0 0 64) (fun m7 =>
  lt (cp m7 10 66 0 0 64) (fun m8 =>
  some (m8)))))))))
set_option maxRecDepth 20000 in
set_option maxHeartbeats 4000000 in
theorem ct_X1_copyFrom_58_2 (hfl : g.1.stackTraces = false) (hS : pS 0 138 S) {m0 : me} {x : me} (h : f_X1_copyFrom_58_2 m0 = some x) : pm_Ct g mX1_copyFrom [.ref 58, .ref 2] (en S m0) 0 0 (qV S x) qF := by
  refine pm_of (by decide +kernel) rfl hfl (Nat.le_of_ble_eq_true rfl) (fun X hE => ?_)
  show pm_G g mX1_copyFrom X 0 [some (.ref 58), some (.ref 2)] [] (en S m0) 0 0
  unfold f_X1_copyFrom_58_2 at h
  refine pg_aload_n dX1_copyFrom_0 rfl ?_
  refine eg_get dX1_copyFrom_1 fa_X1_9 hS sp2 (Nat.le_of_ble_eq_true rfl) (Nat.le_of_ble_eq_true rfl) rfl rfl ?_
  refine pg_iconst 0 dX1_copyFrom_4 rfl ?_
  refine pg_aload_n dX1_copyFrom_5 rfl ?_
  refine eg_get dX1_copyFrom_6 fa_X1_9 hS sp58 (Nat.le_of_ble_eq_true rfl) (Nat.le_of_ble_eq_true rfl) rfl rfl ?_
  refine pg_iconst 0 dX1_copyFrom_9 rfl ?_
  refine pg_bipush 8 dX1_copyFrom_10 rfl ?_
  refine eg_copyI (n9 := 8) dX1_copyFrom_12 mw306 mw308 mw307 mw309 hS sp3 (Nat.le_of_ble_eq_true rfl) (Nat.le_of_ble_eq_true rfl) rfl sp59 (Nat.le_of_ble_eq_true rfl) (Nat.le_of_ble_eq_true rfl) (fun _ _ _ => rfl) (by decide) rfl (Nat.le_of_ble_eq_true rfl) (Nat.le_of_ble_eq_true rfl) rfl (Nat.le_of_ble_eq_true rfl) (Nat.le_of_ble_eq_true rfl) (fun m1 e_m1 => ?_)
  replace h := lt_at h e_m1
  refine pg_aload_n dX1_copyFrom_15 rfl ?_
  refine eg_get dX1_copyFrom_16 fa_X1_15 hS sp2 (Nat.le_of_ble_eq_true rfl) (Nat.le_of_ble_eq_true rfl) rfl rfl ?_
  refine pg_iconst 0 dX1_copyFrom_19 rfl ?_
  refine pg_aload_n dX1_copyFrom_20 rfl ?_
  refine eg_get dX1_copyFrom_21 fa_X1_15 hS sp58 (Nat.le_of_ble_eq_true rfl) (Nat.le_of_ble_eq_true rfl) rfl rfl ?_
  refine pg_iconst 0 dX1_copyFrom_24 rfl ?_
  refine pg_bipush 8 dX1_copyFrom_25 rfl ?_
  refine eg_copyI (n9 := 8) dX1_copyFrom_27 mw306 mw308 mw307 mw309 hS sp4 (Nat.le_of_ble_eq_true rfl) (Nat.le_of_ble_eq_true rfl) rfl sp60 (Nat.le_of_ble_eq_true rfl) (Nat.le_of_ble_eq_true rfl) (fun _ _ _ => rfl) (by decide) rfl (Nat.le_of_ble_eq_true rfl) (Nat.le_of_ble_eq_true rfl) rfl (Nat.le_of_ble_eq_true rfl) (Nat.le_of_ble_eq_true rfl) (fun m2 e_m2 => ?_)
  replace h := lt_at h e_m2
  refine pg_aload_n dX1_copyFrom_30 rfl ?_
  refine eg_get dX1_copyFrom_31 fa_X1_18 hS sp2 (Nat.le_of_ble_eq_true rfl) (Nat.le_of_ble_eq_true rfl) rfl rfl ?_
  refine pg_iconst 0 dX1_copyFrom_34 rfl ?_
  refine pg_aload_n dX1_copyFrom_35 rfl ?_
  refine eg_get dX1_copyFrom_36 fa_X1_18 hS sp58 (Nat.le_of_ble_eq_true rfl) (Nat.le_of_ble_eq_true rfl) rfl rfl ?_
  refine pg_iconst 0 dX1_copyFrom_39 rfl ?_
  refine pg_bipush 8 dX1_copyFrom_40 rfl ?_
  refine eg_copyI (n9 := 8) dX1_copyFrom_42 mw306 mw308 mw307 mw309 hS sp5 (Nat.le_of_ble_eq_true rfl) (Nat.le_of_ble_eq_true rfl) rfl sp61 (Nat.le_of_ble_eq_true rfl) (Nat.le_of_ble_eq_true rfl) (fun _ _ _ => rfl) (by decide) rfl (Nat.le_of_ble_eq_true rfl) (Nat.le_of_ble_eq_true rfl) rfl (Nat.le_of_ble_eq_true rfl) (Nat.le_of_ble_eq_true rfl) (fun m3 e_m3 => ?_)
  replace h := lt_at h e_m3
  refine pg_aload_n dX1_copyFrom_45 rfl ?_
  refine eg_get dX1_copyFrom_46 fa_X1_21 hS sp2 (Nat.le_of_ble_eq_true rfl) (Nat.le_of_ble_eq_true rfl) rfl rfl ?_
  refine pg_iconst 0 dX1_copyFrom_49 rfl ?_
  refine pg_aload_n dX1_copyFrom_50 rfl ?_
  refine eg_get dX1_copyFrom_51 fa_X1_21 hS sp58 (Nat.le_of_ble_eq_true rfl) (Nat.le_of_ble_eq_true rfl) rfl rfl ?_
  refine pg_iconst 0 dX1_copyFrom_54 rfl ?_
  refine pg_bipush 8 dX1_copyFrom_55 rfl ?_
  refine eg_copyI (n9 := 8) dX1_copyFrom_57 mw306 mw308 mw307 mw309 hS sp6 (Nat.le_of_ble_eq_true rfl) (Nat.le_of_ble_eq_true rfl) rfl sp62 (Nat.le_of_ble_eq_true rfl) (Nat.le_of_ble_eq_true rfl) (fun _ _ _ => rfl) (by decide) rfl (Nat.le_of_ble_eq_true rfl) (Nat.le_of_ble_eq_true rfl) rfl (Nat.le_of_ble_eq_true rfl) (Nat.le_of_ble_eq_true rfl) (fun m4 e_m4 => ?_)
  replace h := lt_at h e_m4
  refine pg_aload_n dX1_copyFrom_60 rfl ?_
  refine eg_get dX1_copyFrom_61 fa_X1_24 hS sp2 (Nat.le_of_ble_eq_true rfl) (Nat.le_of_ble_eq_true rfl) rfl rfl ?_
  refine pg_iconst 0 dX1_copyFrom_64 rfl ?_
  refine pg_aload_n dX1_copyFrom_65 rfl ?_
  refine eg_get dX1_copyFrom_66 fa_X1_24 hS sp58 (Nat.le_of_ble_eq_true rfl) (Nat.le_of_ble_eq_true rfl) rfl rfl ?_
  refine pg_iconst 0 dX1_copyFrom_69 rfl ?_
  refine pg_bipush 8 dX1_copyFrom_70 rfl ?_
  refine eg_copyI (n9 := 8) dX1_copyFrom_72 mw306 mw308 mw307 mw309 hS sp7 (Nat.le_of_ble_eq_true rfl) (Nat.le_of_ble_eq_true rfl) rfl sp63 (Nat.le_of_ble_eq_true rfl) (Nat.le_of_ble_eq_true rfl) (fun _ _ _ => rfl) (by decide) rfl (Nat.le_of_ble_eq_true rfl) (Nat.le_of_ble_eq_true rfl) rfl (Nat.le_of_ble_eq_true rfl) (Nat.le_of_ble_eq_true rfl) (fun m5 e_m5 => ?_)
  replace h := lt_at h e_m5
  refine pg_aload_n dX1_copyFrom_75 rfl ?_
  refine eg_get dX1_copyFrom_76 fa_X1_27 hS sp2 (Nat.le_of_ble_eq_true rfl) (Nat.le_of_ble_eq_true rfl) rfl rfl ?_
  refine pg_iconst 0 dX1_copyFrom_79 rfl ?_
  refine pg_aload_n dX1_copyFrom_80 rfl ?_
  refine eg_get dX1_copyFrom_81 fa_X1_27 hS sp58 (Nat.le_of_ble_eq_true rfl) (Nat.le_of_ble_eq_true rfl) rfl rfl ?_
  refine pg_iconst 0 dX1_copyFrom_84 rfl ?_
  refine pg_bipush 8 dX1_copyFrom_85 rfl ?_
  refine eg_copyI (n9 := 8) dX1_copyFrom_87 mw306 mw308 mw307 mw309 hS sp8 (Nat.le_of_ble_eq_true rfl) (Nat.le_of_ble_eq_true rfl) rfl sp64 (Nat.le_of_ble_eq_true rfl) (Nat.le_of_ble_eq_true rfl) (fun _ _ _ => rfl) (by decide) rfl (Nat.le_of_ble_eq_true rfl) (Nat.le_of_ble_eq_true rfl) rfl (Nat.le_of_ble_eq_true rfl) (Nat.le_of_ble_eq_true rfl) (fun m6 e_m6 => ?_)
  replace h := lt_at h e_m6
  refine pg_aload_n dX1_copyFrom_90 rfl ?_
  refine eg_get dX1_copyFrom_91 fa_X1_30 hS sp2 (Nat.le_of_ble_eq_true rfl) (Nat.le_of_ble_eq_true rfl) rfl rfl ?_
  refine pg_iconst 0 dX1_copyFrom_94 rfl ?_
  refine pg_aload_n dX1_copyFrom_95 rfl ?_
  refine eg_get dX1_copyFrom_96 fa_X1_30 hS sp58 (Nat.le_of_ble_eq_true rfl) (Nat.le_of_ble_eq_true rfl) rfl rfl ?_
  refine pg_iconst 0 dX1_copyFrom_99 rfl ?_
  refine pg_bipush 64 dX1_copyFrom_100 rfl ?_
  refine eg_copyI (n9 := 64) dX1_copyFrom_102 mw306 mw308 mw307 mw309 hS sp9 (Nat.le_of_ble_eq_true rfl) (Nat.le_of_ble_eq_true rfl) rfl sp65 (Nat.le_of_ble_eq_true rfl) (Nat.le_of_ble_eq_true rfl) (fun _ _ _ => rfl) (by decide) rfl (Nat.le_of_ble_eq_true rfl) (Nat.le_of_ble_eq_true rfl) rfl (Nat.le_of_ble_eq_true rfl) (Nat.le_of_ble_eq_true rfl) (fun m7 e_m7 => ?_)
  replace h := lt_at h e_m7
  refine pg_aload_n dX1_copyFrom_105 rfl ?_
  refine eg_get dX1_copyFrom_106 fa_X1_33 hS sp2 (Nat.le_of_ble_eq_true rfl) (Nat.le_of_ble_eq_true rfl) rfl rfl ?_
  refine pg_iconst 0 dX1_copyFrom_109 rfl ?_
  refine pg_aload_n dX1_copyFrom_110 rfl ?_
  refine eg_get dX1_copyFrom_111 fa_X1_33 hS sp58 (Nat.le_of_ble_eq_true rfl) (Nat.le_of_ble_eq_true rfl) rfl rfl ?_
  refine pg_iconst 0 dX1_copyFrom_114 rfl ?_
  refine pg_bipush 64 dX1_copyFrom_115 rfl ?_
  refine eg_copyI (n9 := 64) dX1_copyFrom_117 mw306 mw308 mw307 mw309 hS sp10 (Nat.le_of_ble_eq_true rfl) (Nat.le_of_ble_eq_true rfl) rfl sp66 (Nat.le_of_ble_eq_true rfl) (Nat.le_of_ble_eq_true rfl) (fun _ _ _ => rfl) (by decide) rfl (Nat.le_of_ble_eq_true rfl) (Nat.le_of_ble_eq_true rfl) rfl (Nat.le_of_ble_eq_true rfl) (Nat.le_of_ble_eq_true rfl) (fun m8 e_m8 => ?_)
  replace h := lt_at h e_m8
  obtain rfl := Option.some.inj h
  exact hE.2.2.1 _ _ _ _ _ dX1_copyFrom_120 rfl (Nat.zero_le _) (Nat.zero_le _) ⟨rfl, rfl⟩
def f_X3_copyFrom_67_11 (m0 : me) : Option me :=
  lt (wI m0 67 0 (m0.1 11 0)) (fun m1 =>
  lt (cp m1 12 68 0 0 16) (fun m2 =>
  lt (cp m2 13 69 0 0 16) (fun m3 =>
  lt (cp m3 14 70 0 0 16) (fun m4 =>
  lt (cp m4 15 71 0 0 16) (fun m5 =>
  gd ((List.range 16).all (fun i => isB (m5.1 16 i))) (
  lt (cp m5 16 72 0 0 16) (fun m6 =>
  lt (cp m6 17 73 0 0 16) (fun m7 =>
  lt (cp m7 18 74 0 0 16) (fun m8 =>
  lt (cp m8 19 75 0 0 16) (fun m9 =>
  lt (cp m9 20 76 0 0 32) (fun m10 =>
  lt (cp m10 21 77 0 0 32) (fun m11 =>
  lt (cp m11 22 78 0 0 32) (fun m12 =>
  some (m12))))))))))))))
set_option maxRecDepth 20000 in
set_option maxHeartbeats 4000000 in
theorem ct_X3_copyFrom_67_11 (hfl : g.1.stackTraces = false) (hS : pS 0 138 S) {m0 : me} {x : me} (h : f_X3_copyFrom_67_11 m0 = some x) : pm_Ct g mX3_copyFrom [.ref 67, .ref 11] (en S m0) 0 0 (qV S x) qF := by
  refine pm_of (by decide +kernel) rfl hfl (Nat.le_of_ble_eq_true rfl) (fun X hE => ?_)
  show pm_G g mX3_copyFrom X 0 [some (.ref 67), some (.ref 11)] [] (en S m0) 0 0
  unfold f_X3_copyFrom_67_11 at h
  refine pg_aload_n dX3_copyFrom_0 rfl ?_
  refine pg_aload_n dX3_copyFrom_1 rfl ?_
  refine eg_get dX3_copyFrom_2 fa_X3_46 hS sp11 (Nat.le_of_ble_eq_true rfl) (Nat.le_of_ble_eq_true rfl) rfl rfl ?_
  refine eg_put dX3_copyFrom_5 fa_X3_46 hS sp67 (Nat.le_of_ble_eq_true rfl) (Nat.le_of_ble_eq_true rfl) rfl (Nat.le_of_ble_eq_true rfl) rfl (fun m1 e_m1 => ?_)
  replace h := lt_at h e_m1
  refine pg_aload_n dX3_copyFrom_8 rfl ?_
  refine eg_get dX3_copyFrom_9 fa_X3_9 hS sp11 (Nat.le_of_ble_eq_true rfl) (Nat.le_of_ble_eq_true rfl) rfl rfl ?_
  refine pg_iconst 0 dX3_copyFrom_12 rfl ?_
  refine pg_aload_n dX3_copyFrom_13 rfl ?_
  refine eg_get dX3_copyFrom_14 fa_X3_9 hS sp67 (Nat.le_of_ble_eq_true rfl) (Nat.le_of_ble_eq_true rfl) rfl rfl ?_
  refine pg_iconst 0 dX3_copyFrom_17 rfl ?_
  refine pg_bipush 16 dX3_copyFrom_18 rfl ?_
  refine eg_copyI (n9 := 16) dX3_copyFrom_20 mw310 mw308 mw307 mw309 hS sp12 (Nat.le_of_ble_eq_true rfl) (Nat.le_of_ble_eq_true rfl) rfl sp68 (Nat.le_of_ble_eq_true rfl) (Nat.le_of_ble_eq_true rfl) (fun _ _ _ => rfl) (by decide) rfl (Nat.le_of_ble_eq_true rfl) (Nat.le_of_ble_eq_true rfl) rfl (Nat.le_of_ble_eq_true rfl) (Nat.le_of_ble_eq_true rfl) (fun m2 e_m2 => ?_)
  replace h := lt_at h e_m2
  refine pg_aload_n dX3_copyFrom_23 rfl ?_
  refine eg_get dX3_copyFrom_24 fa_X3_15 hS sp11 (Nat.le_of_ble_eq_true rfl) (Nat.le_of_ble_eq_true rfl) rfl rfl ?_
  refine pg_iconst 0 dX3_copyFrom_27 rfl ?_
  refine pg_aload_n dX3_copyFrom_28 rfl ?_
  refine eg_get dX3_copyFrom_29 fa_X3_15 hS sp67 (Nat.le_of_ble_eq_true rfl) (Nat.le_of_ble_eq_true rfl) rfl rfl ?_
  refine pg_iconst 0 dX3_copyFrom_32 rfl ?_
  refine pg_bipush 16 dX3_copyFrom_33 rfl ?_
  refine eg_copyI (n9 := 16) dX3_copyFrom_35 mw310 mw308 mw307 mw309 hS sp13 (Nat.le_of_ble_eq_true rfl) (Nat.le_of_ble_eq_true rfl) rfl sp69 (Nat.le_of_ble_eq_true rfl) (Nat.le_of_ble_eq_true rfl) (fun _ _ _ => rfl) (by decide) rfl (Nat.le_of_ble_eq_true rfl) (Nat.le_of_ble_eq_true rfl) rfl (Nat.le_of_ble_eq_true rfl) (Nat.le_of_ble_eq_true rfl) (fun m3 e_m3 => ?_)
  replace h := lt_at h e_m3
  refine pg_aload_n dX3_copyFrom_38 rfl ?_
  refine eg_get dX3_copyFrom_39 fa_X3_18 hS sp11 (Nat.le_of_ble_eq_true rfl) (Nat.le_of_ble_eq_true rfl) rfl rfl ?_
  refine pg_iconst 0 dX3_copyFrom_42 rfl ?_
  refine pg_aload_n dX3_copyFrom_43 rfl ?_
  refine eg_get dX3_copyFrom_44 fa_X3_18 hS sp67 (Nat.le_of_ble_eq_true rfl) (Nat.le_of_ble_eq_true rfl) rfl rfl ?_
  refine pg_iconst 0 dX3_copyFrom_47 rfl ?_
  refine pg_bipush 16 dX3_copyFrom_48 rfl ?_
  refine eg_copyI (n9 := 16) dX3_copyFrom_50 mw310 mw308 mw307 mw309 hS sp14 (Nat.le_of_ble_eq_true rfl) (Nat.le_of_ble_eq_true rfl) rfl sp70 (Nat.le_of_ble_eq_true rfl) (Nat.le_of_ble_eq_true rfl) (fun _ _ _ => rfl) (by decide) rfl (Nat.le_of_ble_eq_true rfl) (Nat.le_of_ble_eq_true rfl) rfl (Nat.le_of_ble_eq_true rfl) (Nat.le_of_ble_eq_true rfl) (fun m4 e_m4 => ?_)
  replace h := lt_at h e_m4
  refine pg_aload_n dX3_copyFrom_53 rfl ?_
  refine eg_get dX3_copyFrom_54 fa_X3_21 hS sp11 (Nat.le_of_ble_eq_true rfl) (Nat.le_of_ble_eq_true rfl) rfl rfl ?_
  refine pg_iconst 0 dX3_copyFrom_57 rfl ?_
  refine pg_aload_n dX3_copyFrom_58 rfl ?_
  refine eg_get dX3_copyFrom_59 fa_X3_21 hS sp67 (Nat.le_of_ble_eq_true rfl) (Nat.le_of_ble_eq_true rfl) rfl rfl ?_
  refine pg_iconst 0 dX3_copyFrom_62 rfl ?_
  refine pg_bipush 16 dX3_copyFrom_63 rfl ?_
  refine eg_copyI (n9 := 16) dX3_copyFrom_65 mw310 mw308 mw307 mw309 hS sp15 (Nat.le_of_ble_eq_true rfl) (Nat.le_of_ble_eq_true rfl) rfl sp71 (Nat.le_of_ble_eq_true rfl) (Nat.le_of_ble_eq_true rfl) (fun _ _ _ => rfl) (by decide) rfl (Nat.le_of_ble_eq_true rfl) (Nat.le_of_ble_eq_true rfl) rfl (Nat.le_of_ble_eq_true rfl) (Nat.le_of_ble_eq_true rfl) (fun m5 e_m5 => ?_)
  replace h := lt_at h e_m5
  refine pg_aload_n dX3_copyFrom_68 rfl ?_
  refine eg_get dX3_copyFrom_69 fa_X3_24 hS sp11 (Nat.le_of_ble_eq_true rfl) (Nat.le_of_ble_eq_true rfl) rfl rfl ?_
  refine pg_iconst 0 dX3_copyFrom_72 rfl ?_
  refine pg_aload_n dX3_copyFrom_73 rfl ?_
  refine eg_get dX3_copyFrom_74 fa_X3_24 hS sp67 (Nat.le_of_ble_eq_true rfl) (Nat.le_of_ble_eq_true rfl) rfl rfl ?_
  refine pg_iconst 0 dX3_copyFrom_77 rfl ?_
  refine pg_bipush 16 dX3_copyFrom_78 rfl ?_
  obtain ⟨g2, h⟩ := gd_at h
  refine eg_copyZ (n9 := 16) dX3_copyFrom_80 mw310 mw308 mw307 mw309 hS sp16 (Nat.le_of_ble_eq_true rfl) (Nat.le_of_ble_eq_true rfl) rfl sp72 (Nat.le_of_ble_eq_true rfl) (Nat.le_of_ble_eq_true rfl) (fun _ _ _ => rfl) (by decide) rfl (Nat.le_of_ble_eq_true rfl) (Nat.le_of_ble_eq_true rfl) g2 rfl (Nat.le_of_ble_eq_true rfl) (Nat.le_of_ble_eq_true rfl) (fun m6 e_m6 => ?_)
  replace h := lt_at h e_m6
  refine pg_aload_n dX3_copyFrom_83 rfl ?_
  refine eg_get dX3_copyFrom_84 fa_X3_28 hS sp11 (Nat.le_of_ble_eq_true rfl) (Nat.le_of_ble_eq_true rfl) rfl rfl ?_
  refine pg_iconst 0 dX3_copyFrom_87 rfl ?_
  refine pg_aload_n dX3_copyFrom_88 rfl ?_
  refine eg_get dX3_copyFrom_89 fa_X3_28 hS sp67 (Nat.le_of_ble_eq_true rfl) (Nat.le_of_ble_eq_true rfl) rfl rfl ?_
  refine pg_iconst 0 dX3_copyFrom_92 rfl ?_
  refine pg_bipush 16 dX3_copyFrom_93 rfl ?_
  refine eg_copyI (n9 := 16) dX3_copyFrom_95 mw310 mw308 mw307 mw309 hS sp17 (Nat.le_of_ble_eq_true rfl) (Nat.le_of_ble_eq_true rfl) rfl sp73 (Nat.le_of_ble_eq_true rfl) (Nat.le_of_ble_eq_true rfl) (fun _ _ _ => rfl) (by decide) rfl (Nat.le_of_ble_eq_true rfl) (Nat.le_of_ble_eq_true rfl) rfl (Nat.le_of_ble_eq_true rfl) (Nat.le_of_ble_eq_true rfl) (fun m7 e_m7 => ?_)
  replace h := lt_at h e_m7
  refine pg_aload_n dX3_copyFrom_98 rfl ?_
  refine eg_get dX3_copyFrom_99 fa_X3_31 hS sp11 (Nat.le_of_ble_eq_true rfl) (Nat.le_of_ble_eq_true rfl) rfl rfl ?_
  refine pg_iconst 0 dX3_copyFrom_102 rfl ?_
  refine pg_aload_n dX3_copyFrom_103 rfl ?_
  refine eg_get dX3_copyFrom_104 fa_X3_31 hS sp67 (Nat.le_of_ble_eq_true rfl) (Nat.le_of_ble_eq_true rfl) rfl rfl ?_
  refine pg_iconst 0 dX3_copyFrom_107 rfl ?_
  refine pg_bipush 16 dX3_copyFrom_108 rfl ?_
  refine eg_copyI (n9 := 16) dX3_copyFrom_110 mw310 mw308 mw307 mw309 hS sp18 (Nat.le_of_ble_eq_true rfl) (Nat.le_of_ble_eq_true rfl) rfl sp74 (Nat.le_of_ble_eq_true rfl) (Nat.le_of_ble_eq_true rfl) (fun _ _ _ => rfl) (by decide) rfl (Nat.le_of_ble_eq_true rfl) (Nat.le_of_ble_eq_true rfl) rfl (Nat.le_of_ble_eq_true rfl) (Nat.le_of_ble_eq_true rfl) (fun m8 e_m8 => ?_)
  replace h := lt_at h e_m8
  refine pg_aload_n dX3_copyFrom_113 rfl ?_
  refine eg_get dX3_copyFrom_114 fa_X3_34 hS sp11 (Nat.le_of_ble_eq_true rfl) (Nat.le_of_ble_eq_true rfl) rfl rfl ?_
  refine pg_iconst 0 dX3_copyFrom_117 rfl ?_
  refine pg_aload_n dX3_copyFrom_118 rfl ?_
  refine eg_get dX3_copyFrom_119 fa_X3_34 hS sp67 (Nat.le_of_ble_eq_true rfl) (Nat.le_of_ble_eq_true rfl) rfl rfl ?_
  refine pg_iconst 0 dX3_copyFrom_122 rfl ?_
  refine pg_bipush 16 dX3_copyFrom_123 rfl ?_
  refine eg_copyI (n9 := 16) dX3_copyFrom_125 mw310 mw308 mw307 mw309 hS sp19 (Nat.le_of_ble_eq_true rfl) (Nat.le_of_ble_eq_true rfl) rfl sp75 (Nat.le_of_ble_eq_true rfl) (Nat.le_of_ble_eq_true rfl) (fun _ _ _ => rfl) (by decide) rfl (Nat.le_of_ble_eq_true rfl) (Nat.le_of_ble_eq_true rfl) rfl (Nat.le_of_ble_eq_true rfl) (Nat.le_of_ble_eq_true rfl) (fun m9 e_m9 => ?_)
  replace h := lt_at h e_m9
  refine pg_aload_n dX3_copyFrom_128 rfl ?_
  refine eg_get dX3_copyFrom_129 fa_X3_37 hS sp11 (Nat.le_of_ble_eq_true rfl) (Nat.le_of_ble_eq_true rfl) rfl rfl ?_
  refine pg_iconst 0 dX3_copyFrom_132 rfl ?_
  refine pg_aload_n dX3_copyFrom_133 rfl ?_
  refine eg_get dX3_copyFrom_134 fa_X3_37 hS sp67 (Nat.le_of_ble_eq_true rfl) (Nat.le_of_ble_eq_true rfl) rfl rfl ?_
  refine pg_iconst 0 dX3_copyFrom_137 rfl ?_
  refine pg_bipush 32 dX3_copyFrom_138 rfl ?_
  refine eg_copyI (n9 := 32) dX3_copyFrom_140 mw310 mw308 mw307 mw309 hS sp20 (Nat.le_of_ble_eq_true rfl) (Nat.le_of_ble_eq_true rfl) rfl sp76 (Nat.le_of_ble_eq_true rfl) (Nat.le_of_ble_eq_true rfl) (fun _ _ _ => rfl) (by decide) rfl (Nat.le_of_ble_eq_true rfl) (Nat.le_of_ble_eq_true rfl) rfl (Nat.le_of_ble_eq_true rfl) (Nat.le_of_ble_eq_true rfl) (fun m10 e_m10 => ?_)
  replace h := lt_at h e_m10
  refine pg_aload_n dX3_copyFrom_143 rfl ?_
  refine eg_get dX3_copyFrom_144 fa_X3_40 hS sp11 (Nat.le_of_ble_eq_true rfl) (Nat.le_of_ble_eq_true rfl) rfl rfl ?_
  refine pg_iconst 0 dX3_copyFrom_147 rfl ?_
  refine pg_aload_n dX3_copyFrom_148 rfl ?_
  refine eg_get dX3_copyFrom_149 fa_X3_40 hS sp67 (Nat.le_of_ble_eq_true rfl) (Nat.le_of_ble_eq_true rfl) rfl rfl ?_
  refine pg_iconst 0 dX3_copyFrom_152 rfl ?_
  refine pg_bipush 32 dX3_copyFrom_153 rfl ?_
  refine eg_copyI (n9 := 32) dX3_copyFrom_155 mw310 mw308 mw307 mw309 hS sp21 (Nat.le_of_ble_eq_true rfl) (Nat.le_of_ble_eq_true rfl) rfl sp77 (Nat.le_of_ble_eq_true rfl) (Nat.le_of_ble_eq_true rfl) (fun _ _ _ => rfl) (by decide) rfl (Nat.le_of_ble_eq_true rfl) (Nat.le_of_ble_eq_true rfl) rfl (Nat.le_of_ble_eq_true rfl) (Nat.le_of_ble_eq_true rfl) (fun m11 e_m11 => ?_)
  replace h := lt_at h e_m11
  refine pg_aload_n dX3_copyFrom_158 rfl ?_
  refine eg_get dX3_copyFrom_159 fa_X3_43 hS sp11 (Nat.le_of_ble_eq_true rfl) (Nat.le_of_ble_eq_true rfl) rfl rfl ?_
  refine pg_iconst 0 dX3_copyFrom_162 rfl ?_
  refine pg_aload_n dX3_copyFrom_163 rfl ?_
  refine eg_get dX3_copyFrom_164 fa_X3_43 hS sp67 (Nat.le_of_ble_eq_true rfl) (Nat.le_of_ble_eq_true rfl) rfl rfl ?_
  refine pg_iconst 0 dX3_copyFrom_167 rfl ?_
  refine pg_bipush 32 dX3_copyFrom_168 rfl ?_
  refine eg_copyI (n9 := 32) dX3_copyFrom_170 mw310 mw308 mw307 mw309 hS sp22 (Nat.le_of_ble_eq_true rfl) (Nat.le_of_ble_eq_true rfl) rfl sp78 (Nat.le_of_ble_eq_true rfl) (Nat.le_of_ble_eq_true rfl) (fun _ _ _ => rfl) (by decide) rfl (Nat.le_of_ble_eq_true rfl) (Nat.le_of_ble_eq_true rfl) rfl (Nat.le_of_ble_eq_true rfl) (Nat.le_of_ble_eq_true rfl) (fun m12 e_m12 => ?_)
  replace h := lt_at h e_m12
  obtain rfl := Option.some.inj h
  exact hE.2.2.1 _ _ _ _ _ dX3_copyFrom_173 rfl (Nat.zero_le _) (Nat.zero_le _) ⟨rfl, rfl⟩
def f_X8_copyFrom_79_23 (m0 : me) : Option me :=
  lt (cp m0 24 80 0 0 4) (fun m1 =>
  lt (cp m1 25 81 0 0 4) (fun m2 =>
  lt (cp m2 26 82 0 0 4) (fun m3 =>
  lt (cp m3 27 83 0 0 64) (fun m4 =>
  some (m4)))))
set_option maxRecDepth 20000 in
set_option maxHeartbeats 4000000 in
theorem ct_X8_copyFrom_79_23 (hfl : g.1.stackTraces = false) (hS : pS 0 138 S) {m0 : me} {x : me} (h : f_X8_copyFrom_79_23 m0 = some x) : pm_Ct g mX8_copyFrom [.ref 79, .ref 23] (en S m0) 0 0 (qV S x) qF := by
  refine pm_of (by decide +kernel) rfl hfl (Nat.le_of_ble_eq_true rfl) (fun X hE => ?_)
  show pm_G g mX8_copyFrom X 0 [some (.ref 79), some (.ref 23)] [] (en S m0) 0 0
  unfold f_X8_copyFrom_79_23 at h
  refine pg_aload_n dX8_copyFrom_0 rfl ?_
  refine eg_get dX8_copyFrom_1 fa_X8_9 hS sp23 (Nat.le_of_ble_eq_true rfl) (Nat.le_of_ble_eq_true rfl) rfl rfl ?_
  refine pg_iconst 0 dX8_copyFrom_4 rfl ?_
  refine pg_aload_n dX8_copyFrom_5 rfl ?_
  refine eg_get dX8_copyFrom_6 fa_X8_9 hS sp79 (Nat.le_of_ble_eq_true rfl) (Nat.le_of_ble_eq_true rfl) rfl rfl ?_
  refine pg_iconst 0 dX8_copyFrom_9 rfl ?_
  refine pg_iconst 4 dX8_copyFrom_10 rfl ?_
  refine eg_copyI (n9 := 4) dX8_copyFrom_11 mw311 mw308 mw307 mw309 hS sp24 (Nat.le_of_ble_eq_true rfl) (Nat.le_of_ble_eq_true rfl) rfl sp80 (Nat.le_of_ble_eq_true rfl) (Nat.le_of_ble_eq_true rfl) (fun _ _ _ => rfl) (by decide) rfl (Nat.le_of_ble_eq_true rfl) (Nat.le_of_ble_eq_true rfl) rfl (Nat.le_of_ble_eq_true rfl) (Nat.le_of_ble_eq_true rfl) (fun m1 e_m1 => ?_)
  replace h := lt_at h e_m1
  refine pg_aload_n dX8_copyFrom_14 rfl ?_
  refine eg_get dX8_copyFrom_15 fa_X8_15 hS sp23 (Nat.le_of_ble_eq_true rfl) (Nat.le_of_ble_eq_true rfl) rfl rfl ?_
  refine pg_iconst 0 dX8_copyFrom_18 rfl ?_
  refine pg_aload_n dX8_copyFrom_19 rfl ?_
  refine eg_get dX8_copyFrom_20 fa_X8_15 hS sp79 (Nat.le_of_ble_eq_true rfl) (Nat.le_of_ble_eq_true rfl) rfl rfl ?_
  refine pg_iconst 0 dX8_copyFrom_23 rfl ?_
  refine pg_iconst 4 dX8_copyFrom_24 rfl ?_
  refine eg_copyI (n9 := 4) dX8_copyFrom_25 mw311 mw308 mw307 mw309 hS sp25 (Nat.le_of_ble_eq_true rfl) (Nat.le_of_ble_eq_true rfl) rfl sp81 (Nat.le_of_ble_eq_true rfl) (Nat.le_of_ble_eq_true rfl) (fun _ _ _ => rfl) (by decide) rfl (Nat.le_of_ble_eq_true rfl) (Nat.le_of_ble_eq_true rfl) rfl (Nat.le_of_ble_eq_true rfl) (Nat.le_of_ble_eq_true rfl) (fun m2 e_m2 => ?_)
  replace h := lt_at h e_m2
  refine pg_aload_n dX8_copyFrom_28 rfl ?_
  refine eg_get dX8_copyFrom_29 fa_X8_18 hS sp23 (Nat.le_of_ble_eq_true rfl) (Nat.le_of_ble_eq_true rfl) rfl rfl ?_
  refine pg_iconst 0 dX8_copyFrom_32 rfl ?_
  refine pg_aload_n dX8_copyFrom_33 rfl ?_
  refine eg_get dX8_copyFrom_34 fa_X8_18 hS sp79 (Nat.le_of_ble_eq_true rfl) (Nat.le_of_ble_eq_true rfl) rfl rfl ?_
  refine pg_iconst 0 dX8_copyFrom_37 rfl ?_
  refine pg_iconst 4 dX8_copyFrom_38 rfl ?_
  refine eg_copyI (n9 := 4) dX8_copyFrom_39 mw311 mw308 mw307 mw309 hS sp26 (Nat.le_of_ble_eq_true rfl) (Nat.le_of_ble_eq_true rfl) rfl sp82 (Nat.le_of_ble_eq_true rfl) (Nat.le_of_ble_eq_true rfl) (fun _ _ _ => rfl) (by decide) rfl (Nat.le_of_ble_eq_true rfl) (Nat.le_of_ble_eq_true rfl) rfl (Nat.le_of_ble_eq_true rfl) (Nat.le_of_ble_eq_true rfl) (fun m3 e_m3 => ?_)
  replace h := lt_at h e_m3
  refine pg_aload_n dX8_copyFrom_42 rfl ?_
  refine eg_get dX8_copyFrom_43 fa_X8_21 hS sp23 (Nat.le_of_ble_eq_true rfl) (Nat.le_of_ble_eq_true rfl) rfl rfl ?_
  refine pg_iconst 0 dX8_copyFrom_46 rfl ?_
  refine pg_aload_n dX8_copyFrom_47 rfl ?_
  refine eg_get dX8_copyFrom_48 fa_X8_21 hS sp79 (Nat.le_of_ble_eq_true rfl) (Nat.le_of_ble_eq_true rfl) rfl rfl ?_
  refine pg_iconst 0 dX8_copyFrom_51 rfl ?_
  refine pg_bipush 64 dX8_copyFrom_52 rfl ?_
  refine eg_copyI (n9 := 64) dX8_copyFrom_54 mw311 mw308 mw307 mw309 hS sp27 (Nat.le_of_ble_eq_true rfl) (Nat.le_of_ble_eq_true rfl) rfl sp83 (Nat.le_of_ble_eq_true rfl) (Nat.le_of_ble_eq_true rfl) (fun _ _ _ => rfl) (by decide) rfl (Nat.le_of_ble_eq_true rfl) (Nat.le_of_ble_eq_true rfl) rfl (Nat.le_of_ble_eq_true rfl) (Nat.le_of_ble_eq_true rfl) (fun m4 e_m4 => ?_)
  replace h := lt_at h e_m4
  obtain rfl := Option.some.inj h
  exact hE.2.2.1 _ _ _ _ _ dX8_copyFrom_57 rfl (Nat.zero_le _) (Nat.zero_le _) ⟨rfl, rfl⟩
def f_X4_copyFrom_57_1 (m0 : me) : Option me :=
  lt (wI m0 57 0 (m0.1 1 0)) (fun m1 =>
  lt (wI m1 57 1 (m1.1 1 1)) (fun m2 =>
  lt (wI m2 57 2 (m2.1 1 2)) (fun m3 =>
  lt (wI m3 57 3 (m3.1 1 3)) (fun m4 =>
  lt (wI m4 57 4 (m4.1 1 4)) (fun m5 =>
  lt (wI m5 57 5 (m5.1 1 5)) (fun m6 =>
  lt (wI m6 57 6 (m6.1 1 6)) (fun m7 =>
  lt (wI m7 57 7 (m7.1 1 7)) (fun m8 =>
  lt (wI m8 57 8 (m8.1 1 8)) (fun m9 =>
  lt (wI m9 57 9 (m9.1 1 9)) (fun m10 =>
  bd (f_X1_copyFrom_58_2 m10) (fun r11 =>
  bd (f_X3_copyFrom_67_11 r11) (fun r12 =>
  bd (f_X8_copyFrom_79_23 r12) (fun r13 =>
  some (r13))))))))))))))
set_option maxRecDepth 20000 in
set_option maxHeartbeats 4000000 in
theorem ct_X4_copyFrom_57_1 (hfl : g.1.stackTraces = false) (hS : pS 0 138 S) {m0 : me} {x : me} (h : f_X4_copyFrom_57_1 m0 = some x) : pm_Ct g mX4_copyFrom [.ref 57, .ref 1] (en S m0) 0 0 (qV S x) qF := by
  refine pm_of (by decide +kernel) rfl hfl (Nat.le_of_ble_eq_true rfl) (fun X hE => ?_)
  show pm_G g mX4_copyFrom X 0 [some (.ref 57), some (.ref 1)] [] (en S m0) 0 0
  unfold f_X4_copyFrom_57_1 at h
  refine pg_aload_n dX4_copyFrom_0 rfl ?_
  refine pg_aload_n dX4_copyFrom_1 rfl ?_
  refine eg_get dX4_copyFrom_2 fa_X4_42 hS sp1 (Nat.le_of_ble_eq_true rfl) (Nat.le_of_ble_eq_true rfl) rfl rfl ?_
  refine eg_put dX4_copyFrom_5 fa_X4_42 hS sp57 (Nat.le_of_ble_eq_true rfl) (Nat.le_of_ble_eq_true rfl) rfl (Nat.le_of_ble_eq_true rfl) rfl (fun m1 e_m1 => ?_)
  replace h := lt_at h e_m1
  refine pg_aload_n dX4_copyFrom_8 rfl ?_
  refine pg_aload_n dX4_copyFrom_9 rfl ?_
  refine eg_get dX4_copyFrom_10 fa_X4_45 hS sp1 (Nat.le_of_ble_eq_true rfl) (Nat.le_of_ble_eq_true rfl) rfl rfl ?_
  refine eg_put dX4_copyFrom_13 fa_X4_45 hS sp57 (Nat.le_of_ble_eq_true rfl) (Nat.le_of_ble_eq_true rfl) rfl (Nat.le_of_ble_eq_true rfl) rfl (fun m2 e_m2 => ?_)
  replace h := lt_at h e_m2
  refine pg_aload_n dX4_copyFrom_16 rfl ?_
  refine pg_aload_n dX4_copyFrom_17 rfl ?_
  refine eg_get dX4_copyFrom_18 fa_X4_9 hS sp1 (Nat.le_of_ble_eq_true rfl) (Nat.le_of_ble_eq_true rfl) rfl rfl ?_
  refine eg_put dX4_copyFrom_21 fa_X4_9 hS sp57 (Nat.le_of_ble_eq_true rfl) (Nat.le_of_ble_eq_true rfl) rfl (Nat.le_of_ble_eq_true rfl) rfl (fun m3 e_m3 => ?_)
  replace h := lt_at h e_m3
  refine pg_aload_n dX4_copyFrom_24 rfl ?_
  refine pg_aload_n dX4_copyFrom_25 rfl ?_
  refine eg_get dX4_copyFrom_26 fa_X4_15 hS sp1 (Nat.le_of_ble_eq_true rfl) (Nat.le_of_ble_eq_true rfl) rfl rfl ?_
  refine eg_put dX4_copyFrom_29 fa_X4_15 hS sp57 (Nat.le_of_ble_eq_true rfl) (Nat.le_of_ble_eq_true rfl) rfl (Nat.le_of_ble_eq_true rfl) rfl (fun m4 e_m4 => ?_)
  replace h := lt_at h e_m4
  refine pg_aload_n dX4_copyFrom_32 rfl ?_
  refine pg_aload_n dX4_copyFrom_33 rfl ?_
  refine eg_get dX4_copyFrom_34 fa_X4_18 hS sp1 (Nat.le_of_ble_eq_true rfl) (Nat.le_of_ble_eq_true rfl) rfl rfl ?_
  refine eg_put dX4_copyFrom_37 fa_X4_18 hS sp57 (Nat.le_of_ble_eq_true rfl) (Nat.le_of_ble_eq_true rfl) rfl (Nat.le_of_ble_eq_true rfl) rfl (fun m5 e_m5 => ?_)
  replace h := lt_at h e_m5
  refine pg_aload_n dX4_copyFrom_40 rfl ?_
  refine pg_aload_n dX4_copyFrom_41 rfl ?_
  refine eg_get dX4_copyFrom_42 fa_X4_48 hS sp1 (Nat.le_of_ble_eq_true rfl) (Nat.le_of_ble_eq_true rfl) rfl rfl ?_
  refine eg_put dX4_copyFrom_45 fa_X4_48 hS sp57 (Nat.le_of_ble_eq_true rfl) (Nat.le_of_ble_eq_true rfl) rfl (Nat.le_of_ble_eq_true rfl) rfl (fun m6 e_m6 => ?_)
  replace h := lt_at h e_m6
  refine pg_aload_n dX4_copyFrom_48 rfl ?_
  refine pg_aload_n dX4_copyFrom_49 rfl ?_
  refine eg_get dX4_copyFrom_50 fa_X4_51 hS sp1 (Nat.le_of_ble_eq_true rfl) (Nat.le_of_ble_eq_true rfl) rfl rfl ?_
  refine eg_put dX4_copyFrom_53 fa_X4_51 hS sp57 (Nat.le_of_ble_eq_true rfl) (Nat.le_of_ble_eq_true rfl) rfl (Nat.le_of_ble_eq_true rfl) rfl (fun m7 e_m7 => ?_)
  replace h := lt_at h e_m7
  refine pg_aload_n dX4_copyFrom_56 rfl ?_
  refine pg_aload_n dX4_copyFrom_57 rfl ?_
  refine eg_get dX4_copyFrom_58 fa_X4_54 hS sp1 (Nat.le_of_ble_eq_true rfl) (Nat.le_of_ble_eq_true rfl) rfl rfl ?_
  refine eg_put dX4_copyFrom_61 fa_X4_54 hS sp57 (Nat.le_of_ble_eq_true rfl) (Nat.le_of_ble_eq_true rfl) rfl (Nat.le_of_ble_eq_true rfl) rfl (fun m8 e_m8 => ?_)
  replace h := lt_at h e_m8
  refine pg_aload_n dX4_copyFrom_64 rfl ?_
  refine pg_aload_n dX4_copyFrom_65 rfl ?_
  refine eg_get dX4_copyFrom_66 fa_X4_57 hS sp1 (Nat.le_of_ble_eq_true rfl) (Nat.le_of_ble_eq_true rfl) rfl rfl ?_
  refine eg_put dX4_copyFrom_69 fa_X4_57 hS sp57 (Nat.le_of_ble_eq_true rfl) (Nat.le_of_ble_eq_true rfl) rfl (Nat.le_of_ble_eq_true rfl) rfl (fun m9 e_m9 => ?_)
  replace h := lt_at h e_m9
  refine pg_aload_n dX4_copyFrom_72 rfl ?_
  refine pg_aload_n dX4_copyFrom_73 rfl ?_
  refine eg_get dX4_copyFrom_74 fa_X4_60 hS sp1 (Nat.le_of_ble_eq_true rfl) (Nat.le_of_ble_eq_true rfl) rfl rfl ?_
  refine eg_put dX4_copyFrom_77 fa_X4_60 hS sp57 (Nat.le_of_ble_eq_true rfl) (Nat.le_of_ble_eq_true rfl) rfl (Nat.le_of_ble_eq_true rfl) rfl (fun m10 e_m10 => ?_)
  replace h := lt_at h e_m10
  refine pg_aload_n dX4_copyFrom_80 rfl ?_
  refine eg_get dX4_copyFrom_81 fa_X4_24 hS sp57 (Nat.le_of_ble_eq_true rfl) (Nat.le_of_ble_eq_true rfl) rfl rfl ?_
  refine pg_aload_n dX4_copyFrom_84 rfl ?_
  refine eg_get dX4_copyFrom_85 fa_X4_24 hS sp1 (Nat.le_of_ble_eq_true rfl) (Nat.le_of_ble_eq_true rfl) rfl rfl ?_
  obtain ⟨r11, h_r11, h⟩ := bd_at h
  refine eg_cVv (C := mX1_copyFrom) (as := [(.ref 2)]) dX4_copyFrom_88 mw291 cv_X1_copyFrom hS sp58 (Nat.le_of_ble_eq_true rfl) (Nat.le_of_ble_eq_true rfl) rfl rfl rfl (Nat.le_of_ble_eq_true rfl) rfl ⟨(Nat.le_of_ble_eq_true rfl), (Nat.le_of_ble_eq_true rfl)⟩ (ct_X1_copyFrom_58_2 hfl (hS.sub (Nat.le_of_ble_eq_true rfl) (Nat.le_of_ble_eq_true rfl)) h_r11) ?_
  refine pg_aload_n dX4_copyFrom_91 rfl ?_
  refine eg_get dX4_copyFrom_92 fa_X4_31 hS sp57 (Nat.le_of_ble_eq_true rfl) (Nat.le_of_ble_eq_true rfl) rfl rfl ?_
  refine pg_aload_n dX4_copyFrom_95 rfl ?_
  refine eg_get dX4_copyFrom_96 fa_X4_31 hS sp1 (Nat.le_of_ble_eq_true rfl) (Nat.le_of_ble_eq_true rfl) rfl rfl ?_
  obtain ⟨r12, h_r12, h⟩ := bd_at h
  refine eg_cVv (C := mX3_copyFrom) (as := [(.ref 11)]) dX4_copyFrom_99 mw296 cv_X3_copyFrom hS sp67 (Nat.le_of_ble_eq_true rfl) (Nat.le_of_ble_eq_true rfl) rfl rfl rfl (Nat.le_of_ble_eq_true rfl) rfl ⟨(Nat.le_of_ble_eq_true rfl), (Nat.le_of_ble_eq_true rfl)⟩ (ct_X3_copyFrom_67_11 hfl (hS.sub (Nat.le_of_ble_eq_true rfl) (Nat.le_of_ble_eq_true rfl)) h_r12) ?_
  refine pg_aload_n dX4_copyFrom_102 rfl ?_
  refine eg_get dX4_copyFrom_103 fa_X4_38 hS sp57 (Nat.le_of_ble_eq_true rfl) (Nat.le_of_ble_eq_true rfl) rfl rfl ?_
  refine pg_aload_n dX4_copyFrom_106 rfl ?_
  refine eg_get dX4_copyFrom_107 fa_X4_38 hS sp1 (Nat.le_of_ble_eq_true rfl) (Nat.le_of_ble_eq_true rfl) rfl rfl ?_
  obtain ⟨r13, h_r13, h⟩ := bd_at h
  refine eg_cVv (C := mX8_copyFrom) (as := [(.ref 23)]) dX4_copyFrom_110 mw301 cv_X8_copyFrom hS sp79 (Nat.le_of_ble_eq_true rfl) (Nat.le_of_ble_eq_true rfl) rfl rfl rfl (Nat.le_of_ble_eq_true rfl) rfl ⟨(Nat.le_of_ble_eq_true rfl), (Nat.le_of_ble_eq_true rfl)⟩ (ct_X8_copyFrom_79_23 hfl (hS.sub (Nat.le_of_ble_eq_true rfl) (Nat.le_of_ble_eq_true rfl)) h_r13) ?_
  obtain rfl := Option.some.inj h
  exact hE.2.2.1 _ _ _ _ _ dX4_copyFrom_113 rfl (Nat.zero_le _) (Nat.zero_le _) ⟨rfl, rfl⟩
def f_X1_copyFrom_85_2 (m0 : me) : Option me :=
  lt (cp m0 3 86 0 0 8) (fun m1 =>
  lt (cp m1 4 87 0 0 8) (fun m2 =>
  lt (cp m2 5 88 0 0 8) (fun m3 =>
  lt (cp m3 6 89 0 0 8) (fun m4 =>
  lt (cp m4 7 90 0 0 8) (fun m5 =>
  lt (cp m5 8 91 0 0 8) (fun m6 =>
  lt (cp m6 9 92 0 0 64) (fun m7 =>
  lt (cp m7 10 93 0 0 64) (fun m8 =>
  some (m8)))))))))
set_option maxRecDepth 20000 in
set_option maxHeartbeats 4000000 in
theorem ct_X1_copyFrom_85_2 (hfl : g.1.stackTraces = false) (hS : pS 0 138 S) {m0 : me} {x : me} (h : f_X1_copyFrom_85_2 m0 = some x) : pm_Ct g mX1_copyFrom [.ref 85, .ref 2] (en S m0) 0 0 (qV S x) qF := by
  refine pm_of (by decide +kernel) rfl hfl (Nat.le_of_ble_eq_true rfl) (fun X hE => ?_)
  show pm_G g mX1_copyFrom X 0 [some (.ref 85), some (.ref 2)] [] (en S m0) 0 0
  unfold f_X1_copyFrom_85_2 at h
  refine pg_aload_n dX1_copyFrom_0 rfl ?_
  refine eg_get dX1_copyFrom_1 fa_X1_9 hS sp2 (Nat.le_of_ble_eq_true rfl) (Nat.le_of_ble_eq_true rfl) rfl rfl ?_
  refine pg_iconst 0 dX1_copyFrom_4 rfl ?_
  refine pg_aload_n dX1_copyFrom_5 rfl ?_
  refine eg_get dX1_copyFrom_6 fa_X1_9 hS sp85 (Nat.le_of_ble_eq_true rfl) (Nat.le_of_ble_eq_true rfl) rfl rfl ?_
  refine pg_iconst 0 dX1_copyFrom_9 rfl ?_
  refine pg_bipush 8 dX1_copyFrom_10 rfl ?_
  refine eg_copyI (n9 := 8) dX1_copyFrom_12 mw306 mw308 mw307 mw309 hS sp3 (Nat.le_of_ble_eq_true rfl) (Nat.le_of_ble_eq_true rfl) rfl sp86 (Nat.le_of_ble_eq_true rfl) (Nat.le_of_ble_eq_true rfl) (fun _ _ _ => rfl) (by decide) rfl (Nat.le_of_ble_eq_true rfl) (Nat.le_of_ble_eq_true rfl) rfl (Nat.le_of_ble_eq_true rfl) (Nat.le_of_ble_eq_true rfl) (fun m1 e_m1 => ?_)
  replace h := lt_at h e_m1
  refine pg_aload_n dX1_copyFrom_15 rfl ?_
  refine eg_get dX1_copyFrom_16 fa_X1_15 hS sp2 (Nat.le_of_ble_eq_true rfl) (Nat.le_of_ble_eq_true rfl) rfl rfl ?_
  refine pg_iconst 0 dX1_copyFrom_19 rfl ?_
  refine pg_aload_n dX1_copyFrom_20 rfl ?_
  refine eg_get dX1_copyFrom_21 fa_X1_15 hS sp85 (Nat.le_of_ble_eq_true rfl) (Nat.le_of_ble_eq_true rfl) rfl rfl ?_
  refine pg_iconst 0 dX1_copyFrom_24 rfl ?_
  refine pg_bipush 8 dX1_copyFrom_25 rfl ?_
  refine eg_copyI (n9 := 8) dX1_copyFrom_27 mw306 mw308 mw307 mw309 hS sp4 (Nat.le_of_ble_eq_true rfl) (Nat.le_of_ble_eq_true rfl) rfl sp87 (Nat.le_of_ble_eq_true rfl) (Nat.le_of_ble_eq_true rfl) (fun _ _ _ => rfl) (by decide) rfl (Nat.le_of_ble_eq_true rfl) (Nat.le_of_ble_eq_true rfl) rfl (Nat.le_of_ble_eq_true rfl) (Nat.le_of_ble_eq_true rfl) (fun m2 e_m2 => ?_)
  replace h := lt_at h e_m2
  refine pg_aload_n dX1_copyFrom_30 rfl ?_
  refine eg_get dX1_copyFrom_31 fa_X1_18 hS sp2 (Nat.le_of_ble_eq_true rfl) (Nat.le_of_ble_eq_true rfl) rfl rfl ?_
  refine pg_iconst 0 dX1_copyFrom_34 rfl ?_
  refine pg_aload_n dX1_copyFrom_35 rfl ?_
  refine eg_get dX1_copyFrom_36 fa_X1_18 hS sp85 (Nat.le_of_ble_eq_true rfl) (Nat.le_of_ble_eq_true rfl) rfl rfl ?_
  refine pg_iconst 0 dX1_copyFrom_39 rfl ?_
  refine pg_bipush 8 dX1_copyFrom_40 rfl ?_
  refine eg_copyI (n9 := 8) dX1_copyFrom_42 mw306 mw308 mw307 mw309 hS sp5 (Nat.le_of_ble_eq_true rfl) (Nat.le_of_ble_eq_true rfl) rfl sp88 (Nat.le_of_ble_eq_true rfl) (Nat.le_of_ble_eq_true rfl) (fun _ _ _ => rfl) (by decide) rfl (Nat.le_of_ble_eq_true rfl) (Nat.le_of_ble_eq_true rfl) rfl (Nat.le_of_ble_eq_true rfl) (Nat.le_of_ble_eq_true rfl) (fun m3 e_m3 => ?_)
  replace h := lt_at h e_m3
  refine pg_aload_n dX1_copyFrom_45 rfl ?_
  refine eg_get dX1_copyFrom_46 fa_X1_21 hS sp2 (Nat.le_of_ble_eq_true rfl) (Nat.le_of_ble_eq_true rfl) rfl rfl ?_
  refine pg_iconst 0 dX1_copyFrom_49 rfl ?_
  refine pg_aload_n dX1_copyFrom_50 rfl ?_
  refine eg_get dX1_copyFrom_51 fa_X1_21 hS sp85 (Nat.le_of_ble_eq_true rfl) (Nat.le_of_ble_eq_true rfl) rfl rfl ?_
  refine pg_iconst 0 dX1_copyFrom_54 rfl ?_
  refine pg_bipush 8 dX1_copyFrom_55 rfl ?_
  refine eg_copyI (n9 := 8) dX1_copyFrom_57 mw306 mw308 mw307 mw309 hS sp6 (Nat.le_of_ble_eq_true rfl) (Nat.le_of_ble_eq_true rfl) rfl sp89 (Nat.le_of_ble_eq_true rfl) (Nat.le_of_ble_eq_true rfl) (fun _ _ _ => rfl) (by decide) rfl (Nat.le_of_ble_eq_true rfl) (Nat.le_of_ble_eq_true rfl) rfl (Nat.le_of_ble_eq_true rfl) (Nat.le_of_ble_eq_true rfl) (fun m4 e_m4 => ?_)
  replace h := lt_at h e_m4
  refine pg_aload_n dX1_copyFrom_60 rfl ?_
  refine eg_get dX1_copyFrom_61 fa_X1_24 hS sp2 (Nat.le_of_ble_eq_true rfl) (Nat.le_of_ble_eq_true rfl) rfl rfl ?_
  refine pg_iconst 0 dX1_copyFrom_64 rfl ?_
  refine pg_aload_n dX1_copyFrom_65 rfl ?_
  refine eg_get dX1_copyFrom_66 fa_X1_24 hS sp85 (Nat.le_of_ble_eq_true rfl) (Nat.le_of_ble_eq_true rfl) rfl rfl ?_
  refine pg_iconst 0 dX1_copyFrom_69 rfl ?_
  refine pg_bipush 8 dX1_copyFrom_70 rfl ?_
  refine eg_copyI (n9 := 8) dX1_copyFrom_72 mw306 mw308 mw307 mw309 hS sp7 (Nat.le_of_ble_eq_true rfl) (Nat.le_of_ble_eq_true rfl) rfl sp90 (Nat.le_of_ble_eq_true rfl) (Nat.le_of_ble_eq_true rfl) (fun _ _ _ => rfl) (by decide) rfl (Nat.le_of_ble_eq_true rfl) (Nat.le_of_ble_eq_true rfl) rfl (Nat.le_of_ble_eq_true rfl) (Nat.le_of_ble_eq_true rfl) (fun m5 e_m5 => ?_)
  replace h := lt_at h e_m5
  refine pg_aload_n dX1_copyFrom_75 rfl ?_
  refine eg_get dX1_copyFrom_76 fa_X1_27 hS sp2 (Nat.le_of_ble_eq_true rfl) (Nat.le_of_ble_eq_true rfl) rfl rfl ?_
  refine pg_iconst 0 dX1_copyFrom_79 rfl ?_
  refine pg_aload_n dX1_copyFrom_80 rfl ?_
  refine eg_get dX1_copyFrom_81 fa_X1_27 hS sp85 (Nat.le_of_ble_eq_true rfl) (Nat.le_of_ble_eq_true rfl) rfl rfl ?_
  refine pg_iconst 0 dX1_copyFrom_84 rfl ?_
  refine pg_bipush 8 dX1_copyFrom_85 rfl ?_
  refine eg_copyI (n9 := 8) dX1_copyFrom_87 mw306 mw308 mw307 mw309 hS sp8 (Nat.le_of_ble_eq_true rfl) (Nat.le_of_ble_eq_true rfl) rfl sp91 (Nat.le_of_ble_eq_true rfl) (Nat.le_of_ble_eq_true rfl) (fun _ _ _ => rfl) (by decide) rfl (Nat.le_of_ble_eq_true rfl) (Nat.le_of_ble_eq_true rfl) rfl (Nat.le_of_ble_eq_true rfl) (Nat.le_of_ble_eq_true rfl) (fun m6 e_m6 => ?_)
  replace h := lt_at h e_m6
  refine pg_aload_n dX1_copyFrom_90 rfl ?_
  refine eg_get dX1_copyFrom_91 fa_X1_30 hS sp2 (Nat.le_of_ble_eq_true rfl) (Nat.le_of_ble_eq_true rfl) rfl rfl ?_
  refine pg_iconst 0 dX1_copyFrom_94 rfl ?_
  refine pg_aload_n dX1_copyFrom_95 rfl ?_
  refine eg_get dX1_copyFrom_96 fa_X1_30 hS sp85 (Nat.le_of_ble_eq_true rfl) (Nat.le_of_ble_eq_true rfl) rfl rfl ?_
  refine pg_iconst 0 dX1_copyFrom_99 rfl ?_
  refine pg_bipush 64 dX1_copyFrom_100 rfl ?_
  refine eg_copyI (n9 := 64) dX1_copyFrom_102 mw306 mw308 mw307 mw309 hS sp9 (Nat.le_of_ble_eq_true rfl) (Nat.le_of_ble_eq_true rfl) rfl sp92 (Nat.le_of_ble_eq_true rfl) (Nat.le_of_ble_eq_true rfl) (fun _ _ _ => rfl) (by decide) rfl (Nat.le_of_ble_eq_true rfl) (Nat.le_of_ble_eq_true rfl) rfl (Nat.le_of_ble_eq_true rfl) (Nat.le_of_ble_eq_true rfl) (fun m7 e_m7 => ?_)
  replace h := lt_at h e_m7
  refine pg_aload_n dX1_copyFrom_105 rfl ?_
  refine eg_get dX1_copyFrom_106 fa_X1_33 hS sp2 (Nat.le_of_ble_eq_true rfl) (Nat.le_of_ble_eq_true rfl) rfl rfl ?_
  refine pg_iconst 0 dX1_copyFrom_109 rfl ?_
  refine pg_aload_n dX1_copyFrom_110 rfl ?_
  refine eg_get dX1_copyFrom_111 fa_X1_33 hS sp85 (Nat.le_of_ble_eq_true rfl) (Nat.le_of_ble_eq_true rfl) rfl rfl ?_
  refine pg_iconst 0 dX1_copyFrom_114 rfl ?_
  refine pg_bipush 64 dX1_copyFrom_115 rfl ?_
  refine eg_copyI (n9 := 64) dX1_copyFrom_117 mw306 mw308 mw307 mw309 hS sp10 (Nat.le_of_ble_eq_true rfl) (Nat.le_of_ble_eq_true rfl) rfl sp93 (Nat.le_of_ble_eq_true rfl) (Nat.le_of_ble_eq_true rfl) (fun _ _ _ => rfl) (by decide) rfl (Nat.le_of_ble_eq_true rfl) (Nat.le_of_ble_eq_true rfl) rfl (Nat.le_of_ble_eq_true rfl) (Nat.le_of_ble_eq_true rfl) (fun m8 e_m8 => ?_)
  replace h := lt_at h e_m8
  obtain rfl := Option.some.inj h
  exact hE.2.2.1 _ _ _ _ _ dX1_copyFrom_120 rfl (Nat.zero_le _) (Nat.zero_le _) ⟨rfl, rfl⟩
def f_X3_copyFrom_94_11 (m0 : me) : Option me :=
  lt (wI m0 94 0 (m0.1 11 0)) (fun m1 =>
  lt (cp m1 12 95 0 0 16) (fun m2 =>
  lt (cp m2 13 96 0 0 16) (fun m3 =>
  lt (cp m3 14 97 0 0 16) (fun m4 =>
  lt (cp m4 15 98 0 0 16) (fun m5 =>
  gd ((List.range 16).all (fun i => isB (m5.1 16 i))) (
  lt (cp m5 16 99 0 0 16) (fun m6 =>
  lt (cp m6 17 100 0 0 16) (fun m7 =>
  lt (cp m7 18 101 0 0 16) (fun m8 =>
  lt (cp m8 19 102 0 0 16) (fun m9 =>
  lt (cp m9 20 103 0 0 32) (fun m10 =>
  lt (cp m10 21 104 0 0 32) (fun m11 =>
  lt (cp m11 22 105 0 0 32) (fun m12 =>
  some (m12))))))))))))))
set_option maxRecDepth 20000 in
set_option maxHeartbeats 4000000 in
theorem ct_X3_copyFrom_94_11 (hfl : g.1.stackTraces = false) (hS : pS 0 138 S) {m0 : me} {x : me} (h : f_X3_copyFrom_94_11 m0 = some x) : pm_Ct g mX3_copyFrom [.ref 94, .ref 11] (en S m0) 0 0 (qV S x) qF := by
  refine pm_of (by decide +kernel) rfl hfl (Nat.le_of_ble_eq_true rfl) (fun X hE => ?_)
  show pm_G g mX3_copyFrom X 0 [some (.ref 94), some (.ref 11)] [] (en S m0) 0 0
  unfold f_X3_copyFrom_94_11 at h
  refine pg_aload_n dX3_copyFrom_0 rfl ?_
  refine pg_aload_n dX3_copyFrom_1 rfl ?_
  refine eg_get dX3_copyFrom_2 fa_X3_46 hS sp11 (Nat.le_of_ble_eq_true rfl) (Nat.le_of_ble_eq_true rfl) rfl rfl ?_
  refine eg_put dX3_copyFrom_5 fa_X3_46 hS sp94 (Nat.le_of_ble_eq_true rfl) (Nat.le_of_ble_eq_true rfl) rfl (Nat.le_of_ble_eq_true rfl) rfl (fun m1 e_m1 => ?_)
  replace h := lt_at h e_m1
  refine pg_aload_n dX3_copyFrom_8 rfl ?_
  refine eg_get dX3_copyFrom_9 fa_X3_9 hS sp11 (Nat.le_of_ble_eq_true rfl) (Nat.le_of_ble_eq_true rfl) rfl rfl ?_
  refine pg_iconst 0 dX3_copyFrom_12 rfl ?_
  refine pg_aload_n dX3_copyFrom_13 rfl ?_
  refine eg_get dX3_copyFrom_14 fa_X3_9 hS sp94 (Nat.le_of_ble_eq_true rfl) (Nat.le_of_ble_eq_true rfl) rfl rfl ?_
  refine pg_iconst 0 dX3_copyFrom_17 rfl ?_
  refine pg_bipush 16 dX3_copyFrom_18 rfl ?_
  refine eg_copyI (n9 := 16) dX3_copyFrom_20 mw310 mw308 mw307 mw309 hS sp12 (Nat.le_of_ble_eq_true rfl) (Nat.le_of_ble_eq_true rfl) rfl sp95 (Nat.le_of_ble_eq_true rfl) (Nat.le_of_ble_eq_true rfl) (fun _ _ _ => rfl) (by decide) rfl (Nat.le_of_ble_eq_true rfl) (Nat.le_of_ble_eq_true rfl) rfl (Nat.le_of_ble_eq_true rfl) (Nat.le_of_ble_eq_true rfl) (fun m2 e_m2 => ?_)
  replace h := lt_at h e_m2
  refine pg_aload_n dX3_copyFrom_23 rfl ?_
  refine eg_get dX3_copyFrom_24 fa_X3_15 hS sp11 (Nat.le_of_ble_eq_true rfl) (Nat.le_of_ble_eq_true rfl) rfl rfl ?_
  refine pg_iconst 0 dX3_copyFrom_27 rfl ?_
  refine pg_aload_n dX3_copyFrom_28 rfl ?_
  refine eg_get dX3_copyFrom_29 fa_X3_15 hS sp94 (Nat.le_of_ble_eq_true rfl) (Nat.le_of_ble_eq_true rfl) rfl rfl ?_
  refine pg_iconst 0 dX3_copyFrom_32 rfl ?_
  refine pg_bipush 16 dX3_copyFrom_33 rfl ?_
  refine eg_copyI (n9 := 16) dX3_copyFrom_35 mw310 mw308 mw307 mw309 hS sp13 (Nat.le_of_ble_eq_true rfl) (Nat.le_of_ble_eq_true rfl) rfl sp96 (Nat.le_of_ble_eq_true rfl) (Nat.le_of_ble_eq_true rfl) (fun _ _ _ => rfl) (by decide) rfl (Nat.le_of_ble_eq_true rfl) (Nat.le_of_ble_eq_true rfl) rfl (Nat.le_of_ble_eq_true rfl) (Nat.le_of_ble_eq_true rfl) (fun m3 e_m3 => ?_)
  replace h := lt_at h e_m3
  refine pg_aload_n dX3_copyFrom_38 rfl ?_
  refine eg_get dX3_copyFrom_39 fa_X3_18 hS sp11 (Nat.le_of_ble_eq_true rfl) (Nat.le_of_ble_eq_true rfl) rfl rfl ?_
  refine pg_iconst 0 dX3_copyFrom_42 rfl ?_
  refine pg_aload_n dX3_copyFrom_43 rfl ?_
  refine eg_get dX3_copyFrom_44 fa_X3_18 hS sp94 (Nat.le_of_ble_eq_true rfl) (Nat.le_of_ble_eq_true rfl) rfl rfl ?_
  refine pg_iconst 0 dX3_copyFrom_47 rfl ?_
  refine pg_bipush 16 dX3_copyFrom_48 rfl ?_
  refine eg_copyI (n9 := 16) dX3_copyFrom_50 mw310 mw308 mw307 mw309 hS sp14 (Nat.le_of_ble_eq_true rfl) (Nat.le_of_ble_eq_true rfl) rfl sp97 (Nat.le_of_ble_eq_true rfl) (Nat.le_of_ble_eq_true rfl) (fun _ _ _ => rfl) (by decide) rfl (Nat.le_of_ble_eq_true rfl) (Nat.le_of_ble_eq_true rfl) rfl (Nat.le_of_ble_eq_true rfl) (Nat.le_of_ble_eq_true rfl) (fun m4 e_m4 => ?_)
  replace h := lt_at h e_m4
  refine pg_aload_n dX3_copyFrom_53 rfl ?_
  refine eg_get dX3_copyFrom_54 fa_X3_21 hS sp11 (Nat.le_of_ble_eq_true rfl) (Nat.le_of_ble_eq_true rfl) rfl rfl ?_
  refine pg_iconst 0 dX3_copyFrom_57 rfl ?_
  refine pg_aload_n dX3_copyFrom_58 rfl ?_
  refine eg_get dX3_copyFrom_59 fa_X3_21 hS sp94 (Nat.le_of_ble_eq_true rfl) (Nat.le_of_ble_eq_true rfl) rfl rfl ?_
  refine pg_iconst 0 dX3_copyFrom_62 rfl ?_
  refine pg_bipush 16 dX3_copyFrom_63 rfl ?_
  refine eg_copyI (n9 := 16) dX3_copyFrom_65 mw310 mw308 mw307 mw309 hS sp15 (Nat.le_of_ble_eq_true rfl) (Nat.le_of_ble_eq_true rfl) rfl sp98 (Nat.le_of_ble_eq_true rfl) (Nat.le_of_ble_eq_true rfl) (fun _ _ _ => rfl) (by decide) rfl (Nat.le_of_ble_eq_true rfl) (Nat.le_of_ble_eq_true rfl) rfl (Nat.le_of_ble_eq_true rfl) (Nat.le_of_ble_eq_true rfl) (fun m5 e_m5 => ?_)
  replace h := lt_at h e_m5
  refine pg_aload_n dX3_copyFrom_68 rfl ?_
  refine eg_get dX3_copyFrom_69 fa_X3_24 hS sp11 (Nat.le_of_ble_eq_true rfl) (Nat.le_of_ble_eq_true rfl) rfl rfl ?_
  refine pg_iconst 0 dX3_copyFrom_72 rfl ?_
  refine pg_aload_n dX3_copyFrom_73 rfl ?_
  refine eg_get dX3_copyFrom_74 fa_X3_24 hS sp94 (Nat.le_of_ble_eq_true rfl) (Nat.le_of_ble_eq_true rfl) rfl rfl ?_
  refine pg_iconst 0 dX3_copyFrom_77 rfl ?_
  refine pg_bipush 16 dX3_copyFrom_78 rfl ?_
  obtain ⟨g2, h⟩ := gd_at h
  refine eg_copyZ (n9 := 16) dX3_copyFrom_80 mw310 mw308 mw307 mw309 hS sp16 (Nat.le_of_ble_eq_true rfl) (Nat.le_of_ble_eq_true rfl) rfl sp99 (Nat.le_of_ble_eq_true rfl) (Nat.le_of_ble_eq_true rfl) (fun _ _ _ => rfl) (by decide) rfl (Nat.le_of_ble_eq_true rfl) (Nat.le_of_ble_eq_true rfl) g2 rfl (Nat.le_of_ble_eq_true rfl) (Nat.le_of_ble_eq_true rfl) (fun m6 e_m6 => ?_)
  replace h := lt_at h e_m6
  refine pg_aload_n dX3_copyFrom_83 rfl ?_
  refine eg_get dX3_copyFrom_84 fa_X3_28 hS sp11 (Nat.le_of_ble_eq_true rfl) (Nat.le_of_ble_eq_true rfl) rfl rfl ?_
  refine pg_iconst 0 dX3_copyFrom_87 rfl ?_
  refine pg_aload_n dX3_copyFrom_88 rfl ?_
  refine eg_get dX3_copyFrom_89 fa_X3_28 hS sp94 (Nat.le_of_ble_eq_true rfl) (Nat.le_of_ble_eq_true rfl) rfl rfl ?_
  refine pg_iconst 0 dX3_copyFrom_92 rfl ?_
  refine pg_bipush 16 dX3_copyFrom_93 rfl ?_
  refine eg_copyI (n9 := 16) dX3_copyFrom_95 mw310 mw308 mw307 mw309 hS sp17 (Nat.le_of_ble_eq_true rfl) (Nat.le_of_ble_eq_true rfl) rfl sp100 (Nat.le_of_ble_eq_true rfl) (Nat.le_of_ble_eq_true rfl) (fun _ _ _ => rfl) (by decide) rfl (Nat.le_of_ble_eq_true rfl) (Nat.le_of_ble_eq_true rfl) rfl (Nat.le_of_ble_eq_true rfl) (Nat.le_of_ble_eq_true rfl) (fun m7 e_m7 => ?_)
  replace h := lt_at h e_m7
  refine pg_aload_n dX3_copyFrom_98 rfl ?_
  refine eg_get dX3_copyFrom_99 fa_X3_31 hS sp11 (Nat.le_of_ble_eq_true rfl) (Nat.le_of_ble_eq_true rfl) rfl rfl ?_
  refine pg_iconst 0 dX3_copyFrom_102 rfl ?_
  refine pg_aload_n dX3_copyFrom_103 rfl ?_
  refine eg_get dX3_copyFrom_104 fa_X3_31 hS sp94 (Nat.le_of_ble_eq_true rfl) (Nat.le_of_ble_eq_true rfl) rfl rfl ?_
  refine pg_iconst 0 dX3_copyFrom_107 rfl ?_
  refine pg_bipush 16 dX3_copyFrom_108 rfl ?_
  refine eg_copyI (n9 := 16) dX3_copyFrom_110 mw310 mw308 mw307 mw309 hS sp18 (Nat.le_of_ble_eq_true rfl) (Nat.le_of_ble_eq_true rfl) rfl sp101 (Nat.le_of_ble_eq_true rfl) (Nat.le_of_ble_eq_true rfl) (fun _ _ _ => rfl) (by decide) rfl (Nat.le_of_ble_eq_true rfl) (Nat.le_of_ble_eq_true rfl) rfl (Nat.le_of_ble_eq_true rfl) (Nat.le_of_ble_eq_true rfl) (fun m8 e_m8 => ?_)
  replace h := lt_at h e_m8
  refine pg_aload_n dX3_copyFrom_113 rfl ?_
  refine eg_get dX3_copyFrom_114 fa_X3_34 hS sp11 (Nat.le_of_ble_eq_true rfl) (Nat.le_of_ble_eq_true rfl) rfl rfl ?_
  refine pg_iconst 0 dX3_copyFrom_117 rfl ?_
  refine pg_aload_n dX3_copyFrom_118 rfl ?_
  refine eg_get dX3_copyFrom_119 fa_X3_34 hS sp94 (Nat.le_of_ble_eq_true rfl) (Nat.le_of_ble_eq_true rfl) rfl rfl ?_
  refine pg_iconst 0 dX3_copyFrom_122 rfl ?_
  refine pg_bipush 16 dX3_copyFrom_123 rfl ?_
  refine eg_copyI (n9 := 16) dX3_copyFrom_125 mw310 mw308 mw307 mw309 hS sp19 (Nat.le_of_ble_eq_true rfl) (Nat.le_of_ble_eq_true rfl) rfl sp102 (Nat.le_of_ble_eq_true rfl) (Nat.le_of_ble_eq_true rfl) (fun _ _ _ => rfl) (by decide) rfl (Nat.le_of_ble_eq_true rfl) (Nat.le_of_ble_eq_true rfl) rfl (Nat.le_of_ble_eq_true rfl) (Nat.le_of_ble_eq_true rfl) (fun m9 e_m9 => ?_)
  replace h := lt_at h e_m9
  refine pg_aload_n dX3_copyFrom_128 rfl ?_
  refine eg_get dX3_copyFrom_129 fa_X3_37 hS sp11 (Nat.le_of_ble_eq_true rfl) (Nat.le_of_ble_eq_true rfl) rfl rfl ?_
  refine pg_iconst 0 dX3_copyFrom_132 rfl ?_
  refine pg_aload_n dX3_copyFrom_133 rfl ?_
  refine eg_get dX3_copyFrom_134 fa_X3_37 hS sp94 (Nat.le_of_ble_eq_true rfl) (Nat.le_of_ble_eq_true rfl) rfl rfl ?_
  refine pg_iconst 0 dX3_copyFrom_137 rfl ?_
  refine pg_bipush 32 dX3_copyFrom_138 rfl ?_
  refine eg_copyI (n9 := 32) dX3_copyFrom_140 mw310 mw308 mw307 mw309 hS sp20 (Nat.le_of_ble_eq_true rfl) (Nat.le_of_ble_eq_true rfl) rfl sp103 (Nat.le_of_ble_eq_true rfl) (Nat.le_of_ble_eq_true rfl) (fun _ _ _ => rfl) (by decide) rfl (Nat.le_of_ble_eq_true rfl) (Nat.le_of_ble_eq_true rfl) rfl (Nat.le_of_ble_eq_true rfl) (Nat.le_of_ble_eq_true rfl) (fun m10 e_m10 => ?_)
  replace h := lt_at h e_m10
  refine pg_aload_n dX3_copyFrom_143 rfl ?_
  refine eg_get dX3_copyFrom_144 fa_X3_40 hS sp11 (Nat.le_of_ble_eq_true rfl) (Nat.le_of_ble_eq_true rfl) rfl rfl ?_
  refine pg_iconst 0 dX3_copyFrom_147 rfl ?_
  refine pg_aload_n dX3_copyFrom_148 rfl ?_
  refine eg_get dX3_copyFrom_149 fa_X3_40 hS sp94 (Nat.le_of_ble_eq_true rfl) (Nat.le_of_ble_eq_true rfl) rfl rfl ?_
  refine pg_iconst 0 dX3_copyFrom_152 rfl ?_
  refine pg_bipush 32 dX3_copyFrom_153 rfl ?_
  refine eg_copyI (n9 := 32) dX3_copyFrom_155 mw310 mw308 mw307 mw309 hS sp21 (Nat.le_of_ble_eq_true rfl) (Nat.le_of_ble_eq_true rfl) rfl sp104 (Nat.le_of_ble_eq_true rfl) (Nat.le_of_ble_eq_true rfl) (fun _ _ _ => rfl) (by decide) rfl (Nat.le_of_ble_eq_true rfl) (Nat.le_of_ble_eq_true rfl) rfl (Nat.le_of_ble_eq_true rfl) (Nat.le_of_ble_eq_true rfl) (fun m11 e_m11 => ?_)
  replace h := lt_at h e_m11
  refine pg_aload_n dX3_copyFrom_158 rfl ?_
  refine eg_get dX3_copyFrom_159 fa_X3_43 hS sp11 (Nat.le_of_ble_eq_true rfl) (Nat.le_of_ble_eq_true rfl) rfl rfl ?_
  refine pg_iconst 0 dX3_copyFrom_162 rfl ?_
  refine pg_aload_n dX3_copyFrom_163 rfl ?_
  refine eg_get dX3_copyFrom_164 fa_X3_43 hS sp94 (Nat.le_of_ble_eq_true rfl) (Nat.le_of_ble_eq_true rfl) rfl rfl ?_
  refine pg_iconst 0 dX3_copyFrom_167 rfl ?_
  refine pg_bipush 32 dX3_copyFrom_168 rfl ?_
  refine eg_copyI (n9 := 32) dX3_copyFrom_170 mw310 mw308 mw307 mw309 hS sp22 (Nat.le_of_ble_eq_true rfl) (Nat.le_of_ble_eq_true rfl) rfl sp105 (Nat.le_of_ble_eq_true rfl) (Nat.le_of_ble_eq_true rfl) (fun _ _ _ => rfl) (by decide) rfl (Nat.le_of_ble_eq_true rfl) (Nat.le_of_ble_eq_true rfl) rfl (Nat.le_of_ble_eq_true rfl) (Nat.le_of_ble_eq_true rfl) (fun m12 e_m12 => ?_)
  replace h := lt_at h e_m12
  obtain rfl := Option.some.inj h
  exact hE.2.2.1 _ _ _ _ _ dX3_copyFrom_173 rfl (Nat.zero_le _) (Nat.zero_le _) ⟨rfl, rfl⟩
end
