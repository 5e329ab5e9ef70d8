section
variable {g : pm_Gl} {X : pm_X} {S : List sF}
def f_X8_copyFrom_106_23 (m0 : me) : Option me :=
  lt (cp m0 24 107 0 0 4) (fun m1 =>
  lt (cp m1 25 108 0 0 4) (fun m2 =>
  lt (cp m2 26 109 0 0 4) (fun m3 =>
  lt (cp m3 27 110 0 0 64) (fun m4 =>
  some (m4)))))
set_option maxRecDepth 20000 in
set_option maxHeartbeats 4000000 in
theorem ct_X8_copyFrom_106_23 (hfl : g.1.stackTraces = false) (hS : pS 0 138 S) {m0 : me} {x : me} (h : f_X8_copyFrom_106_23 m0 = some x) : pm_Ct g mX8_copyFrom [.ref 106, .ref 23] (en S m0) 0 0 (qV S x) qF := by
  refine pm_of (by decide +kernel) rfl hfl (Nat.le_of_ble_eq_true rfl) (fun X hE => ?_)
  show pm_G g mX8_copyFrom X 0 [some (.ref 106), some (.ref 23)] [] (en S m0) 0 0
  unfold f_X8_copyFrom_106_23 at h
  refine pg_aload_n dX8_copyFrom_0 rfl ?_
  refine eg_get dX8_copyFrom_1 fa_X8_9 hS sp23 (Nat.le_of_ble_eq_true rfl) (Nat.le_of_ble_eq_true rfl) rfl rfl ?_
  refine pg_iconst 0 dX8_copyFrom_4 rfl ?_
  refine pg_aload_n dX8_copyFrom_5 rfl ?_
  refine eg_get dX8_copyFrom_6 fa_X8_9 hS sp106 (Nat.le_of_ble_eq_true rfl) (Nat.le_of_ble_eq_true rfl) rfl rfl ?_
  refine pg_iconst 0 dX8_copyFrom_9 rfl ?_
  refine pg_iconst 4 dX8_copyFrom_10 rfl ?_
  refine eg_copyI (n9 := 4) dX8_copyFrom_11 mw311 mw308 mw307 mw309 hS sp24 (Nat.le_of_ble_eq_true rfl) (Nat.le_of_ble_eq_true rfl) rfl sp107 (Nat.le_of_ble_eq_true rfl) (Nat.le_of_ble_eq_true rfl) (fun _ _ _ => rfl) (by decide) rfl (Nat.le_of_ble_eq_true rfl) (Nat.le_of_ble_eq_true rfl) rfl (Nat.le_of_ble_eq_true rfl) (Nat.le_of_ble_eq_true rfl) (fun m1 e_m1 => ?_)
  replace h := lt_at h e_m1
  refine pg_aload_n dX8_copyFrom_14 rfl ?_
  refine eg_get dX8_copyFrom_15 fa_X8_15 hS sp23 (Nat.le_of_ble_eq_true rfl) (Nat.le_of_ble_eq_true rfl) rfl rfl ?_
  refine pg_iconst 0 dX8_copyFrom_18 rfl ?_
  refine pg_aload_n dX8_copyFrom_19 rfl ?_
  refine eg_get dX8_copyFrom_20 fa_X8_15 hS sp106 (Nat.le_of_ble_eq_true rfl) (Nat.le_of_ble_eq_true rfl) rfl rfl ?_
  refine pg_iconst 0 dX8_copyFrom_23 rfl ?_
  refine pg_iconst 4 dX8_copyFrom_24 rfl ?_
  refine eg_copyI (n9 := 4) dX8_copyFrom_25 mw311 mw308 mw307 mw309 hS sp25 (Nat.le_of_ble_eq_true rfl) (Nat.le_of_ble_eq_true rfl) rfl sp108 (Nat.le_of_ble_eq_true rfl) (Nat.le_of_ble_eq_true rfl) (fun _ _ _ => rfl) (by decide) rfl (Nat.le_of_ble_eq_true rfl) (Nat.le_of_ble_eq_true rfl) rfl (Nat.le_of_ble_eq_true rfl) (Nat.le_of_ble_eq_true rfl) (fun m2 e_m2 => ?_)
  replace h := lt_at h e_m2
  refine pg_aload_n dX8_copyFrom_28 rfl ?_
  refine eg_get dX8_copyFrom_29 fa_X8_18 hS sp23 (Nat.le_of_ble_eq_true rfl) (Nat.le_of_ble_eq_true rfl) rfl rfl ?_
  refine pg_iconst 0 dX8_copyFrom_32 rfl ?_
  refine pg_aload_n dX8_copyFrom_33 rfl ?_
  refine eg_get dX8_copyFrom_34 fa_X8_18 hS sp106 (Nat.le_of_ble_eq_true rfl) (Nat.le_of_ble_eq_true rfl) rfl rfl ?_
  refine pg_iconst 0 dX8_copyFrom_37 rfl ?_
  refine pg_iconst 4 dX8_copyFrom_38 rfl ?_
  refine eg_copyI (n9 := 4) dX8_copyFrom_39 mw311 mw308 mw307 mw309 hS sp26 (Nat.le_of_ble_eq_true rfl) (Nat.le_of_ble_eq_true rfl) rfl sp109 (Nat.le_of_ble_eq_true rfl) (Nat.le_of_ble_eq_true rfl) (fun _ _ _ => rfl) (by decide) rfl (Nat.le_of_ble_eq_true rfl) (Nat.le_of_ble_eq_true rfl) rfl (Nat.le_of_ble_eq_true rfl) (Nat.le_of_ble_eq_true rfl) (fun m3 e_m3 => ?_)
  replace h := lt_at h e_m3
  refine pg_aload_n dX8_copyFrom_42 rfl ?_
  refine eg_get dX8_copyFrom_43 fa_X8_21 hS sp23 (Nat.le_of_ble_eq_true rfl) (Nat.le_of_ble_eq_true rfl) rfl rfl ?_
  refine pg_iconst 0 dX8_copyFrom_46 rfl ?_
  refine pg_aload_n dX8_copyFrom_47 rfl ?_
  refine eg_get dX8_copyFrom_48 fa_X8_21 hS sp106 (Nat.le_of_ble_eq_true rfl) (Nat.le_of_ble_eq_true rfl) rfl rfl ?_
  refine pg_iconst 0 dX8_copyFrom_51 rfl ?_
  refine pg_bipush 64 dX8_copyFrom_52 rfl ?_
  refine eg_copyI (n9 := 64) dX8_copyFrom_54 mw311 mw308 mw307 mw309 hS sp27 (Nat.le_of_ble_eq_true rfl) (Nat.le_of_ble_eq_true rfl) rfl sp110 (Nat.le_of_ble_eq_true rfl) (Nat.le_of_ble_eq_true rfl) (fun _ _ _ => rfl) (by decide) rfl (Nat.le_of_ble_eq_true rfl) (Nat.le_of_ble_eq_true rfl) rfl (Nat.le_of_ble_eq_true rfl) (Nat.le_of_ble_eq_true rfl) (fun m4 e_m4 => ?_)
  replace h := lt_at h e_m4
  obtain rfl := Option.some.inj h
  exact hE.2.2.1 _ _ _ _ _ dX8_copyFrom_57 rfl (Nat.zero_le _) (Nat.zero_le _) ⟨rfl, rfl⟩
def f_X4_copyFrom_84_1 (m0 : me) : Option me :=
  lt (wI m0 84 0 (m0.1 1 0)) (fun m1 =>
  lt (wI m1 84 1 (m1.1 1 1)) (fun m2 =>
  lt (wI m2 84 2 (m2.1 1 2)) (fun m3 =>
  lt (wI m3 84 3 (m3.1 1 3)) (fun m4 =>
  lt (wI m4 84 4 (m4.1 1 4)) (fun m5 =>
  lt (wI m5 84 5 (m5.1 1 5)) (fun m6 =>
  lt (wI m6 84 6 (m6.1 1 6)) (fun m7 =>
  lt (wI m7 84 7 (m7.1 1 7)) (fun m8 =>
  lt (wI m8 84 8 (m8.1 1 8)) (fun m9 =>
  lt (wI m9 84 9 (m9.1 1 9)) (fun m10 =>
  bd (f_X1_copyFrom_85_2 m10) (fun r11 =>
  bd (f_X3_copyFrom_94_11 r11) (fun r12 =>
  bd (f_X8_copyFrom_106_23 r12) (fun r13 =>
  some (r13))))))))))))))
set_option maxRecDepth 20000 in
set_option maxHeartbeats 4000000 in
theorem ct_X4_copyFrom_84_1 (hfl : g.1.stackTraces = false) (hS : pS 0 138 S) {m0 : me} {x : me} (h : f_X4_copyFrom_84_1 m0 = some x) : pm_Ct g mX4_copyFrom [.ref 84, .ref 1] (en S m0) 0 0 (qV S x) qF := by
  refine pm_of (by decide +kernel) rfl hfl (Nat.le_of_ble_eq_true rfl) (fun X hE => ?_)
  show pm_G g mX4_copyFrom X 0 [some (.ref 84), some (.ref 1)] [] (en S m0) 0 0
  unfold f_X4_copyFrom_84_1 at h
  refine pg_aload_n dX4_copyFrom_0 rfl ?_
  refine pg_aload_n dX4_copyFrom_1 rfl ?_
  refine eg_get dX4_copyFrom_2 fa_X4_42 hS sp1 (Nat.le_of_ble_eq_true rfl) (Nat.le_of_ble_eq_true rfl) rfl rfl ?_
  refine eg_put dX4_copyFrom_5 fa_X4_42 hS sp84 (Nat.le_of_ble_eq_true rfl) (Nat.le_of_ble_eq_true rfl) rfl (Nat.le_of_ble_eq_true rfl) rfl (fun m1 e_m1 => ?_)
  replace h := lt_at h e_m1
  refine pg_aload_n dX4_copyFrom_8 rfl ?_
  refine pg_aload_n dX4_copyFrom_9 rfl ?_
  refine eg_get dX4_copyFrom_10 fa_X4_45 hS sp1 (Nat.le_of_ble_eq_true rfl) (Nat.le_of_ble_eq_true rfl) rfl rfl ?_
  refine eg_put dX4_copyFrom_13 fa_X4_45 hS sp84 (Nat.le_of_ble_eq_true rfl) (Nat.le_of_ble_eq_true rfl) rfl (Nat.le_of_ble_eq_true rfl) rfl (fun m2 e_m2 => ?_)
  replace h := lt_at h e_m2
  refine pg_aload_n dX4_copyFrom_16 rfl ?_
  refine pg_aload_n dX4_copyFrom_17 rfl ?_
  refine eg_get dX4_copyFrom_18 fa_X4_9 hS sp1 (Nat.le_of_ble_eq_true rfl) (Nat.le_of_ble_eq_true rfl) rfl rfl ?_
  refine eg_put dX4_copyFrom_21 fa_X4_9 hS sp84 (Nat.le_of_ble_eq_true rfl) (Nat.le_of_ble_eq_true rfl) rfl (Nat.le_of_ble_eq_true rfl) rfl (fun m3 e_m3 => ?_)
  replace h := lt_at h e_m3
  refine pg_aload_n dX4_copyFrom_24 rfl ?_
  refine pg_aload_n dX4_copyFrom_25 rfl ?_
  refine eg_get dX4_copyFrom_26 fa_X4_15 hS sp1 (Nat.le_of_ble_eq_true rfl) (Nat.le_of_ble_eq_true rfl) rfl rfl ?_
  refine eg_put dX4_copyFrom_29 fa_X4_15 hS sp84 (Nat.le_of_ble_eq_true rfl) (Nat.le_of_ble_eq_true rfl) rfl (Nat.le_of_ble_eq_true rfl) rfl (fun m4 e_m4 => ?_)
  replace h := lt_at h e_m4
  refine pg_aload_n dX4_copyFrom_32 rfl ?_
  refine pg_aload_n dX4_copyFrom_33 rfl ?_
  refine eg_get dX4_copyFrom_34 fa_X4_18 hS sp1 (Nat.le_of_ble_eq_true rfl) (Nat.le_of_ble_eq_true rfl) rfl rfl ?_
  refine eg_put dX4_copyFrom_37 fa_X4_18 hS sp84 (Nat.le_of_ble_eq_true rfl) (Nat.le_of_ble_eq_true rfl) rfl (Nat.le_of_ble_eq_true rfl) rfl (fun m5 e_m5 => ?_)
  replace h := lt_at h e_m5
  refine pg_aload_n dX4_copyFrom_40 rfl ?_
  refine pg_aload_n dX4_copyFrom_41 rfl ?_
  refine eg_get dX4_copyFrom_42 fa_X4_48 hS sp1 (Nat.le_of_ble_eq_true rfl) (Nat.le_of_ble_eq_true rfl) rfl rfl ?_
  refine eg_put dX4_copyFrom_45 fa_X4_48 hS sp84 (Nat.le_of_ble_eq_true rfl) (Nat.le_of_ble_eq_true rfl) rfl (Nat.le_of_ble_eq_true rfl) rfl (fun m6 e_m6 => ?_)
  replace h := lt_at h e_m6
  refine pg_aload_n dX4_copyFrom_48 rfl ?_
  refine pg_aload_n dX4_copyFrom_49 rfl ?_
  refine eg_get dX4_copyFrom_50 fa_X4_51 hS sp1 (Nat.le_of_ble_eq_true rfl) (Nat.le_of_ble_eq_true rfl) rfl rfl ?_
  refine eg_put dX4_copyFrom_53 fa_X4_51 hS sp84 (Nat.le_of_ble_eq_true rfl) (Nat.le_of_ble_eq_true rfl) rfl (Nat.le_of_ble_eq_true rfl) rfl (fun m7 e_m7 => ?_)
  replace h := lt_at h e_m7
  refine pg_aload_n dX4_copyFrom_56 rfl ?_
  refine pg_aload_n dX4_copyFrom_57 rfl ?_
  refine eg_get dX4_copyFrom_58 fa_X4_54 hS sp1 (Nat.le_of_ble_eq_true rfl) (Nat.le_of_ble_eq_true rfl) rfl rfl ?_
  refine eg_put dX4_copyFrom_61 fa_X4_54 hS sp84 (Nat.le_of_ble_eq_true rfl) (Nat.le_of_ble_eq_true rfl) rfl (Nat.le_of_ble_eq_true rfl) rfl (fun m8 e_m8 => ?_)
  replace h := lt_at h e_m8
  refine pg_aload_n dX4_copyFrom_64 rfl ?_
  refine pg_aload_n dX4_copyFrom_65 rfl ?_
  refine eg_get dX4_copyFrom_66 fa_X4_57 hS sp1 (Nat.le_of_ble_eq_true rfl) (Nat.le_of_ble_eq_true rfl) rfl rfl ?_
  refine eg_put dX4_copyFrom_69 fa_X4_57 hS sp84 (Nat.le_of_ble_eq_true rfl) (Nat.le_of_ble_eq_true rfl) rfl (Nat.le_of_ble_eq_true rfl) rfl (fun m9 e_m9 => ?_)
  replace h := lt_at h e_m9
  refine pg_aload_n dX4_copyFrom_72 rfl ?_
  refine pg_aload_n dX4_copyFrom_73 rfl ?_
  refine eg_get dX4_copyFrom_74 fa_X4_60 hS sp1 (Nat.le_of_ble_eq_true rfl) (Nat.le_of_ble_eq_true rfl) rfl rfl ?_
  refine eg_put dX4_copyFrom_77 fa_X4_60 hS sp84 (Nat.le_of_ble_eq_true rfl) (Nat.le_of_ble_eq_true rfl) rfl (Nat.le_of_ble_eq_true rfl) rfl (fun m10 e_m10 => ?_)
  replace h := lt_at h e_m10
  refine pg_aload_n dX4_copyFrom_80 rfl ?_
  refine eg_get dX4_copyFrom_81 fa_X4_24 hS sp84 (Nat.le_of_ble_eq_true rfl) (Nat.le_of_ble_eq_true rfl) rfl rfl ?_
  refine pg_aload_n dX4_copyFrom_84 rfl ?_
  refine eg_get dX4_copyFrom_85 fa_X4_24 hS sp1 (Nat.le_of_ble_eq_true rfl) (Nat.le_of_ble_eq_true rfl) rfl rfl ?_
  obtain ⟨r11, h_r11, h⟩ := bd_at h
  refine eg_cVv (C := mX1_copyFrom) (as := [(.ref 2)]) dX4_copyFrom_88 mw291 cv_X1_copyFrom hS sp85 (Nat.le_of_ble_eq_true rfl) (Nat.le_of_ble_eq_true rfl) rfl rfl rfl (Nat.le_of_ble_eq_true rfl) rfl ⟨(Nat.le_of_ble_eq_true rfl), (Nat.le_of_ble_eq_true rfl)⟩ (ct_X1_copyFrom_85_2 hfl (hS.sub (Nat.le_of_ble_eq_true rfl) (Nat.le_of_ble_eq_true rfl)) h_r11) ?_
  refine pg_aload_n dX4_copyFrom_91 rfl ?_
  refine eg_get dX4_copyFrom_92 fa_X4_31 hS sp84 (Nat.le_of_ble_eq_true rfl) (Nat.le_of_ble_eq_true rfl) rfl rfl ?_
  refine pg_aload_n dX4_copyFrom_95 rfl ?_
  refine eg_get dX4_copyFrom_96 fa_X4_31 hS sp1 (Nat.le_of_ble_eq_true rfl) (Nat.le_of_ble_eq_true rfl) rfl rfl ?_
  obtain ⟨r12, h_r12, h⟩ := bd_at h
  refine eg_cVv (C := mX3_copyFrom) (as := [(.ref 11)]) dX4_copyFrom_99 mw296 cv_X3_copyFrom hS sp94 (Nat.le_of_ble_eq_true rfl) (Nat.le_of_ble_eq_true rfl) rfl rfl rfl (Nat.le_of_ble_eq_true rfl) rfl ⟨(Nat.le_of_ble_eq_true rfl), (Nat.le_of_ble_eq_true rfl)⟩ (ct_X3_copyFrom_94_11 hfl (hS.sub (Nat.le_of_ble_eq_true rfl) (Nat.le_of_ble_eq_true rfl)) h_r12) ?_
  refine pg_aload_n dX4_copyFrom_102 rfl ?_
  refine eg_get dX4_copyFrom_103 fa_X4_38 hS sp84 (Nat.le_of_ble_eq_true rfl) (Nat.le_of_ble_eq_true rfl) rfl rfl ?_
  refine pg_aload_n dX4_copyFrom_106 rfl ?_
  refine eg_get dX4_copyFrom_107 fa_X4_38 hS sp1 (Nat.le_of_ble_eq_true rfl) (Nat.le_of_ble_eq_true rfl) rfl rfl ?_
  obtain ⟨r13, h_r13, h⟩ := bd_at h
  refine eg_cVv (C := mX8_copyFrom) (as := [(.ref 23)]) dX4_copyFrom_110 mw301 cv_X8_copyFrom hS sp106 (Nat.le_of_ble_eq_true rfl) (Nat.le_of_ble_eq_true rfl) rfl rfl rfl (Nat.le_of_ble_eq_true rfl) rfl ⟨(Nat.le_of_ble_eq_true rfl), (Nat.le_of_ble_eq_true rfl)⟩ (ct_X8_copyFrom_106_23 hfl (hS.sub (Nat.le_of_ble_eq_true rfl) (Nat.le_of_ble_eq_true rfl)) h_r13) ?_
  obtain rfl := Option.some.inj h
  exact hE.2.2.1 _ _ _ _ _ dX4_copyFrom_113 rfl (Nat.zero_le _) (Nat.zero_le _) ⟨rfl, rfl⟩
def b_X9_dropOldest_9 (s : Int32 × me) : Option ((Int32 × me) ⊕ (Int32 × me)) :=
  if 3 ≤ s.1 then
    some (.inr (s.1, s.2))
  else
    gd (inR s.1 3) (
    if s.2.2.2 29 s.1.toNatClampNeg = some 30 then
      gd (inR (s.1 - 1) 3) (
      lt (wR s.2 29 ((s.1 - 1).toNatClampNeg) 30) (fun m4 =>
      lt (s.1 + 1) (fun w5 =>
      some (.inl (w5, m4)))))
    else
      if s.2.2.2 29 s.1.toNatClampNeg = some 57 then
        gd (inR (s.1 - 1) 3) (
        lt (wR s.2 29 ((s.1 - 1).toNatClampNeg) 57) (fun m7 =>
        lt (s.1 + 1) (fun w8 =>
        some (.inl (w8, m7)))))
      else
        if s.2.2.2 29 s.1.toNatClampNeg = some 84 then
          gd (inR (s.1 - 1) 3) (
          lt (wR s.2 29 ((s.1 - 1).toNatClampNeg) 84) (fun m10 =>
          lt (s.1 + 1) (fun w11 =>
          some (.inl (w11, m10)))))
        else
          none)
def b_X9_dropOldest_9_1 (s : Int32 × me) : Option ((Int32 × me) ⊕ (Int32 × me)) :=
  if 3 ≤ s.1 then
    some (.inr (s.1, s.2))
  else
    gd (inR s.1 3) (
    if s.2.2.2 29 s.1.toNatClampNeg = some 30 then
      gd (inR (s.1 - 1) 3) (
      lt (wR s.2 29 ((s.1 - 1).toNatClampNeg) 30) (fun m18 =>
      lt (s.1 + 1) (fun w19 =>
      some (.inl (w19, m18)))))
    else
      if s.2.2.2 29 s.1.toNatClampNeg = some 57 then
        gd (inR (s.1 - 1) 3) (
        lt (wR s.2 29 ((s.1 - 1).toNatClampNeg) 57) (fun m21 =>
        lt (s.1 + 1) (fun w22 =>
        some (.inl (w22, m21)))))
      else
        if s.2.2.2 29 s.1.toNatClampNeg = some 84 then
          gd (inR (s.1 - 1) 3) (
          lt (wR s.2 29 ((s.1 - 1).toNatClampNeg) 84) (fun m24 =>
          lt (s.1 + 1) (fun w25 =>
          some (.inl (w25, m24)))))
        else
          none)
def b_X9_dropOldest_9_2 (s : Int32 × me) : Option ((Int32 × me) ⊕ (Int32 × me)) :=
  if 3 ≤ s.1 then
    some (.inr (s.1, s.2))
  else
    gd (inR s.1 3) (
    if s.2.2.2 29 s.1.toNatClampNeg = some 30 then
      gd (inR (s.1 - 1) 3) (
      lt (wR s.2 29 ((s.1 - 1).toNatClampNeg) 30) (fun m32 =>
      lt (s.1 + 1) (fun w33 =>
      some (.inl (w33, m32)))))
    else
      if s.2.2.2 29 s.1.toNatClampNeg = some 57 then
        gd (inR (s.1 - 1) 3) (
        lt (wR s.2 29 ((s.1 - 1).toNatClampNeg) 57) (fun m35 =>
        lt (s.1 + 1) (fun w36 =>
        some (.inl (w36, m35)))))
      else
        if s.2.2.2 29 s.1.toNatClampNeg = some 84 then
          gd (inR (s.1 - 1) 3) (
          lt (wR s.2 29 ((s.1 - 1).toNatClampNeg) 84) (fun m38 =>
          lt (s.1 + 1) (fun w39 =>
          some (.inl (w39, m38)))))
        else
          none)
def f_X9_dropOldest (m0 : me) : Option me :=
  if m0.2.2 29 0 = some 30 then
    bd (lo (b_X9_dropOldest_9) 2048 (1, m0)) (fun s12 =>
    lt (wR s12.2 29 2 30) (fun m13 =>
    lt (wI m13 28 1 2) (fun m14 =>
    some (m14))))
  else
    if m0.2.2 29 0 = some 57 then
      bd (lo (b_X9_dropOldest_9_1) 2048 (1, m0)) (fun s26 =>
      lt (wR s26.2 29 2 57) (fun m27 =>
      lt (wI m27 28 1 2) (fun m28 =>
      some (m28))))
    else
      if m0.2.2 29 0 = some 84 then
        bd (lo (b_X9_dropOldest_9_2) 2048 (1, m0)) (fun s40 =>
        lt (wR s40.2 29 2 84) (fun m41 =>
        lt (wI m41 28 1 2) (fun m42 =>
        some (m42))))
      else
        none
set_option maxRecDepth 20000 in
set_option maxHeartbeats 4000000 in
theorem lb_X9_dropOldest_9 (hfl : g.1.stackTraces = false) (hS : pS 0 138 S) {s : Int32 × me} {r : (Int32 × me) ⊕ (Int32 × me)} (h : b_X9_dropOldest_9 s = some r) (hN : ∀ s', r = .inl s' → (fun z9 : Int32 × me => pm_G g mX9_dropOldest X 9 [some (.ref 28), some (.ref 30), some (.int z9.1)] [] (en S z9.2) 0 0) s') (hT : ∀ t, r = .inr t → (fun z9 : Int32 × me => pm_G g mX9_dropOldest X 34 [some (.ref 28), some (.ref 30), some (.int z9.1)] [] (en S z9.2) 0 0) t) : (fun z9 : Int32 × me => pm_G g mX9_dropOldest X 9 [some (.ref 28), some (.ref 30), some (.int z9.1)] [] (en S z9.2) 0 0) s := by
  unfold b_X9_dropOldest_9 at h
  show pm_G g mX9_dropOldest X 9 [some (.ref 28), some (.ref 30), some (.int s.1)] [] (en S s.2) 0 0
  refine pg_iload_n dX9_dropOldest_9 rfl ?_
  refine pg_iconst 3 dX9_dropOldest_10 rfl ?_
  refine pg_icmp_ge 34 dX9_dropOldest_11 (by decide) (fun c2 => ?_) (fun c2 => ?_)
  · rw [if_pos c2] at h
    obtain rfl := Option.some.inj h
    exact hT _ rfl
  · rw [if_neg c2] at h
    refine pg_aload_n dX9_dropOldest_14 rfl ?_
    refine eg_get dX9_dropOldest_15 fa_X9_11 hS sp28 (Nat.le_of_ble_eq_true rfl) (Nat.le_of_ble_eq_true rfl) rfl rfl ?_
    refine pg_iload_n dX9_dropOldest_18 rfl ?_
    refine pg_iconst 1 dX9_dropOldest_19 rfl ?_
    refine pg_isub dX9_dropOldest_20 ?_
    refine pg_aload_n dX9_dropOldest_21 rfl ?_
    refine eg_get dX9_dropOldest_22 fa_X9_11 hS sp28 (Nat.le_of_ble_eq_true rfl) (Nat.le_of_ble_eq_true rfl) rfl rfl ?_
    refine pg_iload_n dX9_dropOldest_25 rfl ?_
    obtain ⟨g1, h⟩ := gd_at h
    by_cases c3 : s.2.2.2 29 s.1.toNatClampNeg = some 30
    · rw [if_pos c3] at h
      refine eg_aaldJ s.1.toNatClampNeg dX9_dropOldest_26 hS sp29 (Nat.le_of_ble_eq_true rfl) (Nat.le_of_ble_eq_true rfl) rfl (inR_vp g1) rfl c3 ?_
      obtain ⟨g1, h⟩ := gd_at h
      refine eg_aastJ ((s.1 - 1).toNatClampNeg) dX9_dropOldest_27 hS sp29 (Nat.le_of_ble_eq_true rfl) (Nat.le_of_ble_eq_true rfl) (fun _ _ _ => rfl) sp30 (Nat.le_of_ble_eq_true rfl) (Nat.le_of_ble_eq_true rfl) rfl (inR_vp g1) rfl (fun m4 e_m4 => ?_)
      replace h := lt_at h e_m4
      obtain ⟨w5, e_w5⟩ : ∃ z : Int32, z = s.1 + 1 := ⟨_, rfl⟩
      replace h := lt_at h e_w5
      refine eg_iinc [some (.ref 28), some (.ref 30), some (.int w5)] w5 1 dX9_dropOldest_28 rfl rfl e_w5 rfl ?_
      refine pg_goto 9 dX9_dropOldest_31 (by decide) ?_
      obtain rfl := Option.some.inj h
      exact hN _ rfl
    · rw [if_neg c3] at h
      by_cases c6 : s.2.2.2 29 s.1.toNatClampNeg = some 57
      · rw [if_pos c6] at h
        refine eg_aaldJ s.1.toNatClampNeg dX9_dropOldest_26 hS sp29 (Nat.le_of_ble_eq_true rfl) (Nat.le_of_ble_eq_true rfl) rfl (inR_vp g1) rfl c6 ?_
        obtain ⟨g1, h⟩ := gd_at h
        refine eg_aastJ ((s.1 - 1).toNatClampNeg) dX9_dropOldest_27 hS sp29 (Nat.le_of_ble_eq_true rfl) (Nat.le_of_ble_eq_true rfl) (fun _ _ _ => rfl) sp57 (Nat.le_of_ble_eq_true rfl) (Nat.le_of_ble_eq_true rfl) rfl (inR_vp g1) rfl (fun m7 e_m7 => ?_)
        replace h := lt_at h e_m7
        obtain ⟨w8, e_w8⟩ : ∃ z : Int32, z = s.1 + 1 := ⟨_, rfl⟩
        replace h := lt_at h e_w8
        refine eg_iinc [some (.ref 28), some (.ref 30), some (.int w8)] w8 1 dX9_dropOldest_28 rfl rfl e_w8 rfl ?_
        refine pg_goto 9 dX9_dropOldest_31 (by decide) ?_
        obtain rfl := Option.some.inj h
        exact hN _ rfl
      · rw [if_neg c6] at h
        by_cases c9 : s.2.2.2 29 s.1.toNatClampNeg = some 84
        · rw [if_pos c9] at h
          refine eg_aaldJ s.1.toNatClampNeg dX9_dropOldest_26 hS sp29 (Nat.le_of_ble_eq_true rfl) (Nat.le_of_ble_eq_true rfl) rfl (inR_vp g1) rfl c9 ?_
          obtain ⟨g1, h⟩ := gd_at h
          refine eg_aastJ ((s.1 - 1).toNatClampNeg) dX9_dropOldest_27 hS sp29 (Nat.le_of_ble_eq_true rfl) (Nat.le_of_ble_eq_true rfl) (fun _ _ _ => rfl) sp84 (Nat.le_of_ble_eq_true rfl) (Nat.le_of_ble_eq_true rfl) rfl (inR_vp g1) rfl (fun m10 e_m10 => ?_)
          replace h := lt_at h e_m10
          obtain ⟨w11, e_w11⟩ : ∃ z : Int32, z = s.1 + 1 := ⟨_, rfl⟩
          replace h := lt_at h e_w11
          refine eg_iinc [some (.ref 28), some (.ref 30), some (.int w11)] w11 1 dX9_dropOldest_28 rfl rfl e_w11 rfl ?_
          refine pg_goto 9 dX9_dropOldest_31 (by decide) ?_
          obtain rfl := Option.some.inj h
          exact hN _ rfl
        · rw [if_neg c9] at h
          cases h
set_option maxRecDepth 20000 in
set_option maxHeartbeats 4000000 in
theorem lb_X9_dropOldest_9_1 (hfl : g.1.stackTraces = false) (hS : pS 0 138 S) {s : Int32 × me} {r : (Int32 × me) ⊕ (Int32 × me)} (h : b_X9_dropOldest_9_1 s = some r) (hN : ∀ s', r = .inl s' → (fun z9 : Int32 × me => pm_G g mX9_dropOldest X 9 [some (.ref 28), some (.ref 57), some (.int z9.1)] [] (en S z9.2) 0 0) s') (hT : ∀ t, r = .inr t → (fun z9 : Int32 × me => pm_G g mX9_dropOldest X 34 [some (.ref 28), some (.ref 57), some (.int z9.1)] [] (en S z9.2) 0 0) t) : (fun z9 : Int32 × me => pm_G g mX9_dropOldest X 9 [some (.ref 28), some (.ref 57), some (.int z9.1)] [] (en S z9.2) 0 0) s := by
  unfold b_X9_dropOldest_9_1 at h
  show pm_G g mX9_dropOldest X 9 [some (.ref 28), some (.ref 57), some (.int s.1)] [] (en S s.2) 0 0
  refine pg_iload_n dX9_dropOldest_9 rfl ?_
  refine pg_iconst 3 dX9_dropOldest_10 rfl ?_
  refine pg_icmp_ge 34 dX9_dropOldest_11 (by decide) (fun c16 => ?_) (fun c16 => ?_)
  · rw [if_pos c16] at h
    obtain rfl := Option.some.inj h
    exact hT _ rfl
  · rw [if_neg c16] at h
    refine pg_aload_n dX9_dropOldest_14 rfl ?_
    refine eg_get dX9_dropOldest_15 fa_X9_11 hS sp28 (Nat.le_of_ble_eq_true rfl) (Nat.le_of_ble_eq_true rfl) rfl rfl ?_
    refine pg_iload_n dX9_dropOldest_18 rfl ?_
    refine pg_iconst 1 dX9_dropOldest_19 rfl ?_
    refine pg_isub dX9_dropOldest_20 ?_
    refine pg_aload_n dX9_dropOldest_21 rfl ?_
    refine eg_get dX9_dropOldest_22 fa_X9_11 hS sp28 (Nat.le_of_ble_eq_true rfl) (Nat.le_of_ble_eq_true rfl) rfl rfl ?_
    refine pg_iload_n dX9_dropOldest_25 rfl ?_
    obtain ⟨g1, h⟩ := gd_at h
    by_cases c17 : s.2.2.2 29 s.1.toNatClampNeg = some 30
    · rw [if_pos c17] at h
      refine eg_aaldJ s.1.toNatClampNeg dX9_dropOldest_26 hS sp29 (Nat.le_of_ble_eq_true rfl) (Nat.le_of_ble_eq_true rfl) rfl (inR_vp g1) rfl c17 ?_
      obtain ⟨g1, h⟩ := gd_at h
      refine eg_aastJ ((s.1 - 1).toNatClampNeg) dX9_dropOldest_27 hS sp29 (Nat.le_of_ble_eq_true rfl) (Nat.le_of_ble_eq_true rfl) (fun _ _ _ => rfl) sp30 (Nat.le_of_ble_eq_true rfl) (Nat.le_of_ble_eq_true rfl) rfl (inR_vp g1) rfl (fun m18 e_m18 => ?_)
      replace h := lt_at h e_m18
      obtain ⟨w19, e_w19⟩ : ∃ z : Int32, z = s.1 + 1 := ⟨_, rfl⟩
      replace h := lt_at h e_w19
      refine eg_iinc [some (.ref 28), some (.ref 57), some (.int w19)] w19 1 dX9_dropOldest_28 rfl rfl e_w19 rfl ?_
      refine pg_goto 9 dX9_dropOldest_31 (by decide) ?_
      obtain rfl := Option.some.inj h
      exact hN _ rfl
    · rw [if_neg c17] at h
      by_cases c20 : s.2.2.2 29 s.1.toNatClampNeg = some 57
      · rw [if_pos c20] at h
        refine eg_aaldJ s.1.toNatClampNeg dX9_dropOldest_26 hS sp29 (Nat.le_of_ble_eq_true rfl) (Nat.le_of_ble_eq_true rfl) rfl (inR_vp g1) rfl c20 ?_
        obtain ⟨g1, h⟩ := gd_at h
        refine eg_aastJ ((s.1 - 1).toNatClampNeg) dX9_dropOldest_27 hS sp29 (Nat.le_of_ble_eq_true rfl) (Nat.le_of_ble_eq_true rfl) (fun _ _ _ => rfl) sp57 (Nat.le_of_ble_eq_true rfl) (Nat.le_of_ble_eq_true rfl) rfl (inR_vp g1) rfl (fun m21 e_m21 => ?_)
        replace h := lt_at h e_m21
        obtain ⟨w22, e_w22⟩ : ∃ z : Int32, z = s.1 + 1 := ⟨_, rfl⟩
        replace h := lt_at h e_w22
        refine eg_iinc [some (.ref 28), some (.ref 57), some (.int w22)] w22 1 dX9_dropOldest_28 rfl rfl e_w22 rfl ?_
        refine pg_goto 9 dX9_dropOldest_31 (by decide) ?_
        obtain rfl := Option.some.inj h
        exact hN _ rfl
      · rw [if_neg c20] at h
        by_cases c23 : s.2.2.2 29 s.1.toNatClampNeg = some 84
        · rw [if_pos c23] at h
          refine eg_aaldJ s.1.toNatClampNeg dX9_dropOldest_26 hS sp29 (Nat.le_of_ble_eq_true rfl) (Nat.le_of_ble_eq_true rfl) rfl (inR_vp g1) rfl c23 ?_
          obtain ⟨g1, h⟩ := gd_at h
          refine eg_aastJ ((s.1 - 1).toNatClampNeg) dX9_dropOldest_27 hS sp29 (Nat.le_of_ble_eq_true rfl) (Nat.le_of_ble_eq_true rfl) (fun _ _ _ => rfl) sp84 (Nat.le_of_ble_eq_true rfl) (Nat.le_of_ble_eq_true rfl) rfl (inR_vp g1) rfl (fun m24 e_m24 => ?_)
          replace h := lt_at h e_m24
          obtain ⟨w25, e_w25⟩ : ∃ z : Int32, z = s.1 + 1 := ⟨_, rfl⟩
          replace h := lt_at h e_w25
          refine eg_iinc [some (.ref 28), some (.ref 57), some (.int w25)] w25 1 dX9_dropOldest_28 rfl rfl e_w25 rfl ?_
          refine pg_goto 9 dX9_dropOldest_31 (by decide) ?_
          obtain rfl := Option.some.inj h
          exact hN _ rfl
        · rw [if_neg c23] at h
          cases h
set_option maxRecDepth 20000 in
set_option maxHeartbeats 4000000 in
theorem lb_X9_dropOldest_9_2 (hfl : g.1.stackTraces = false) (hS : pS 0 138 S) {s : Int32 × me} {r : (Int32 × me) ⊕ (Int32 × me)} (h : b_X9_dropOldest_9_2 s = some r) (hN : ∀ s', r = .inl s' → (fun z9 : Int32 × me => pm_G g mX9_dropOldest X 9 [some (.ref 28), some (.ref 84), some (.int z9.1)] [] (en S z9.2) 0 0) s') (hT : ∀ t, r = .inr t → (fun z9 : Int32 × me => pm_G g mX9_dropOldest X 34 [some (.ref 28), some (.ref 84), some (.int z9.1)] [] (en S z9.2) 0 0) t) : (fun z9 : Int32 × me => pm_G g mX9_dropOldest X 9 [some (.ref 28), some (.ref 84), some (.int z9.1)] [] (en S z9.2) 0 0) s := by
  unfold b_X9_dropOldest_9_2 at h
  show pm_G g mX9_dropOldest X 9 [some (.ref 28), some (.ref 84), some (.int s.1)] [] (en S s.2) 0 0
  refine pg_iload_n dX9_dropOldest_9 rfl ?_
  refine pg_iconst 3 dX9_dropOldest_10 rfl ?_
  refine pg_icmp_ge 34 dX9_dropOldest_11 (by decide) (fun c30 => ?_) (fun c30 => ?_)
  · rw [if_pos c30] at h
    obtain rfl := Option.some.inj h
    exact hT _ rfl
  · rw [if_neg c30] at h
    refine pg_aload_n dX9_dropOldest_14 rfl ?_
    refine eg_get dX9_dropOldest_15 fa_X9_11 hS sp28 (Nat.le_of_ble_eq_true rfl) (Nat.le_of_ble_eq_true rfl) rfl rfl ?_
    refine pg_iload_n dX9_dropOldest_18 rfl ?_
    refine pg_iconst 1 dX9_dropOldest_19 rfl ?_
    refine pg_isub dX9_dropOldest_20 ?_
    refine pg_aload_n dX9_dropOldest_21 rfl ?_
    refine eg_get dX9_dropOldest_22 fa_X9_11 hS sp28 (Nat.le_of_ble_eq_true rfl) (Nat.le_of_ble_eq_true rfl) rfl rfl ?_
    refine pg_iload_n dX9_dropOldest_25 rfl ?_
    obtain ⟨g1, h⟩ := gd_at h
    by_cases c31 : s.2.2.2 29 s.1.toNatClampNeg = some 30
    · rw [if_pos c31] at h
      refine eg_aaldJ s.1.toNatClampNeg dX9_dropOldest_26 hS sp29 (Nat.le_of_ble_eq_true rfl) (Nat.le_of_ble_eq_true rfl) rfl (inR_vp g1) rfl c31 ?_
      obtain ⟨g1, h⟩ := gd_at h
      refine eg_aastJ ((s.1 - 1).toNatClampNeg) dX9_dropOldest_27 hS sp29 (Nat.le_of_ble_eq_true rfl) (Nat.le_of_ble_eq_true rfl) (fun _ _ _ => rfl) sp30 (Nat.le_of_ble_eq_true rfl) (Nat.le_of_ble_eq_true rfl) rfl (inR_vp g1) rfl (fun m32 e_m32 => ?_)
      replace h := lt_at h e_m32
      obtain ⟨w33, e_w33⟩ : ∃ z : Int32, z = s.1 + 1 := ⟨_, rfl⟩
      replace h := lt_at h e_w33
      refine eg_iinc [some (.ref 28), some (.ref 84), some (.int w33)] w33 1 dX9_dropOldest_28 rfl rfl e_w33 rfl ?_
      refine pg_goto 9 dX9_dropOldest_31 (by decide) ?_
      obtain rfl := Option.some.inj h
      exact hN _ rfl
    · rw [if_neg c31] at h
      by_cases c34 : s.2.2.2 29 s.1.toNatClampNeg = some 57
      · rw [if_pos c34] at h
        refine eg_aaldJ s.1.toNatClampNeg dX9_dropOldest_26 hS sp29 (Nat.le_of_ble_eq_true rfl) (Nat.le_of_ble_eq_true rfl) rfl (inR_vp g1) rfl c34 ?_
        obtain ⟨g1, h⟩ := gd_at h
        refine eg_aastJ ((s.1 - 1).toNatClampNeg) dX9_dropOldest_27 hS sp29 (Nat.le_of_ble_eq_true rfl) (Nat.le_of_ble_eq_true rfl) (fun _ _ _ => rfl) sp57 (Nat.le_of_ble_eq_true rfl) (Nat.le_of_ble_eq_true rfl) rfl (inR_vp g1) rfl (fun m35 e_m35 => ?_)
        replace h := lt_at h e_m35
        obtain ⟨w36, e_w36⟩ : ∃ z : Int32, z = s.1 + 1 := ⟨_, rfl⟩
        replace h := lt_at h e_w36
        refine eg_iinc [some (.ref 28), some (.ref 84), some (.int w36)] w36 1 dX9_dropOldest_28 rfl rfl e_w36 rfl ?_
        refine pg_goto 9 dX9_dropOldest_31 (by decide) ?_
        obtain rfl := Option.some.inj h
        exact hN _ rfl
      · rw [if_neg c34] at h
        by_cases c37 : s.2.2.2 29 s.1.toNatClampNeg = some 84
        · rw [if_pos c37] at h
          refine eg_aaldJ s.1.toNatClampNeg dX9_dropOldest_26 hS sp29 (Nat.le_of_ble_eq_true rfl) (Nat.le_of_ble_eq_true rfl) rfl (inR_vp g1) rfl c37 ?_
          obtain ⟨g1, h⟩ := gd_at h
          refine eg_aastJ ((s.1 - 1).toNatClampNeg) dX9_dropOldest_27 hS sp29 (Nat.le_of_ble_eq_true rfl) (Nat.le_of_ble_eq_true rfl) (fun _ _ _ => rfl) sp84 (Nat.le_of_ble_eq_true rfl) (Nat.le_of_ble_eq_true rfl) rfl (inR_vp g1) rfl (fun m38 e_m38 => ?_)
          replace h := lt_at h e_m38
          obtain ⟨w39, e_w39⟩ : ∃ z : Int32, z = s.1 + 1 := ⟨_, rfl⟩
          replace h := lt_at h e_w39
          refine eg_iinc [some (.ref 28), some (.ref 84), some (.int w39)] w39 1 dX9_dropOldest_28 rfl rfl e_w39 rfl ?_
          refine pg_goto 9 dX9_dropOldest_31 (by decide) ?_
          obtain rfl := Option.some.inj h
          exact hN _ rfl
        · rw [if_neg c37] at h
          cases h
set_option maxRecDepth 20000 in
set_option maxHeartbeats 4000000 in
theorem ct_X9_dropOldest (hfl : g.1.stackTraces = false) (hS : pS 0 138 S) {m0 : me} {x : me} (h : f_X9_dropOldest m0 = some x) : pm_Ct g mX9_dropOldest [.ref 28] (en S m0) 0 0 (qV S x) qF := by
  refine pm_of (by decide +kernel) rfl hfl (Nat.le_of_ble_eq_true rfl) (fun X hE => ?_)
  show pm_G g mX9_dropOldest X 0 [some (.ref 28), none, none] [] (en S m0) 0 0
  unfold f_X9_dropOldest at h
  refine pg_aload_n dX9_dropOldest_0 rfl ?_
  refine eg_get dX9_dropOldest_1 fa_X9_11 hS sp28 (Nat.le_of_ble_eq_true rfl) (Nat.le_of_ble_eq_true rfl) rfl rfl ?_
  refine pg_iconst 0 dX9_dropOldest_4 rfl ?_
  by_cases c1 : m0.2.2 29 0 = some 30
  · rw [if_pos c1] at h
    refine eg_aaldJ 0 dX9_dropOldest_5 hS sp29 (Nat.le_of_ble_eq_true rfl) (Nat.le_of_ble_eq_true rfl) rfl (inR_vp rfl) rfl c1 ?_
    refine eg_astore_n [some (.ref 28), some (.ref 30), none] dX9_dropOldest_6 (Nat.le_of_ble_eq_true rfl) rfl ?_
    refine pg_iconst 1 dX9_dropOldest_7 rfl ?_
    refine eg_istore_n [some (.ref 28), some (.ref 30), some (.int 1)] 1 dX9_dropOldest_8 rfl (Nat.le_of_ble_eq_true rfl) rfl ?_
    obtain ⟨s12, h_s12, h⟩ := bd_at h
    refine lo_at (b := b_X9_dropOldest_9) (G := (fun z9 : Int32 × me => pm_G g mX9_dropOldest X 9 [some (.ref 28), some (.ref 30), some (.int z9.1)] [] (en S z9.2) 0 0)) (T := (fun z9 : Int32 × me => pm_G g mX9_dropOldest X 34 [some (.ref 28), some (.ref 30), some (.int z9.1)] [] (en S z9.2) 0 0)) (fun q9 r9 h1 h2 h3 => lb_X9_dropOldest_9 hfl hS h1 h2 h3) 2048 (1, m0) s12 h_s12 ?_
    show pm_G g mX9_dropOldest X 34 [some (.ref 28), some (.ref 30), some (.int s12.1)] [] (en S s12.2) 0 0
    refine pg_aload_n dX9_dropOldest_34 rfl ?_
    refine eg_get dX9_dropOldest_35 fa_X9_11 hS sp28 (Nat.le_of_ble_eq_true rfl) (Nat.le_of_ble_eq_true rfl) rfl rfl ?_
    refine pg_iconst 2 dX9_dropOldest_38 rfl ?_
    refine pg_aload_n dX9_dropOldest_39 rfl ?_
    refine eg_aastJ 2 dX9_dropOldest_40 hS sp29 (Nat.le_of_ble_eq_true rfl) (Nat.le_of_ble_eq_true rfl) (fun _ _ _ => rfl) sp30 (Nat.le_of_ble_eq_true rfl) (Nat.le_of_ble_eq_true rfl) rfl (inR_vp rfl) rfl (fun m13 e_m13 => ?_)
    replace h := lt_at h e_m13
    refine pg_aload_n dX9_dropOldest_41 rfl ?_
    refine pg_iconst 2 dX9_dropOldest_42 rfl ?_
    refine eg_put dX9_dropOldest_43 fa_X9_16 hS sp28 (Nat.le_of_ble_eq_true rfl) (Nat.le_of_ble_eq_true rfl) rfl (Nat.le_of_ble_eq_true rfl) rfl (fun m14 e_m14 => ?_)
    replace h := lt_at h e_m14
    obtain rfl := Option.some.inj h
    exact hE.2.2.1 _ _ _ _ _ dX9_dropOldest_46 rfl (Nat.zero_le _) (Nat.zero_le _) ⟨rfl, rfl⟩
  · rw [if_neg c1] at h
    by_cases c15 : m0.2.2 29 0 = some 57
    · rw [if_pos c15] at h
      refine eg_aaldJ 0 dX9_dropOldest_5 hS sp29 (Nat.le_of_ble_eq_true rfl) (Nat.le_of_ble_eq_true rfl) rfl (inR_vp rfl) rfl c15 ?_
      refine eg_astore_n [some (.ref 28), some (.ref 57), none] dX9_dropOldest_6 (Nat.le_of_ble_eq_true rfl) rfl ?_
      refine pg_iconst 1 dX9_dropOldest_7 rfl ?_
      refine eg_istore_n [some (.ref 28), some (.ref 57), some (.int 1)] 1 dX9_dropOldest_8 rfl (Nat.le_of_ble_eq_true rfl) rfl ?_
      obtain ⟨s26, h_s26, h⟩ := bd_at h
      refine lo_at (b := b_X9_dropOldest_9_1) (G := (fun z9 : Int32 × me => pm_G g mX9_dropOldest X 9 [some (.ref 28), some (.ref 57), some (.int z9.1)] [] (en S z9.2) 0 0)) (T := (fun z9 : Int32 × me => pm_G g mX9_dropOldest X 34 [some (.ref 28), some (.ref 57), some (.int z9.1)] [] (en S z9.2) 0 0)) (fun q9 r9 h1 h2 h3 => lb_X9_dropOldest_9_1 hfl hS h1 h2 h3) 2048 (1, m0) s26 h_s26 ?_
      show pm_G g mX9_dropOldest X 34 [some (.ref 28), some (.ref 57), some (.int s26.1)] [] (en S s26.2) 0 0
      refine pg_aload_n dX9_dropOldest_34 rfl ?_
      refine eg_get dX9_dropOldest_35 fa_X9_11 hS sp28 (Nat.le_of_ble_eq_true rfl) (Nat.le_of_ble_eq_true rfl) rfl rfl ?_
      refine pg_iconst 2 dX9_dropOldest_38 rfl ?_
      refine pg_aload_n dX9_dropOldest_39 rfl ?_
      refine eg_aastJ 2 dX9_dropOldest_40 hS sp29 (Nat.le_of_ble_eq_true rfl) (Nat.le_of_ble_eq_true rfl) (fun _ _ _ => rfl) sp57 (Nat.le_of_ble_eq_true rfl) (Nat.le_of_ble_eq_true rfl) rfl (inR_vp rfl) rfl (fun m27 e_m27 => ?_)
      replace h := lt_at h e_m27
      refine pg_aload_n dX9_dropOldest_41 rfl ?_
      refine pg_iconst 2 dX9_dropOldest_42 rfl ?_
      refine eg_put dX9_dropOldest_43 fa_X9_16 hS sp28 (Nat.le_of_ble_eq_true rfl) (Nat.le_of_ble_eq_true rfl) rfl (Nat.le_of_ble_eq_true rfl) rfl (fun m28 e_m28 => ?_)
      replace h := lt_at h e_m28
      obtain rfl := Option.some.inj h
      exact hE.2.2.1 _ _ _ _ _ dX9_dropOldest_46 rfl (Nat.zero_le _) (Nat.zero_le _) ⟨rfl, rfl⟩
    · rw [if_neg c15] at h
      by_cases c29 : m0.2.2 29 0 = some 84
      · rw [if_pos c29] at h
        refine eg_aaldJ 0 dX9_dropOldest_5 hS sp29 (Nat.le_of_ble_eq_true rfl) (Nat.le_of_ble_eq_true rfl) rfl (inR_vp rfl) rfl c29 ?_
        refine eg_astore_n [some (.ref 28), some (.ref 84), none] dX9_dropOldest_6 (Nat.le_of_ble_eq_true rfl) rfl ?_
        refine pg_iconst 1 dX9_dropOldest_7 rfl ?_
        refine eg_istore_n [some (.ref 28), some (.ref 84), some (.int 1)] 1 dX9_dropOldest_8 rfl (Nat.le_of_ble_eq_true rfl) rfl ?_
        obtain ⟨s40, h_s40, h⟩ := bd_at h
        refine lo_at (b := b_X9_dropOldest_9_2) (G := (fun z9 : Int32 × me => pm_G g mX9_dropOldest X 9 [some (.ref 28), some (.ref 84), some (.int z9.1)] [] (en S z9.2) 0 0)) (T := (fun z9 : Int32 × me => pm_G g mX9_dropOldest X 34 [some (.ref 28), some (.ref 84), some (.int z9.1)] [] (en S z9.2) 0 0)) (fun q9 r9 h1 h2 h3 => lb_X9_dropOldest_9_2 hfl hS h1 h2 h3) 2048 (1, m0) s40 h_s40 ?_
        show pm_G g mX9_dropOldest X 34 [some (.ref 28), some (.ref 84), some (.int s40.1)] [] (en S s40.2) 0 0
        refine pg_aload_n dX9_dropOldest_34 rfl ?_
        refine eg_get dX9_dropOldest_35 fa_X9_11 hS sp28 (Nat.le_of_ble_eq_true rfl) (Nat.le_of_ble_eq_true rfl) rfl rfl ?_
        refine pg_iconst 2 dX9_dropOldest_38 rfl ?_
        refine pg_aload_n dX9_dropOldest_39 rfl ?_
        refine eg_aastJ 2 dX9_dropOldest_40 hS sp29 (Nat.le_of_ble_eq_true rfl) (Nat.le_of_ble_eq_true rfl) (fun _ _ _ => rfl) sp84 (Nat.le_of_ble_eq_true rfl) (Nat.le_of_ble_eq_true rfl) rfl (inR_vp rfl) rfl (fun m41 e_m41 => ?_)
        replace h := lt_at h e_m41
        refine pg_aload_n dX9_dropOldest_41 rfl ?_
        refine pg_iconst 2 dX9_dropOldest_42 rfl ?_
        refine eg_put dX9_dropOldest_43 fa_X9_16 hS sp28 (Nat.le_of_ble_eq_true rfl) (Nat.le_of_ble_eq_true rfl) rfl (Nat.le_of_ble_eq_true rfl) rfl (fun m42 e_m42 => ?_)
        replace h := lt_at h e_m42
        obtain rfl := Option.some.inj h
        exact hE.2.2.1 _ _ _ _ _ dX9_dropOldest_46 rfl (Nat.zero_le _) (Nat.zero_le _) ⟨rfl, rfl⟩
      · rw [if_neg c29] at h
        cases h
def j_X9_save_12 (m0 : me) : Option me :=
  gd (inR (m0.1 28 1) 3) (
  if m0.2.2 29 ((m0.1 28 1).toNatClampNeg) = some 30 then
    bd (f_X4_copyFrom_30_1 m0) (fun r3 =>
    lt (wI r3 28 1 ((r3.1 28 1) + 1)) (fun m4 =>
    some (m4)))
  else
    if m0.2.2 29 ((m0.1 28 1).toNatClampNeg) = some 57 then
      bd (f_X4_copyFrom_57_1 m0) (fun r6 =>
      lt (wI r6 28 1 ((r6.1 28 1) + 1)) (fun m7 =>
      some (m7)))
    else
      if m0.2.2 29 ((m0.1 28 1).toNatClampNeg) = some 84 then
        bd (f_X4_copyFrom_84_1 m0) (fun r9 =>
        lt (wI r9 28 1 ((r9.1 28 1) + 1)) (fun m10 =>
        some (m10)))
      else
        none)
def f_X9_save (m0 : me) : Option me :=
  if (m0.1 28 1) < 3 then
    j_X9_save_12 m0
  else
    bd (f_X9_dropOldest m0) (fun r11 =>
    j_X9_save_12 r11)
set_option maxRecDepth 20000 in
set_option maxHeartbeats 4000000 in
theorem lj_X9_save_12 (hfl : g.1.stackTraces = false) (hS : pS 0 138 S) {m0 : me} {r : me} (h : j_X9_save_12 m0 = some r) (hE : pm_End g mX9_save X 0 0 (qV S r) qF) : pm_G g mX9_save X 12 [some (.ref 28), some (.ref 1)] [] (en S m0) 0 0 := by
  unfold j_X9_save_12 at h
  refine pg_aload_n dX9_save_12 rfl ?_
  refine eg_get dX9_save_13 fa_X9_11 hS sp28 (Nat.le_of_ble_eq_true rfl) (Nat.le_of_ble_eq_true rfl) rfl rfl ?_
  refine pg_aload_n dX9_save_16 rfl ?_
  refine eg_get dX9_save_17 fa_X9_16 hS sp28 (Nat.le_of_ble_eq_true rfl) (Nat.le_of_ble_eq_true rfl) rfl rfl ?_
  obtain ⟨g1, h⟩ := gd_at h
  by_cases c2 : m0.2.2 29 ((m0.1 28 1).toNatClampNeg) = some 30
  · rw [if_pos c2] at h
    refine eg_aaldJ ((m0.1 28 1).toNatClampNeg) dX9_save_20 hS sp29 (Nat.le_of_ble_eq_true rfl) (Nat.le_of_ble_eq_true rfl) rfl (inR_vp g1) rfl c2 ?_
    refine pg_aload_n dX9_save_21 rfl ?_
    obtain ⟨r3, h_r3, h⟩ := bd_at h
    refine eg_cVv (C := mX4_copyFrom) (as := [(.ref 1)]) dX9_save_22 mw286 cv_X4_copyFrom hS sp30 (Nat.le_of_ble_eq_true rfl) (Nat.le_of_ble_eq_true rfl) rfl rfl rfl (Nat.le_of_ble_eq_true rfl) rfl ⟨(Nat.le_of_ble_eq_true rfl), (Nat.le_of_ble_eq_true rfl)⟩ (ct_X4_copyFrom_30_1 hfl (hS.sub (Nat.le_of_ble_eq_true rfl) (Nat.le_of_ble_eq_true rfl)) h_r3) ?_
    refine pg_aload_n dX9_save_25 rfl ?_
    refine pg_dup dX9_save_26 rfl ?_
    refine eg_get dX9_save_27 fa_X9_16 hS sp28 (Nat.le_of_ble_eq_true rfl) (Nat.le_of_ble_eq_true rfl) rfl rfl ?_
    refine pg_iconst 1 dX9_save_30 rfl ?_
    refine pg_iadd dX9_save_31 ?_
    refine eg_put dX9_save_32 fa_X9_16 hS sp28 (Nat.le_of_ble_eq_true rfl) (Nat.le_of_ble_eq_true rfl) rfl (Nat.le_of_ble_eq_true rfl) rfl (fun m4 e_m4 => ?_)
    replace h := lt_at h e_m4
    obtain rfl := Option.some.inj h
    exact hE.2.2.1 _ _ _ _ _ dX9_save_35 rfl (Nat.zero_le _) (Nat.zero_le _) ⟨rfl, rfl⟩
  · rw [if_neg c2] at h
    by_cases c5 : m0.2.2 29 ((m0.1 28 1).toNatClampNeg) = some 57
    · rw [if_pos c5] at h
      refine eg_aaldJ ((m0.1 28 1).toNatClampNeg) dX9_save_20 hS sp29 (Nat.le_of_ble_eq_true rfl) (Nat.le_of_ble_eq_true rfl) rfl (inR_vp g1) rfl c5 ?_
      refine pg_aload_n dX9_save_21 rfl ?_
      obtain ⟨r6, h_r6, h⟩ := bd_at h
      refine eg_cVv (C := mX4_copyFrom) (as := [(.ref 1)]) dX9_save_22 mw286 cv_X4_copyFrom hS sp57 (Nat.le_of_ble_eq_true rfl) (Nat.le_of_ble_eq_true rfl) rfl rfl rfl (Nat.le_of_ble_eq_true rfl) rfl ⟨(Nat.le_of_ble_eq_true rfl), (Nat.le_of_ble_eq_true rfl)⟩ (ct_X4_copyFrom_57_1 hfl (hS.sub (Nat.le_of_ble_eq_true rfl) (Nat.le_of_ble_eq_true rfl)) h_r6) ?_
      refine pg_aload_n dX9_save_25 rfl ?_
      refine pg_dup dX9_save_26 rfl ?_
      refine eg_get dX9_save_27 fa_X9_16 hS sp28 (Nat.le_of_ble_eq_true rfl) (Nat.le_of_ble_eq_true rfl) rfl rfl ?_
      refine pg_iconst 1 dX9_save_30 rfl ?_
      refine pg_iadd dX9_save_31 ?_
      refine eg_put dX9_save_32 fa_X9_16 hS sp28 (Nat.le_of_ble_eq_true rfl) (Nat.le_of_ble_eq_true rfl) rfl (Nat.le_of_ble_eq_true rfl) rfl (fun m7 e_m7 => ?_)
      replace h := lt_at h e_m7
      obtain rfl := Option.some.inj h
      exact hE.2.2.1 _ _ _ _ _ dX9_save_35 rfl (Nat.zero_le _) (Nat.zero_le _) ⟨rfl, rfl⟩
    · rw [if_neg c5] at h
      by_cases c8 : m0.2.2 29 ((m0.1 28 1).toNatClampNeg) = some 84
      · rw [if_pos c8] at h
        refine eg_aaldJ ((m0.1 28 1).toNatClampNeg) dX9_save_20 hS sp29 (Nat.le_of_ble_eq_true rfl) (Nat.le_of_ble_eq_true rfl) rfl (inR_vp g1) rfl c8 ?_
        refine pg_aload_n dX9_save_21 rfl ?_
        obtain ⟨r9, h_r9, h⟩ := bd_at h
        refine eg_cVv (C := mX4_copyFrom) (as := [(.ref 1)]) dX9_save_22 mw286 cv_X4_copyFrom hS sp84 (Nat.le_of_ble_eq_true rfl) (Nat.le_of_ble_eq_true rfl) rfl rfl rfl (Nat.le_of_ble_eq_true rfl) rfl ⟨(Nat.le_of_ble_eq_true rfl), (Nat.le_of_ble_eq_true rfl)⟩ (ct_X4_copyFrom_84_1 hfl (hS.sub (Nat.le_of_ble_eq_true rfl) (Nat.le_of_ble_eq_true rfl)) h_r9) ?_
        refine pg_aload_n dX9_save_25 rfl ?_
        refine pg_dup dX9_save_26 rfl ?_
        refine eg_get dX9_save_27 fa_X9_16 hS sp28 (Nat.le_of_ble_eq_true rfl) (Nat.le_of_ble_eq_true rfl) rfl rfl ?_
        refine pg_iconst 1 dX9_save_30 rfl ?_
        refine pg_iadd dX9_save_31 ?_
        refine eg_put dX9_save_32 fa_X9_16 hS sp28 (Nat.le_of_ble_eq_true rfl) (Nat.le_of_ble_eq_true rfl) rfl (Nat.le_of_ble_eq_true rfl) rfl (fun m10 e_m10 => ?_)
        replace h := lt_at h e_m10
        obtain rfl := Option.some.inj h
        exact hE.2.2.1 _ _ _ _ _ dX9_save_35 rfl (Nat.zero_le _) (Nat.zero_le _) ⟨rfl, rfl⟩
      · rw [if_neg c8] at h
        cases h
set_option maxRecDepth 20000 in
set_option maxHeartbeats 4000000 in
theorem ct_X9_save (hfl : g.1.stackTraces = false) (hS : pS 0 138 S) {m0 : me} {x : me} (h : f_X9_save m0 = some x) : pm_Ct g mX9_save [.ref 28, .ref 1] (en S m0) 0 0 (qV S x) qF := by
  refine pm_of (by decide +kernel) rfl hfl (Nat.le_of_ble_eq_true rfl) (fun X hE => ?_)
  show pm_G g mX9_save X 0 [some (.ref 28), some (.ref 1)] [] (en S m0) 0 0
  unfold f_X9_save at h
  refine pg_aload_n dX9_save_0 rfl ?_
  refine eg_get dX9_save_1 fa_X9_16 hS sp28 (Nat.le_of_ble_eq_true rfl) (Nat.le_of_ble_eq_true rfl) rfl rfl ?_
  refine pg_iconst 3 dX9_save_4 rfl ?_
  refine pg_icmp_lt 12 dX9_save_5 (by decide) (fun c1 => ?_) (fun c1 => ?_)
  · rw [if_pos c1] at h
    exact lj_X9_save_12 hfl hS h hE
  · rw [if_neg c1] at h
    refine pg_aload_n dX9_save_8 rfl ?_
    obtain ⟨r11, h_r11, h⟩ := bd_at h
    refine eg_cVv (C := mX9_dropOldest) (as := []) dX9_save_9 mw281 cv_X9_dropOldest hS sp28 (Nat.le_of_ble_eq_true rfl) (Nat.le_of_ble_eq_true rfl) rfl rfl rfl (Nat.le_of_ble_eq_true rfl) rfl ⟨(Nat.le_of_ble_eq_true rfl), (Nat.le_of_ble_eq_true rfl)⟩ (ct_X9_dropOldest hfl (hS.sub (Nat.le_of_ble_eq_true rfl) (Nat.le_of_ble_eq_true rfl)) h_r11) ?_
    exact lj_X9_save_12 hfl hS h hE
def f_X11_isOutside (v0 : Int32) (v1 : Int32) (v2 : Int32) (m0 : me) : Option (Int32 × me) :=
  if v0 < v1 then
    some ((1, m0))
  else
    if v0 ≤ v2 then
      some ((0, m0))
    else
      some ((1, m0))
set_option maxRecDepth 20000 in
set_option maxHeartbeats 4000000 in
theorem ct_X11_isOutside (hfl : g.1.stackTraces = false) {v0 : Int32} {v1 : Int32} {v2 : Int32} {m0 : me} {x : (Int32 × me)} (h : f_X11_isOutside v0 v1 v2 m0 = some x) : pm_Ct g mX11_isOutside [.int v0, .int v1, .int v2] (en S m0) 0 0 (qI S x) qF := by
  refine pm_of (by decide +kernel) rfl hfl (Nat.le_of_ble_eq_true rfl) (fun X hE => ?_)
  show pm_G g mX11_isOutside X 0 [some (.int v0), some (.int v1), some (.int v2)] [] (en S m0) 0 0
  unfold f_X11_isOutside at h
  refine pg_iload_n dX11_isOutside_0 rfl ?_
  refine pg_iload_n dX11_isOutside_1 rfl ?_
  refine pg_icmp_lt 10 dX11_isOutside_2 (by decide) (fun c1 => ?_) (fun c1 => ?_)
  · rw [if_pos c1] at h
    refine pg_iconst 1 dX11_isOutside_10 rfl ?_
    refine pg_goto 15 dX11_isOutside_11 (by decide) ?_
    obtain rfl := Option.some.inj h
    exact hE.2.1 _ _ _ _ _ _ .boolean dX11_isOutside_15 rfl rfl (Nat.zero_le _) (Nat.zero_le _) ⟨rfl, rfl⟩
  · rw [if_neg c1] at h
    refine pg_iload_n dX11_isOutside_5 rfl ?_
    refine pg_iload_n dX11_isOutside_6 rfl ?_
    refine pg_icmp_le 14 dX11_isOutside_7 (by decide) (fun c2 => ?_) (fun c2 => ?_)
    · rw [if_pos c2] at h
      refine pg_iconst 0 dX11_isOutside_14 rfl ?_
      obtain rfl := Option.some.inj h
      exact hE.2.1 _ _ _ _ _ _ .boolean dX11_isOutside_15 rfl rfl (Nat.zero_le _) (Nat.zero_le _) ⟨rfl, rfl⟩
    · rw [if_neg c2] at h
      refine pg_iconst 1 dX11_isOutside_10 rfl ?_
      refine pg_goto 15 dX11_isOutside_11 (by decide) ?_
      obtain rfl := Option.some.inj h
      exact hE.2.1 _ _ _ _ _ _ .boolean dX11_isOutside_15 rfl rfl (Nat.zero_le _) (Nat.zero_le _) ⟨rfl, rfl⟩
def f_X4_faultOfNewLink (v1 : Int32) (v2 : Int32) (v3 : Int32) (m0 : me) : Option (Int32 × me) :=
  bd (f_X11_isOutside v1 0 ((m0.1 1 0) - 1) m0) (fun r1 =>
  if r1.1 = 0 then
    bd (f_X11_isOutside v2 0 ((r1.2.1 1 0) - 1) r1.2) (fun r3 =>
    if r3.1 = 0 then
      if v1 = v2 then
        some ((2, r3.2))
      else
        bd (f_X11_isOutside v3 1 100 r3.2) (fun r6 =>
        if r6.1 = 0 then
          if (r6.2.1 11 0) < 16 then
            some ((0, r6.2))
          else
            some ((3, r6.2))
        else
          some ((2, r6.2)))
    else
      some ((1, r3.2)))
  else
    some ((1, r1.2)))
set_option maxRecDepth 20000 in
set_option maxHeartbeats 4000000 in
theorem ct_X4_faultOfNewLink (hfl : g.1.stackTraces = false) (hS : pS 1 28 S) {v1 : Int32} {v2 : Int32} {v3 : Int32} {m0 : me} {x : (Int32 × me)} (h : f_X4_faultOfNewLink v1 v2 v3 m0 = some x) : pm_Ct g mX4_faultOfNewLink [.ref 1, .int v1, .int v2, .int v3] (en S m0) 0 0 (qI S x) qF := by
  refine pm_of (by decide +kernel) rfl hfl (Nat.le_of_ble_eq_true rfl) (fun X hE => ?_)
  show pm_G g mX4_faultOfNewLink X 0 [some (.ref 1), some (.int v1), some (.int v2), some (.int v3)] [] (en S m0) 0 0
  unfold f_X4_faultOfNewLink at h
  refine pg_iload_n dX4_faultOfNewLink_0 rfl ?_
  refine pg_iconst 0 dX4_faultOfNewLink_1 rfl ?_
  refine pg_aload_n dX4_faultOfNewLink_2 rfl ?_
  refine eg_get dX4_faultOfNewLink_3 fa_X4_42 hS sp1 (Nat.le_of_ble_eq_true rfl) (Nat.le_of_ble_eq_true rfl) rfl rfl ?_
  refine pg_iconst 1 dX4_faultOfNewLink_6 rfl ?_
  refine pg_isub dX4_faultOfNewLink_7 ?_
  obtain ⟨r1, h_r1, h⟩ := bd_at h
  refine eg_cNi (C := mX11_isOutside) (as := [(.int v1), (.int 0), (.int ((m0.1 1 0) - 1))]) dX4_faultOfNewLink_8 rfl rfl cs_X11_isOutside rfl rfl (Nat.le_of_ble_eq_true rfl) rfl ⟨(Nat.le_of_ble_eq_true rfl), (Nat.le_of_ble_eq_true rfl)⟩ (ct_X11_isOutside hfl h_r1) ?_
  refine pg_if_ne 28 dX4_faultOfNewLink_11 (by decide) (fun c2 => ?_) (fun c2 => ?_)
  · rw [if_neg c2] at h
    refine pg_iconst 1 dX4_faultOfNewLink_28 rfl ?_
    obtain rfl := Option.some.inj h
    exact hE.2.1 _ _ _ _ _ _ .int dX4_faultOfNewLink_29 rfl rfl (Nat.zero_le _) (Nat.zero_le _) ⟨rfl, rfl⟩
  · rw [if_pos c2] at h
    refine pg_iload_n dX4_faultOfNewLink_14 rfl ?_
    refine pg_iconst 0 dX4_faultOfNewLink_15 rfl ?_
    refine pg_aload_n dX4_faultOfNewLink_16 rfl ?_
    refine eg_get dX4_faultOfNewLink_17 fa_X4_42 hS sp1 (Nat.le_of_ble_eq_true rfl) (Nat.le_of_ble_eq_true rfl) rfl rfl ?_
    refine pg_iconst 1 dX4_faultOfNewLink_20 rfl ?_
    refine pg_isub dX4_faultOfNewLink_21 ?_
    obtain ⟨r3, h_r3, h⟩ := bd_at h
    refine eg_cNi (C := mX11_isOutside) (as := [(.int v2), (.int 0), (.int ((r1.2.1 1 0) - 1))]) dX4_faultOfNewLink_22 rfl rfl cs_X11_isOutside rfl rfl (Nat.le_of_ble_eq_true rfl) rfl ⟨(Nat.le_of_ble_eq_true rfl), (Nat.le_of_ble_eq_true rfl)⟩ (ct_X11_isOutside hfl h_r3) ?_
    refine pg_if_eq 30 dX4_faultOfNewLink_25 (by decide) (fun c4 => ?_) (fun c4 => ?_)
    · rw [if_pos c4] at h
      refine pg_iload_n dX4_faultOfNewLink_30 rfl ?_
      refine pg_iload_n dX4_faultOfNewLink_31 rfl ?_
      refine pg_icmp_eq 45 dX4_faultOfNewLink_32 (by decide) (fun c5 => ?_) (fun c5 => ?_)
      · rw [if_pos c5] at h
        refine pg_iconst 2 dX4_faultOfNewLink_45 rfl ?_
        obtain rfl := Option.some.inj h
        exact hE.2.1 _ _ _ _ _ _ .int dX4_faultOfNewLink_46 rfl rfl (Nat.zero_le _) (Nat.zero_le _) ⟨rfl, rfl⟩
      · rw [if_neg c5] at h
        refine pg_iload_n dX4_faultOfNewLink_35 rfl ?_
        refine pg_iconst 1 dX4_faultOfNewLink_36 rfl ?_
        refine pg_bipush 100 dX4_faultOfNewLink_37 rfl ?_
        obtain ⟨r6, h_r6, h⟩ := bd_at h
        refine eg_cNi (C := mX11_isOutside) (as := [(.int v3), (.int 1), (.int 100)]) dX4_faultOfNewLink_39 rfl rfl cs_X11_isOutside rfl rfl (Nat.le_of_ble_eq_true rfl) rfl ⟨(Nat.le_of_ble_eq_true rfl), (Nat.le_of_ble_eq_true rfl)⟩ (ct_X11_isOutside hfl h_r6) ?_
        refine pg_if_eq 47 dX4_faultOfNewLink_42 (by decide) (fun c7 => ?_) (fun c7 => ?_)
        · rw [if_pos c7] at h
          refine pg_aload_n dX4_faultOfNewLink_47 rfl ?_
          refine eg_get dX4_faultOfNewLink_48 fa_X4_31 hS sp1 (Nat.le_of_ble_eq_true rfl) (Nat.le_of_ble_eq_true rfl) rfl rfl ?_
          refine eg_get dX4_faultOfNewLink_51 fa_X4_67 hS sp11 (Nat.le_of_ble_eq_true rfl) (Nat.le_of_ble_eq_true rfl) rfl rfl ?_
          refine pg_bipush 16 dX4_faultOfNewLink_54 rfl ?_
          refine pg_icmp_lt 63 dX4_faultOfNewLink_56 (by decide) (fun c8 => ?_) (fun c8 => ?_)
          · rw [if_pos c8] at h
            refine pg_iconst 0 dX4_faultOfNewLink_63 rfl ?_
            obtain rfl := Option.some.inj h
            exact hE.2.1 _ _ _ _ _ _ .int dX4_faultOfNewLink_64 rfl rfl (Nat.zero_le _) (Nat.zero_le _) ⟨rfl, rfl⟩
          · rw [if_neg c8] at h
            refine pg_iconst 3 dX4_faultOfNewLink_59 rfl ?_
            refine pg_goto 64 dX4_faultOfNewLink_60 (by decide) ?_
            obtain rfl := Option.some.inj h
            exact hE.2.1 _ _ _ _ _ _ .int dX4_faultOfNewLink_64 rfl rfl (Nat.zero_le _) (Nat.zero_le _) ⟨rfl, rfl⟩
        · rw [if_neg c7] at h
          refine pg_iconst 2 dX4_faultOfNewLink_45 rfl ?_
          obtain rfl := Option.some.inj h
          exact hE.2.1 _ _ _ _ _ _ .int dX4_faultOfNewLink_46 rfl rfl (Nat.zero_le _) (Nat.zero_le _) ⟨rfl, rfl⟩
    · rw [if_neg c4] at h
      refine pg_iconst 1 dX4_faultOfNewLink_28 rfl ?_
      obtain rfl := Option.some.inj h
      exact hE.2.1 _ _ _ _ _ _ .int dX4_faultOfNewLink_29 rfl rfl (Nat.zero_le _) (Nat.zero_le _) ⟨rfl, rfl⟩
def f_X4_faultOfBid (v1 : Int32) (v2 : Int32) (v3 : Int32) (m0 : me) : Option (Int32 × me) :=
  bd (f_X11_isOutside v1 0 3 m0) (fun r1 =>
  if r1.1 = 0 then
    bd (f_X3_has v2 r1.2) (fun r3 =>
    if r3.1 = 0 then
      some ((1, r3.2))
    else
      bd (f_X11_isOutside v3 0 1000 r3.2) (fun r5 =>
      if r5.1 = 0 then
        some ((0, r5.2))
      else
        some ((2, r5.2))))
  else
    some ((1, r1.2)))
set_option maxRecDepth 20000 in
set_option maxHeartbeats 4000000 in
theorem ct_X4_faultOfBid (hfl : g.1.stackTraces = false) (hS : pS 1 28 S) {v1 : Int32} {v2 : Int32} {v3 : Int32} {m0 : me} {x : (Int32 × me)} (h : f_X4_faultOfBid v1 v2 v3 m0 = some x) : pm_Ct g mX4_faultOfBid [.ref 1, .int v1, .int v2, .int v3] (en S m0) 0 0 (qI S x) qF := by
  refine pm_of (by decide +kernel) rfl hfl (Nat.le_of_ble_eq_true rfl) (fun X hE => ?_)
  show pm_G g mX4_faultOfBid X 0 [some (.ref 1), some (.int v1), some (.int v2), some (.int v3)] [] (en S m0) 0 0
  unfold f_X4_faultOfBid at h
  refine pg_iload_n dX4_faultOfBid_0 rfl ?_
  refine pg_iconst 0 dX4_faultOfBid_1 rfl ?_
  refine pg_iconst 3 dX4_faultOfBid_2 rfl ?_
  obtain ⟨r1, h_r1, h⟩ := bd_at h
  refine eg_cNi (C := mX11_isOutside) (as := [(.int v1), (.int 0), (.int 3)]) dX4_faultOfBid_3 rfl rfl cs_X11_isOutside rfl rfl (Nat.le_of_ble_eq_true rfl) rfl ⟨(Nat.le_of_ble_eq_true rfl), (Nat.le_of_ble_eq_true rfl)⟩ (ct_X11_isOutside hfl h_r1) ?_
  refine pg_if_ne 20 dX4_faultOfBid_6 (by decide) (fun c2 => ?_) (fun c2 => ?_)
  · rw [if_neg c2] at h
    refine pg_iconst 1 dX4_faultOfBid_20 rfl ?_
    obtain rfl := Option.some.inj h
    exact hE.2.1 _ _ _ _ _ _ .int dX4_faultOfBid_21 rfl rfl (Nat.zero_le _) (Nat.zero_le _) ⟨rfl, rfl⟩
  · rw [if_pos c2] at h
    refine pg_aload_n dX4_faultOfBid_9 rfl ?_
    refine eg_get dX4_faultOfBid_10 fa_X4_31 hS sp1 (Nat.le_of_ble_eq_true rfl) (Nat.le_of_ble_eq_true rfl) rfl rfl ?_
    refine pg_iload_n dX4_faultOfBid_13 rfl ?_
    obtain ⟨r3, h_r3, h⟩ := bd_at h
    refine eg_cVi (C := mX3_has) (as := [(.int v2)]) dX4_faultOfBid_14 mw388 cv_X3_has hS sp11 (Nat.le_of_ble_eq_true rfl) (Nat.le_of_ble_eq_true rfl) rfl rfl rfl (Nat.le_of_ble_eq_true rfl) rfl ⟨(Nat.le_of_ble_eq_true rfl), (Nat.le_of_ble_eq_true rfl)⟩ (ct_X3_has hfl (hS.sub (Nat.le_of_ble_eq_true rfl) (Nat.le_of_ble_eq_true rfl)) h_r3) ?_
    refine pg_if_ne 22 dX4_faultOfBid_17 (by decide) (fun c4 => ?_) (fun c4 => ?_)
    · rw [if_neg c4] at h
      refine pg_iload_n dX4_faultOfBid_22 rfl ?_
      refine pg_iconst 0 dX4_faultOfBid_23 rfl ?_
      refine pg_sipush 1000 dX4_faultOfBid_24 rfl ?_
      obtain ⟨r5, h_r5, h⟩ := bd_at h
      refine eg_cNi (C := mX11_isOutside) (as := [(.int v3), (.int 0), (.int 1000)]) dX4_faultOfBid_27 rfl rfl cs_X11_isOutside rfl rfl (Nat.le_of_ble_eq_true rfl) rfl ⟨(Nat.le_of_ble_eq_true rfl), (Nat.le_of_ble_eq_true rfl)⟩ (ct_X11_isOutside hfl h_r5) ?_
      refine pg_if_eq 37 dX4_faultOfBid_30 (by decide) (fun c6 => ?_) (fun c6 => ?_)
      · rw [if_pos c6] at h
        refine pg_iconst 0 dX4_faultOfBid_37 rfl ?_
        obtain rfl := Option.some.inj h
        exact hE.2.1 _ _ _ _ _ _ .int dX4_faultOfBid_38 rfl rfl (Nat.zero_le _) (Nat.zero_le _) ⟨rfl, rfl⟩
      · rw [if_neg c6] at h
        refine pg_iconst 2 dX4_faultOfBid_33 rfl ?_
        refine pg_goto 38 dX4_faultOfBid_34 (by decide) ?_
        obtain rfl := Option.some.inj h
        exact hE.2.1 _ _ _ _ _ _ .int dX4_faultOfBid_38 rfl rfl (Nat.zero_le _) (Nat.zero_le _) ⟨rfl, rfl⟩
    · rw [if_pos c4] at h
      refine pg_iconst 1 dX4_faultOfBid_20 rfl ?_
      obtain rfl := Option.some.inj h
      exact hE.2.1 _ _ _ _ _ _ .int dX4_faultOfBid_21 rfl rfl (Nat.zero_le _) (Nat.zero_le _) ⟨rfl, rfl⟩
def f_X4_faultOfSwitch (v1 : Int32) (v2 : Int32) (m0 : me) : Option (Int32 × me) :=
  bd (f_X3_has v1 m0) (fun r1 =>
  if r1.1 = 0 then
    some ((1, r1.2))
  else
    gd (inR v1 16) (
    if (r1.2.1 16 v1.toNatClampNeg) = v2 then
      some ((0, r1.2))
    else
      some ((3, r1.2))))
set_option maxRecDepth 20000 in
set_option maxHeartbeats 4000000 in
theorem ct_X4_faultOfSwitch (hfl : g.1.stackTraces = false) (hS : pS 1 28 S) {v1 : Int32} {v2 : Int32} {m0 : me} {x : (Int32 × me)} (h : f_X4_faultOfSwitch v1 v2 m0 = some x) : pm_Ct g mX4_faultOfSwitch [.ref 1, .int v1, .int v2] (en S m0) 0 0 (qI S x) qF := by
  refine pm_of (by decide +kernel) rfl hfl (Nat.le_of_ble_eq_true rfl) (fun X hE => ?_)
  show pm_G g mX4_faultOfSwitch X 0 [some (.ref 1), some (.int v1), some (.int v2)] [] (en S m0) 0 0
  unfold f_X4_faultOfSwitch at h
  refine pg_aload_n dX4_faultOfSwitch_0 rfl ?_
  refine eg_get dX4_faultOfSwitch_1 fa_X4_31 hS sp1 (Nat.le_of_ble_eq_true rfl) (Nat.le_of_ble_eq_true rfl) rfl rfl ?_
  refine pg_iload_n dX4_faultOfSwitch_4 rfl ?_
  obtain ⟨r1, h_r1, h⟩ := bd_at h
  refine eg_cVi (C := mX3_has) (as := [(.int v1)]) dX4_faultOfSwitch_5 mw388 cv_X3_has hS sp11 (Nat.le_of_ble_eq_true rfl) (Nat.le_of_ble_eq_true rfl) rfl rfl rfl (Nat.le_of_ble_eq_true rfl) rfl ⟨(Nat.le_of_ble_eq_true rfl), (Nat.le_of_ble_eq_true rfl)⟩ (ct_X3_has hfl (hS.sub (Nat.le_of_ble_eq_true rfl) (Nat.le_of_ble_eq_true rfl)) h_r1) ?_
  refine pg_if_ne 13 dX4_faultOfSwitch_8 (by decide) (fun c2 => ?_) (fun c2 => ?_)
  · rw [if_neg c2] at h
    refine pg_aload_n dX4_faultOfSwitch_13 rfl ?_
    refine eg_get dX4_faultOfSwitch_14 fa_X4_31 hS sp1 (Nat.le_of_ble_eq_true rfl) (Nat.le_of_ble_eq_true rfl) rfl rfl ?_
    refine eg_get dX4_faultOfSwitch_17 fa_X4_90 hS sp11 (Nat.le_of_ble_eq_true rfl) (Nat.le_of_ble_eq_true rfl) rfl rfl ?_
    refine pg_iload_n dX4_faultOfSwitch_20 rfl ?_
    obtain ⟨g1, h⟩ := gd_at h
    refine eg_zaldJ v1.toNatClampNeg dX4_faultOfSwitch_21 hS sp16 (Nat.le_of_ble_eq_true rfl) (Nat.le_of_ble_eq_true rfl) rfl (inR_vp g1) rfl ?_
    refine pg_iload_n dX4_faultOfSwitch_22 rfl ?_
    refine pg_icmp_ne 30 dX4_faultOfSwitch_23 (by decide) (fun c3 => ?_) (fun c3 => ?_)
    · rw [if_neg c3] at h
      refine pg_iconst 3 dX4_faultOfSwitch_30 rfl ?_
      obtain rfl := Option.some.inj h
      exact hE.2.1 _ _ _ _ _ _ .int dX4_faultOfSwitch_31 rfl rfl (Nat.zero_le _) (Nat.zero_le _) ⟨rfl, rfl⟩
    · rw [if_pos c3] at h
      refine pg_iconst 0 dX4_faultOfSwitch_26 rfl ?_
      refine pg_goto 31 dX4_faultOfSwitch_27 (by decide) ?_
      obtain rfl := Option.some.inj h
      exact hE.2.1 _ _ _ _ _ _ .int dX4_faultOfSwitch_31 rfl rfl (Nat.zero_le _) (Nat.zero_le _) ⟨rfl, rfl⟩
  · rw [if_pos c2] at h
    refine pg_iconst 1 dX4_faultOfSwitch_11 rfl ?_
    obtain rfl := Option.some.inj h
    exact hE.2.1 _ _ _ _ _ _ .int dX4_faultOfSwitch_12 rfl rfl (Nat.zero_le _) (Nat.zero_le _) ⟨rfl, rfl⟩
def f_X4_faultOfPriority (v1 : Int32) (v2 : Int32) (m0 : me) : Option (Int32 × me) :=
  bd (f_X11_isOutside v1 0 ((m0.1 1 0) - 1) m0) (fun r1 =>
  if r1.1 = 0 then
    bd (f_X11_isOutside v2 0 9 r1.2) (fun r3 =>
    if r3.1 = 0 then
      some ((0, r3.2))
    else
      some ((2, r3.2)))
  else
    some ((1, r1.2)))
set_option maxRecDepth 20000 in
set_option maxHeartbeats 4000000 in
theorem ct_X4_faultOfPriority (hfl : g.1.stackTraces = false) (hS : pS 1 28 S) {v1 : Int32} {v2 : Int32} {m0 : me} {x : (Int32 × me)} (h : f_X4_faultOfPriority v1 v2 m0 = some x) : pm_Ct g mX4_faultOfPriority [.ref 1, .int v1, .int v2] (en S m0) 0 0 (qI S x) qF := by
  refine pm_of (by decide +kernel) rfl hfl (Nat.le_of_ble_eq_true rfl) (fun X hE => ?_)
  show pm_G g mX4_faultOfPriority X 0 [some (.ref 1), some (.int v1), some (.int v2)] [] (en S m0) 0 0
  unfold f_X4_faultOfPriority at h
  refine pg_iload_n dX4_faultOfPriority_0 rfl ?_
  refine pg_iconst 0 dX4_faultOfPriority_1 rfl ?_
  refine pg_aload_n dX4_faultOfPriority_2 rfl ?_
  refine eg_get dX4_faultOfPriority_3 fa_X4_42 hS sp1 (Nat.le_of_ble_eq_true rfl) (Nat.le_of_ble_eq_true rfl) rfl rfl ?_
  refine pg_iconst 1 dX4_faultOfPriority_6 rfl ?_
  refine pg_isub dX4_faultOfPriority_7 ?_
  obtain ⟨r1, h_r1, h⟩ := bd_at h
  refine eg_cNi (C := mX11_isOutside) (as := [(.int v1), (.int 0), (.int ((m0.1 1 0) - 1))]) dX4_faultOfPriority_8 rfl rfl cs_X11_isOutside rfl rfl (Nat.le_of_ble_eq_true rfl) rfl ⟨(Nat.le_of_ble_eq_true rfl), (Nat.le_of_ble_eq_true rfl)⟩ (ct_X11_isOutside hfl h_r1) ?_
  refine pg_if_eq 16 dX4_faultOfPriority_11 (by decide) (fun c2 => ?_) (fun c2 => ?_)
  · rw [if_pos c2] at h
    refine pg_iload_n dX4_faultOfPriority_16 rfl ?_
    refine pg_iconst 0 dX4_faultOfPriority_17 rfl ?_
    refine pg_bipush 9 dX4_faultOfPriority_18 rfl ?_
    obtain ⟨r3, h_r3, h⟩ := bd_at h
    refine eg_cNi (C := mX11_isOutside) (as := [(.int v2), (.int 0), (.int 9)]) dX4_faultOfPriority_20 rfl rfl cs_X11_isOutside rfl rfl (Nat.le_of_ble_eq_true rfl) rfl ⟨(Nat.le_of_ble_eq_true rfl), (Nat.le_of_ble_eq_true rfl)⟩ (ct_X11_isOutside hfl h_r3) ?_
    refine pg_if_eq 30 dX4_faultOfPriority_23 (by decide) (fun c4 => ?_) (fun c4 => ?_)
    · rw [if_pos c4] at h
      refine pg_iconst 0 dX4_faultOfPriority_30 rfl ?_
      obtain rfl := Option.some.inj h
      exact hE.2.1 _ _ _ _ _ _ .int dX4_faultOfPriority_31 rfl rfl (Nat.zero_le _) (Nat.zero_le _) ⟨rfl, rfl⟩
    · rw [if_neg c4] at h
      refine pg_iconst 2 dX4_faultOfPriority_26 rfl ?_
      refine pg_goto 31 dX4_faultOfPriority_27 (by decide) ?_
      obtain rfl := Option.some.inj h
      exact hE.2.1 _ _ _ _ _ _ .int dX4_faultOfPriority_31 rfl rfl (Nat.zero_le _) (Nat.zero_le _) ⟨rfl, rfl⟩
  · rw [if_neg c2] at h
    refine pg_iconst 1 dX4_faultOfPriority_14 rfl ?_
    obtain rfl := Option.some.inj h
    exact hE.2.1 _ _ _ _ _ _ .int dX4_faultOfPriority_15 rfl rfl (Nat.zero_le _) (Nat.zero_le _) ⟨rfl, rfl⟩
end
