section
variable {g : pm_Gl} {X : pm_X} {S : List sF}
def f_X4_beginAnew (v1 : Int32) (m0 : me) : Option me :=
  lt (wI m0 1 0 v1) (fun m1 =>
  lt (wI m1 1 1 0) (fun m2 =>
  lt (wI m2 1 5 0) (fun m3 =>
  lt (wI m3 1 6 0) (fun m4 =>
  lt (wI m4 1 7 0) (fun m5 =>
  lt (wI m5 1 8 0) (fun m6 =>
  lt (wI m6 1 9 0) (fun m7 =>
  bd (f_X1_beginAnew v1 m7) (fun r8 =>
  lt (wI r8 11 0 0) (fun m9 =>
  bd (f_X8_beginAnew m9) (fun r10 =>
  some (r10)))))))))))
set_option maxRecDepth 20000 in
set_option maxHeartbeats 4000000 in
theorem ct_X4_beginAnew (hfl : g.1.stackTraces = false) (hS : pS 1 28 S) {v1 : Int32} {m0 : me} {x : me} (h : f_X4_beginAnew v1 m0 = some x) : pm_Ct g mX4_beginAnew [.ref 1, .int v1] (en S m0) 0 0 (qV S x) qF := by
  refine pm_of (by decide +kernel) rfl hfl (Nat.le_of_ble_eq_true rfl) (fun X hE => ?_)
  show pm_G g mX4_beginAnew X 0 [some (.ref 1), some (.int v1)] [] (en S m0) 0 0
  unfold f_X4_beginAnew at h
  refine pg_aload_n dX4_beginAnew_0 rfl ?_
  refine pg_iload_n dX4_beginAnew_1 rfl ?_
  refine eg_put dX4_beginAnew_2 fa_X4_42 hS sp1 (Nat.le_of_ble_eq_true rfl) (Nat.le_of_ble_eq_true rfl) rfl (Nat.le_of_ble_eq_true rfl) rfl (fun m1 e_m1 => ?_)
  replace h := lt_at h e_m1
  refine pg_aload_n dX4_beginAnew_5 rfl ?_
  refine pg_iconst 0 dX4_beginAnew_6 rfl ?_
  refine eg_put dX4_beginAnew_7 fa_X4_45 hS sp1 (Nat.le_of_ble_eq_true rfl) (Nat.le_of_ble_eq_true rfl) rfl (Nat.le_of_ble_eq_true rfl) rfl (fun m2 e_m2 => ?_)
  replace h := lt_at h e_m2
  refine pg_aload_n dX4_beginAnew_10 rfl ?_
  refine pg_iconst 0 dX4_beginAnew_11 rfl ?_
  refine eg_put dX4_beginAnew_12 fa_X4_48 hS sp1 (Nat.le_of_ble_eq_true rfl) (Nat.le_of_ble_eq_true rfl) rfl (Nat.le_of_ble_eq_true rfl) rfl (fun m3 e_m3 => ?_)
  replace h := lt_at h e_m3
  refine pg_aload_n dX4_beginAnew_15 rfl ?_
  refine pg_iconst 0 dX4_beginAnew_16 rfl ?_
  refine eg_put dX4_beginAnew_17 fa_X4_51 hS sp1 (Nat.le_of_ble_eq_true rfl) (Nat.le_of_ble_eq_true rfl) rfl (Nat.le_of_ble_eq_true rfl) rfl (fun m4 e_m4 => ?_)
  replace h := lt_at h e_m4
  refine pg_aload_n dX4_beginAnew_20 rfl ?_
  refine pg_iconst 0 dX4_beginAnew_21 rfl ?_
  refine eg_put dX4_beginAnew_22 fa_X4_54 hS sp1 (Nat.le_of_ble_eq_true rfl) (Nat.le_of_ble_eq_true rfl) rfl (Nat.le_of_ble_eq_true rfl) rfl (fun m5 e_m5 => ?_)
  replace h := lt_at h e_m5
  refine pg_aload_n dX4_beginAnew_25 rfl ?_
  refine pg_iconst 0 dX4_beginAnew_26 rfl ?_
  refine eg_put dX4_beginAnew_27 fa_X4_57 hS sp1 (Nat.le_of_ble_eq_true rfl) (Nat.le_of_ble_eq_true rfl) rfl (Nat.le_of_ble_eq_true rfl) rfl (fun m6 e_m6 => ?_)
  replace h := lt_at h e_m6
  refine pg_aload_n dX4_beginAnew_30 rfl ?_
  refine pg_iconst 0 dX4_beginAnew_31 rfl ?_
  refine eg_put dX4_beginAnew_32 fa_X4_60 hS sp1 (Nat.le_of_ble_eq_true rfl) (Nat.le_of_ble_eq_true rfl) rfl (Nat.le_of_ble_eq_true rfl) rfl (fun m7 e_m7 => ?_)
  replace h := lt_at h e_m7
  refine pg_aload_n dX4_beginAnew_35 rfl ?_
  refine eg_get dX4_beginAnew_36 fa_X4_24 hS sp1 (Nat.le_of_ble_eq_true rfl) (Nat.le_of_ble_eq_true rfl) rfl rfl ?_
  refine pg_iload_n dX4_beginAnew_39 rfl ?_
  obtain ⟨r8, h_r8, h⟩ := bd_at h
  refine eg_cVv (C := mX1_beginAnew) (as := [(.int v1)]) dX4_beginAnew_40 mw127 cv_X1_beginAnew hS sp2 (Nat.le_of_ble_eq_true rfl) (Nat.le_of_ble_eq_true rfl) rfl rfl rfl (Nat.le_of_ble_eq_true rfl) rfl ⟨(Nat.le_of_ble_eq_true rfl), (Nat.le_of_ble_eq_true rfl)⟩ (ct_X1_beginAnew hfl (hS.sub (Nat.le_of_ble_eq_true rfl) (Nat.le_of_ble_eq_true rfl)) h_r8) ?_
  refine pg_aload_n dX4_beginAnew_43 rfl ?_
  refine eg_get dX4_beginAnew_44 fa_X4_31 hS sp1 (Nat.le_of_ble_eq_true rfl) (Nat.le_of_ble_eq_true rfl) rfl rfl ?_
  refine pg_iconst 0 dX4_beginAnew_47 rfl ?_
  refine eg_put dX4_beginAnew_48 fa_X4_67 hS sp11 (Nat.le_of_ble_eq_true rfl) (Nat.le_of_ble_eq_true rfl) rfl (Nat.le_of_ble_eq_true rfl) rfl (fun m9 e_m9 => ?_)
  replace h := lt_at h e_m9
  refine pg_aload_n dX4_beginAnew_51 rfl ?_
  refine eg_get dX4_beginAnew_52 fa_X4_38 hS sp1 (Nat.le_of_ble_eq_true rfl) (Nat.le_of_ble_eq_true rfl) rfl rfl ?_
  obtain ⟨r10, h_r10, h⟩ := bd_at h
  refine eg_cVv (C := mX8_beginAnew) (as := []) dX4_beginAnew_55 mw133 cv_X8_beginAnew hS sp23 (Nat.le_of_ble_eq_true rfl) (Nat.le_of_ble_eq_true rfl) rfl rfl rfl (Nat.le_of_ble_eq_true rfl) rfl ⟨(Nat.le_of_ble_eq_true rfl), (Nat.le_of_ble_eq_true rfl)⟩ (ct_X8_beginAnew hfl (hS.sub (Nat.le_of_ble_eq_true rfl) (Nat.le_of_ble_eq_true rfl)) h_r10) ?_
  obtain rfl := Option.some.inj h
  exact hE.2.2.1 _ _ _ _ _ dX4_beginAnew_58 rfl (Nat.zero_le _) (Nat.zero_le _) ⟨rfl, rfl⟩
def f_X11_setBridges (v1 : Int32) (m0 : me) : Option ((Int32 ⊕ Nat) × me) :=
  bd (f_X11_isOutside v1 2 8 m0) (fun r1 =>
  if r1.1 = 0 then
    bd (f_X9_save r1.2) (fun r3 =>
    lt (r3.1 1 0) (fun w4 =>
    bd (f_X4_beginAnew v1 r3) (fun r5 =>
    some ((.inl w4, r5)))))
  else
    some ((.inr 1, r1.2)))
set_option maxRecDepth 20000 in
set_option maxHeartbeats 4000000 in
theorem ct_X11_setBridges (hfl : g.1.stackTraces = false) (hS : pS 0 138 S) {v1 : Int32} {m0 : me} {x : ((Int32 ⊕ Nat) × me)} (h : f_X11_setBridges v1 m0 = some x) : pm_Ct g mX11_setBridges [.ref 0, .int v1] (en S m0) (kC x) (nC x) (qTI S x) (qX S x) := by
  refine pm_of (by decide +kernel) rfl hfl (Nat.le_of_ble_eq_true rfl) (fun X hE => ?_)
  show pm_G g mX11_setBridges X 0 [some (.ref 0), some (.int v1), none] [] (en S m0) 0 0
  unfold f_X11_setBridges at h
  refine pg_iload_n dX11_setBridges_0 rfl ?_
  refine pg_iconst 2 dX11_setBridges_1 rfl ?_
  refine pg_bipush 8 dX11_setBridges_2 rfl ?_
  obtain ⟨r1, h_r1, h⟩ := bd_at h
  refine eg_cSi (C := mX11_isOutside) (as := [(.int v1), (.int 2), (.int 8)]) dX11_setBridges_4 mw390 cs_X11_isOutside rfl rfl (Nat.le_of_ble_eq_true rfl) rfl ⟨(Nat.le_of_ble_eq_true rfl), (Nat.le_of_ble_eq_true rfl)⟩ (ct_X11_isOutside hfl h_r1) ?_
  refine pg_if_eq 20 dX11_setBridges_7 (by decide) (fun c2 => ?_) (fun c2 => ?_)
  · rw [if_pos c2] at h
    refine pg_aload_n dX11_setBridges_20 rfl ?_
    refine eg_get dX11_setBridges_21 fa_X11_23 hS sp0 (Nat.le_of_ble_eq_true rfl) (Nat.le_of_ble_eq_true rfl) rfl rfl ?_
    refine pg_aload_n dX11_setBridges_24 rfl ?_
    refine eg_get dX11_setBridges_25 fa_X11_12 hS sp0 (Nat.le_of_ble_eq_true rfl) (Nat.le_of_ble_eq_true rfl) rfl rfl ?_
    obtain ⟨r3, h_r3, h⟩ := bd_at h
    refine eg_cVv (C := mX9_save) (as := [(.ref 1)]) dX11_setBridges_28 mw213 cv_X9_save hS sp28 (Nat.le_of_ble_eq_true rfl) (Nat.le_of_ble_eq_true rfl) rfl rfl rfl (Nat.le_of_ble_eq_true rfl) rfl ⟨(Nat.le_of_ble_eq_true rfl), (Nat.le_of_ble_eq_true rfl)⟩ (ct_X9_save hfl (hS.sub (Nat.le_of_ble_eq_true rfl) (Nat.le_of_ble_eq_true rfl)) h_r3) ?_
    refine pg_aload_n dX11_setBridges_31 rfl ?_
    refine eg_get dX11_setBridges_32 fa_X11_12 hS sp0 (Nat.le_of_ble_eq_true rfl) (Nat.le_of_ble_eq_true rfl) rfl rfl ?_
    refine eg_get dX11_setBridges_35 fa_X11_77 hS sp1 (Nat.le_of_ble_eq_true rfl) (Nat.le_of_ble_eq_true rfl) rfl rfl ?_
    obtain ⟨w4, e_w4⟩ : ∃ z : Int32, z = r3.1 1 0 := ⟨_, rfl⟩
    replace h := lt_at h e_w4
    refine eg_istore_n [some (.ref 0), some (.int v1), some (.int w4)] w4 dX11_setBridges_38 e_w4 (Nat.le_of_ble_eq_true rfl) rfl ?_
    refine pg_aload_n dX11_setBridges_39 rfl ?_
    refine eg_get dX11_setBridges_40 fa_X11_12 hS sp0 (Nat.le_of_ble_eq_true rfl) (Nat.le_of_ble_eq_true rfl) rfl rfl ?_
    refine pg_iload_n dX11_setBridges_43 rfl ?_
    obtain ⟨r5, h_r5, h⟩ := bd_at h
    refine eg_cVv (C := mX4_beginAnew) (as := [(.int v1)]) dX11_setBridges_44 mw11 cv_X4_beginAnew hS sp1 (Nat.le_of_ble_eq_true rfl) (Nat.le_of_ble_eq_true rfl) rfl rfl rfl (Nat.le_of_ble_eq_true rfl) rfl ⟨(Nat.le_of_ble_eq_true rfl), (Nat.le_of_ble_eq_true rfl)⟩ (ct_X4_beginAnew hfl (hS.sub (Nat.le_of_ble_eq_true rfl) (Nat.le_of_ble_eq_true rfl)) h_r5) ?_
    refine pg_iload_n dX11_setBridges_47 rfl ?_
    obtain rfl := Option.some.inj h
    exact hE.2.1 _ _ _ _ _ _ .int dX11_setBridges_48 rfl rfl (Nat.zero_le _) (Nat.zero_le _) ⟨_, rfl, rfl, rfl⟩
  · rw [if_neg c2] at h
    obtain rfl := Option.some.inj h
    exact hE.2.2.2.2.2.1 _ _ _ _ _ _ _ _ _ _ _ th7 rfl rfl dX11_setBridges_10 dX11_setBridges_13 dX11_setBridges_14 dX11_setBridges_16 dX11_setBridges_19 rfl (Nat.le_of_ble_eq_true rfl) (Nat.le_of_ble_eq_true rfl) (Nat.le_of_ble_eq_true rfl) (Nat.le_of_ble_eq_true rfl) ⟨_, rfl, rfl, rfl⟩
def f_X11_setTimes (v1 : Int32) (v2 : Int32) (v3 : Int32) (m0 : me) : Option ((Int32 ⊕ Nat) × me) :=
  bd (f_X11_isOutside v1 1 20 m0) (fun r1 =>
  if r1.1 = 0 then
    bd (f_X11_isOutside v2 5 100 r1.2) (fun r3 =>
    if r3.1 = 0 then
      bd (f_X11_isOutside v3 0 100 r3.2) (fun r5 =>
      if r5.1 = 0 then
        bd (f_X9_save r5.2) (fun r7 =>
        lt (r7.1 1 3) (fun w8 =>
        lt (wI r7 1 2 v1) (fun m9 =>
        lt (wI m9 1 3 v2) (fun m10 =>
        lt (wI m10 1 4 v3) (fun m11 =>
        some ((.inl w8, m11)))))))
      else
        some ((.inr 1, r5.2)))
    else
      some ((.inr 1, r3.2)))
  else
    some ((.inr 1, r1.2)))
set_option maxRecDepth 20000 in
set_option maxHeartbeats 4000000 in
theorem ct_X11_setTimes (hfl : g.1.stackTraces = false) (hS : pS 0 138 S) {v1 : Int32} {v2 : Int32} {v3 : Int32} {m0 : me} {x : ((Int32 ⊕ Nat) × me)} (h : f_X11_setTimes v1 v2 v3 m0 = some x) : pm_Ct g mX11_setTimes [.ref 0, .int v1, .int v2, .int v3] (en S m0) (kC x) (nC x) (qTI S x) (qX S x) := by
  refine pm_of (by decide +kernel) rfl hfl (Nat.le_of_ble_eq_true rfl) (fun X hE => ?_)
  show pm_G g mX11_setTimes X 0 [some (.ref 0), some (.int v1), some (.int v2), some (.int v3), none] [] (en S m0) 0 0
  unfold f_X11_setTimes at h
  refine pg_iload_n dX11_setTimes_0 rfl ?_
  refine pg_iconst 1 dX11_setTimes_1 rfl ?_
  refine pg_bipush 20 dX11_setTimes_2 rfl ?_
  obtain ⟨r1, h_r1, h⟩ := bd_at h
  refine eg_cSi (C := mX11_isOutside) (as := [(.int v1), (.int 1), (.int 20)]) dX11_setTimes_4 mw390 cs_X11_isOutside rfl rfl (Nat.le_of_ble_eq_true rfl) rfl ⟨(Nat.le_of_ble_eq_true rfl), (Nat.le_of_ble_eq_true rfl)⟩ (ct_X11_isOutside hfl h_r1) ?_
  refine pg_if_ne 30 dX11_setTimes_7 (by decide) (fun c2 => ?_) (fun c2 => ?_)
  · rw [if_neg c2] at h
    obtain rfl := Option.some.inj h
    exact hE.2.2.2.2.2.1 _ _ _ _ _ _ _ _ _ _ _ th8 rfl rfl dX11_setTimes_30 dX11_setTimes_33 dX11_setTimes_34 dX11_setTimes_36 dX11_setTimes_39 rfl (Nat.le_of_ble_eq_true rfl) (Nat.le_of_ble_eq_true rfl) (Nat.le_of_ble_eq_true rfl) (Nat.le_of_ble_eq_true rfl) ⟨_, rfl, rfl, rfl⟩
  · rw [if_pos c2] at h
    refine pg_iload_n dX11_setTimes_10 rfl ?_
    refine pg_iconst 5 dX11_setTimes_11 rfl ?_
    refine pg_bipush 100 dX11_setTimes_12 rfl ?_
    obtain ⟨r3, h_r3, h⟩ := bd_at h
    refine eg_cSi (C := mX11_isOutside) (as := [(.int v2), (.int 5), (.int 100)]) dX11_setTimes_14 mw390 cs_X11_isOutside rfl rfl (Nat.le_of_ble_eq_true rfl) rfl ⟨(Nat.le_of_ble_eq_true rfl), (Nat.le_of_ble_eq_true rfl)⟩ (ct_X11_isOutside hfl h_r3) ?_
    refine pg_if_ne 30 dX11_setTimes_17 (by decide) (fun c4 => ?_) (fun c4 => ?_)
    · rw [if_neg c4] at h
      obtain rfl := Option.some.inj h
      exact hE.2.2.2.2.2.1 _ _ _ _ _ _ _ _ _ _ _ th8 rfl rfl dX11_setTimes_30 dX11_setTimes_33 dX11_setTimes_34 dX11_setTimes_36 dX11_setTimes_39 rfl (Nat.le_of_ble_eq_true rfl) (Nat.le_of_ble_eq_true rfl) (Nat.le_of_ble_eq_true rfl) (Nat.le_of_ble_eq_true rfl) ⟨_, rfl, rfl, rfl⟩
    · rw [if_pos c4] at h
      refine pg_iload_n dX11_setTimes_20 rfl ?_
      refine pg_iconst 0 dX11_setTimes_21 rfl ?_
      refine pg_bipush 100 dX11_setTimes_22 rfl ?_
      obtain ⟨r5, h_r5, h⟩ := bd_at h
      refine eg_cSi (C := mX11_isOutside) (as := [(.int v3), (.int 0), (.int 100)]) dX11_setTimes_24 mw390 cs_X11_isOutside rfl rfl (Nat.le_of_ble_eq_true rfl) rfl ⟨(Nat.le_of_ble_eq_true rfl), (Nat.le_of_ble_eq_true rfl)⟩ (ct_X11_isOutside hfl h_r5) ?_
      refine pg_if_eq 40 dX11_setTimes_27 (by decide) (fun c6 => ?_) (fun c6 => ?_)
      · rw [if_pos c6] at h
        refine pg_aload_n dX11_setTimes_40 rfl ?_
        refine eg_get dX11_setTimes_41 fa_X11_23 hS sp0 (Nat.le_of_ble_eq_true rfl) (Nat.le_of_ble_eq_true rfl) rfl rfl ?_
        refine pg_aload_n dX11_setTimes_44 rfl ?_
        refine eg_get dX11_setTimes_45 fa_X11_12 hS sp0 (Nat.le_of_ble_eq_true rfl) (Nat.le_of_ble_eq_true rfl) rfl rfl ?_
        obtain ⟨r7, h_r7, h⟩ := bd_at h
        refine eg_cVv (C := mX9_save) (as := [(.ref 1)]) dX11_setTimes_48 mw213 cv_X9_save hS sp28 (Nat.le_of_ble_eq_true rfl) (Nat.le_of_ble_eq_true rfl) rfl rfl rfl (Nat.le_of_ble_eq_true rfl) rfl ⟨(Nat.le_of_ble_eq_true rfl), (Nat.le_of_ble_eq_true rfl)⟩ (ct_X9_save hfl (hS.sub (Nat.le_of_ble_eq_true rfl) (Nat.le_of_ble_eq_true rfl)) h_r7) ?_
        refine pg_aload_n dX11_setTimes_51 rfl ?_
        refine eg_get dX11_setTimes_52 fa_X11_12 hS sp0 (Nat.le_of_ble_eq_true rfl) (Nat.le_of_ble_eq_true rfl) rfl rfl ?_
        refine eg_get dX11_setTimes_55 fa_X11_83 hS sp1 (Nat.le_of_ble_eq_true rfl) (Nat.le_of_ble_eq_true rfl) rfl rfl ?_
        obtain ⟨w8, e_w8⟩ : ∃ z : Int32, z = r7.1 1 3 := ⟨_, rfl⟩
        replace h := lt_at h e_w8
        refine eg_istore [some (.ref 0), some (.int v1), some (.int v2), some (.int v3), some (.int w8)] w8 dX11_setTimes_58 e_w8 (Nat.le_of_ble_eq_true rfl) rfl ?_
        refine pg_aload_n dX11_setTimes_60 rfl ?_
        refine eg_get dX11_setTimes_61 fa_X11_12 hS sp0 (Nat.le_of_ble_eq_true rfl) (Nat.le_of_ble_eq_true rfl) rfl rfl ?_
        refine pg_iload_n dX11_setTimes_64 rfl ?_
        refine eg_put dX11_setTimes_65 fa_X11_86 hS sp1 (Nat.le_of_ble_eq_true rfl) (Nat.le_of_ble_eq_true rfl) rfl (Nat.le_of_ble_eq_true rfl) rfl (fun m9 e_m9 => ?_)
        replace h := lt_at h e_m9
        refine pg_aload_n dX11_setTimes_68 rfl ?_
        refine eg_get dX11_setTimes_69 fa_X11_12 hS sp0 (Nat.le_of_ble_eq_true rfl) (Nat.le_of_ble_eq_true rfl) rfl rfl ?_
        refine pg_iload_n dX11_setTimes_72 rfl ?_
        refine eg_put dX11_setTimes_73 fa_X11_83 hS sp1 (Nat.le_of_ble_eq_true rfl) (Nat.le_of_ble_eq_true rfl) rfl (Nat.le_of_ble_eq_true rfl) rfl (fun m10 e_m10 => ?_)
        replace h := lt_at h e_m10
        refine pg_aload_n dX11_setTimes_76 rfl ?_
        refine eg_get dX11_setTimes_77 fa_X11_12 hS sp0 (Nat.le_of_ble_eq_true rfl) (Nat.le_of_ble_eq_true rfl) rfl rfl ?_
        refine pg_iload_n dX11_setTimes_80 rfl ?_
        refine eg_put dX11_setTimes_81 fa_X11_89 hS sp1 (Nat.le_of_ble_eq_true rfl) (Nat.le_of_ble_eq_true rfl) rfl (Nat.le_of_ble_eq_true rfl) rfl (fun m11 e_m11 => ?_)
        replace h := lt_at h e_m11
        refine pg_iload dX11_setTimes_84 rfl ?_
        obtain rfl := Option.some.inj h
        exact hE.2.1 _ _ _ _ _ _ .int dX11_setTimes_86 rfl rfl (Nat.zero_le _) (Nat.zero_le _) ⟨_, rfl, rfl, rfl⟩
      · rw [if_neg c6] at h
        obtain rfl := Option.some.inj h
        exact hE.2.2.2.2.2.1 _ _ _ _ _ _ _ _ _ _ _ th8 rfl rfl dX11_setTimes_30 dX11_setTimes_33 dX11_setTimes_34 dX11_setTimes_36 dX11_setTimes_39 rfl (Nat.le_of_ble_eq_true rfl) (Nat.le_of_ble_eq_true rfl) (Nat.le_of_ble_eq_true rfl) (Nat.le_of_ble_eq_true rfl) ⟨_, rfl, rfl, rfl⟩
def f_X11_setPriority (v1 : Int32) (v2 : Int32) (m0 : me) : Option ((Int32 ⊕ Nat) × me) :=
  bd (f_X4_faultOfPriority v1 v2 m0) (fun r1 =>
  bd (f_X11_throwFor r1.1 r1.2) (fun r2 =>
  tr r2.1 (fun _ =>
    bd (f_X9_save r2.2) (fun r5 =>
    bd (f_X1_changePriority v1 v2 r5) (fun r6 =>
    some ((.inl r6.1, r6.2))))) (fun e4 => some ((.inr e4, r2.2)))))
set_option maxRecDepth 20000 in
set_option maxHeartbeats 4000000 in
theorem ct_X11_setPriority (hfl : g.1.stackTraces = false) (hS : pS 0 138 S) {v1 : Int32} {v2 : Int32} {m0 : me} {x : ((Int32 ⊕ Nat) × me)} (h : f_X11_setPriority v1 v2 m0 = some x) : pm_Ct g mX11_setPriority [.ref 0, .int v1, .int v2] (en S m0) (kC x) (nC x) (qTI S x) (qX S x) := by
  refine pm_of (by decide +kernel) rfl hfl (Nat.le_of_ble_eq_true rfl) (fun X hE => ?_)
  show pm_G g mX11_setPriority X 0 [some (.ref 0), some (.int v1), some (.int v2)] [] (en S m0) 0 0
  unfold f_X11_setPriority at h
  refine pg_aload_n dX11_setPriority_0 rfl ?_
  refine eg_get dX11_setPriority_1 fa_X11_12 hS sp0 (Nat.le_of_ble_eq_true rfl) (Nat.le_of_ble_eq_true rfl) rfl rfl ?_
  refine pg_iload_n dX11_setPriority_4 rfl ?_
  refine pg_iload_n dX11_setPriority_5 rfl ?_
  obtain ⟨r1, h_r1, h⟩ := bd_at h
  refine eg_cVi (C := mX4_faultOfPriority) (as := [(.int v1), (.int v2)]) dX11_setPriority_6 mw371 cv_X4_faultOfPriority hS sp1 (Nat.le_of_ble_eq_true rfl) (Nat.le_of_ble_eq_true rfl) rfl rfl rfl (Nat.le_of_ble_eq_true rfl) rfl ⟨(Nat.le_of_ble_eq_true rfl), (Nat.le_of_ble_eq_true rfl)⟩ (ct_X4_faultOfPriority hfl (hS.sub (Nat.le_of_ble_eq_true rfl) (Nat.le_of_ble_eq_true rfl)) h_r1) ?_
  obtain ⟨r2, h_r2, h⟩ := bd_at h
  refine eg_tSv (C := mX11_throwFor) (as := [(.int r1.1)]) dX11_setPriority_9 mw578 cs_X11_throwFor rfl rfl (Nat.le_of_ble_eq_true rfl) rfl ⟨(Nat.le_of_ble_eq_true rfl), (Nat.le_of_ble_eq_true rfl)⟩ (ct_X11_throwFor hfl h_r2) (fun w3 k_w3 => ?_) (fun e4 k_e4 => ?_)
  · rw [k_w3] at h
    replace h := tr_l h
    refine pg_aload_n dX11_setPriority_12 rfl ?_
    refine eg_get dX11_setPriority_13 fa_X11_23 hS sp0 (Nat.le_of_ble_eq_true rfl) (Nat.le_of_ble_eq_true rfl) rfl rfl ?_
    refine pg_aload_n dX11_setPriority_16 rfl ?_
    refine eg_get dX11_setPriority_17 fa_X11_12 hS sp0 (Nat.le_of_ble_eq_true rfl) (Nat.le_of_ble_eq_true rfl) rfl rfl ?_
    obtain ⟨r5, h_r5, h⟩ := bd_at h
    refine eg_cVv (C := mX9_save) (as := [(.ref 1)]) dX11_setPriority_20 mw213 cv_X9_save hS sp28 (Nat.le_of_ble_eq_true rfl) (Nat.le_of_ble_eq_true rfl) rfl rfl rfl (Nat.le_of_ble_eq_true rfl) rfl ⟨(Nat.le_of_ble_eq_true rfl), (Nat.le_of_ble_eq_true rfl)⟩ (ct_X9_save hfl (hS.sub (Nat.le_of_ble_eq_true rfl) (Nat.le_of_ble_eq_true rfl)) h_r5) ?_
    refine pg_aload_n dX11_setPriority_23 rfl ?_
    refine eg_get dX11_setPriority_24 fa_X11_12 hS sp0 (Nat.le_of_ble_eq_true rfl) (Nat.le_of_ble_eq_true rfl) rfl rfl ?_
    refine eg_get dX11_setPriority_27 fa_X11_99 hS sp1 (Nat.le_of_ble_eq_true rfl) (Nat.le_of_ble_eq_true rfl) rfl rfl ?_
    refine pg_iload_n dX11_setPriority_30 rfl ?_
    refine pg_iload_n dX11_setPriority_31 rfl ?_
    obtain ⟨r6, h_r6, h⟩ := bd_at h
    refine eg_cVi (C := mX1_changePriority) (as := [(.int v1), (.int v2)]) dX11_setPriority_32 mw341 cv_X1_changePriority hS sp2 (Nat.le_of_ble_eq_true rfl) (Nat.le_of_ble_eq_true rfl) rfl rfl rfl (Nat.le_of_ble_eq_true rfl) rfl ⟨(Nat.le_of_ble_eq_true rfl), (Nat.le_of_ble_eq_true rfl)⟩ (ct_X1_changePriority hfl (hS.sub (Nat.le_of_ble_eq_true rfl) (Nat.le_of_ble_eq_true rfl)) h_r6) ?_
    obtain rfl := Option.some.inj h
    exact hE.2.1 _ _ _ _ _ _ .int dX11_setPriority_35 rfl rfl (Nat.zero_le _) (Nat.zero_le _) ⟨_, rfl, rfl, rfl⟩
  · rw [k_e4] at h
    replace h := tr_r h
    obtain rfl := Option.some.inj h
    exact ⟨by rw [hE.1.1, hE.1.2]; exact ⟨(Nat.le_of_ble_eq_true rfl), (Nat.le_of_ble_eq_true rfl)⟩, hE.2.2.2.2.1 _ _ _ _ _ _ _ rfl (Nat.le_of_ble_eq_true rfl) (Nat.le_of_ble_eq_true rfl) ⟨_, rfl, rfl, rfl⟩⟩
def f_X11_addLink (v1 : Int32) (v2 : Int32) (v3 : Int32) (m0 : me) : Option ((Int32 ⊕ Nat) × me) :=
  bd (f_X4_faultOfNewLink v1 v2 v3 m0) (fun r1 =>
  bd (f_X11_throwFor r1.1 r1.2) (fun r2 =>
  tr r2.1 (fun _ =>
    bd (f_X9_save r2.2) (fun r5 =>
    bd (f_X3_append v1 v2 v3 r5) (fun r6 =>
    some ((.inl r6.1, r6.2))))) (fun e4 => some ((.inr e4, r2.2)))))
set_option maxRecDepth 20000 in
set_option maxHeartbeats 4000000 in
theorem ct_X11_addLink (hfl : g.1.stackTraces = false) (hS : pS 0 138 S) {v1 : Int32} {v2 : Int32} {v3 : Int32} {m0 : me} {x : ((Int32 ⊕ Nat) × me)} (h : f_X11_addLink v1 v2 v3 m0 = some x) : pm_Ct g mX11_addLink [.ref 0, .int v1, .int v2, .int v3] (en S m0) (kC x) (nC x) (qTI S x) (qX S x) := by
  refine pm_of (by decide +kernel) rfl hfl (Nat.le_of_ble_eq_true rfl) (fun X hE => ?_)
  show pm_G g mX11_addLink X 0 [some (.ref 0), some (.int v1), some (.int v2), some (.int v3)] [] (en S m0) 0 0
  unfold f_X11_addLink at h
  refine pg_aload_n dX11_addLink_0 rfl ?_
  refine eg_get dX11_addLink_1 fa_X11_12 hS sp0 (Nat.le_of_ble_eq_true rfl) (Nat.le_of_ble_eq_true rfl) rfl rfl ?_
  refine pg_iload_n dX11_addLink_4 rfl ?_
  refine pg_iload_n dX11_addLink_5 rfl ?_
  refine pg_iload_n dX11_addLink_6 rfl ?_
  obtain ⟨r1, h_r1, h⟩ := bd_at h
  refine eg_cVi (C := mX4_faultOfNewLink) (as := [(.int v1), (.int v2), (.int v3)]) dX11_addLink_7 mw356 cv_X4_faultOfNewLink hS sp1 (Nat.le_of_ble_eq_true rfl) (Nat.le_of_ble_eq_true rfl) rfl rfl rfl (Nat.le_of_ble_eq_true rfl) rfl ⟨(Nat.le_of_ble_eq_true rfl), (Nat.le_of_ble_eq_true rfl)⟩ (ct_X4_faultOfNewLink hfl (hS.sub (Nat.le_of_ble_eq_true rfl) (Nat.le_of_ble_eq_true rfl)) h_r1) ?_
  obtain ⟨r2, h_r2, h⟩ := bd_at h
  refine eg_tSv (C := mX11_throwFor) (as := [(.int r1.1)]) dX11_addLink_10 mw578 cs_X11_throwFor rfl rfl (Nat.le_of_ble_eq_true rfl) rfl ⟨(Nat.le_of_ble_eq_true rfl), (Nat.le_of_ble_eq_true rfl)⟩ (ct_X11_throwFor hfl h_r2) (fun w3 k_w3 => ?_) (fun e4 k_e4 => ?_)
  · rw [k_w3] at h
    replace h := tr_l h
    refine pg_aload_n dX11_addLink_13 rfl ?_
    refine eg_get dX11_addLink_14 fa_X11_23 hS sp0 (Nat.le_of_ble_eq_true rfl) (Nat.le_of_ble_eq_true rfl) rfl rfl ?_
    refine pg_aload_n dX11_addLink_17 rfl ?_
    refine eg_get dX11_addLink_18 fa_X11_12 hS sp0 (Nat.le_of_ble_eq_true rfl) (Nat.le_of_ble_eq_true rfl) rfl rfl ?_
    obtain ⟨r5, h_r5, h⟩ := bd_at h
    refine eg_cVv (C := mX9_save) (as := [(.ref 1)]) dX11_addLink_21 mw213 cv_X9_save hS sp28 (Nat.le_of_ble_eq_true rfl) (Nat.le_of_ble_eq_true rfl) rfl rfl rfl (Nat.le_of_ble_eq_true rfl) rfl ⟨(Nat.le_of_ble_eq_true rfl), (Nat.le_of_ble_eq_true rfl)⟩ (ct_X9_save hfl (hS.sub (Nat.le_of_ble_eq_true rfl) (Nat.le_of_ble_eq_true rfl)) h_r5) ?_
    refine pg_aload_n dX11_addLink_24 rfl ?_
    refine eg_get dX11_addLink_25 fa_X11_12 hS sp0 (Nat.le_of_ble_eq_true rfl) (Nat.le_of_ble_eq_true rfl) rfl rfl ?_
    refine eg_get dX11_addLink_28 fa_X11_112 hS sp1 (Nat.le_of_ble_eq_true rfl) (Nat.le_of_ble_eq_true rfl) rfl rfl ?_
    refine pg_iload_n dX11_addLink_31 rfl ?_
    refine pg_iload_n dX11_addLink_32 rfl ?_
    refine pg_iload_n dX11_addLink_33 rfl ?_
    obtain ⟨r6, h_r6, h⟩ := bd_at h
    refine eg_cVi (C := mX3_append) (as := [(.int v1), (.int v2), (.int v3)]) dX11_addLink_34 mw319 cv_X3_append hS sp11 (Nat.le_of_ble_eq_true rfl) (Nat.le_of_ble_eq_true rfl) rfl rfl rfl (Nat.le_of_ble_eq_true rfl) rfl ⟨(Nat.le_of_ble_eq_true rfl), (Nat.le_of_ble_eq_true rfl)⟩ (ct_X3_append hfl (hS.sub (Nat.le_of_ble_eq_true rfl) (Nat.le_of_ble_eq_true rfl)) h_r6) ?_
    obtain rfl := Option.some.inj h
    exact hE.2.1 _ _ _ _ _ _ .int dX11_addLink_37 rfl rfl (Nat.zero_le _) (Nat.zero_le _) ⟨_, rfl, rfl, rfl⟩
  · rw [k_e4] at h
    replace h := tr_r h
    obtain rfl := Option.some.inj h
    exact ⟨by rw [hE.1.1, hE.1.2]; exact ⟨(Nat.le_of_ble_eq_true rfl), (Nat.le_of_ble_eq_true rfl)⟩, hE.2.2.2.2.1 _ _ _ _ _ _ _ rfl (Nat.le_of_ble_eq_true rfl) (Nat.le_of_ble_eq_true rfl) ⟨_, rfl, rfl, rfl⟩⟩
def f_X11_fail (v1 : Int32) (m0 : me) : Option ((Int32 ⊕ Nat) × me) :=
  bd (f_X4_faultOfSwitch v1 1 m0) (fun r1 =>
  bd (f_X11_throwFor r1.1 r1.2) (fun r2 =>
  tr r2.1 (fun _ =>
    bd (f_X9_save r2.2) (fun r5 =>
    bd (f_X4_takeDown v1 r5) (fun r6 =>
    some ((.inl r6.1, r6.2))))) (fun e4 => some ((.inr e4, r2.2)))))
set_option maxRecDepth 20000 in
set_option maxHeartbeats 4000000 in
theorem ct_X11_fail (hfl : g.1.stackTraces = false) (hS : pS 0 138 S) {v1 : Int32} {m0 : me} {x : ((Int32 ⊕ Nat) × me)} (h : f_X11_fail v1 m0 = some x) : pm_Ct g mX11_fail [.ref 0, .int v1] (en S m0) (kC x) (nC x) (qTI S x) (qX S x) := by
  refine pm_of (by decide +kernel) rfl hfl (Nat.le_of_ble_eq_true rfl) (fun X hE => ?_)
  show pm_G g mX11_fail X 0 [some (.ref 0), some (.int v1)] [] (en S m0) 0 0
  unfold f_X11_fail at h
  refine pg_aload_n dX11_fail_0 rfl ?_
  refine eg_get dX11_fail_1 fa_X11_12 hS sp0 (Nat.le_of_ble_eq_true rfl) (Nat.le_of_ble_eq_true rfl) rfl rfl ?_
  refine pg_iload_n dX11_fail_4 rfl ?_
  refine pg_iconst 1 dX11_fail_5 rfl ?_
  obtain ⟨r1, h_r1, h⟩ := bd_at h
  refine eg_cVi (C := mX4_faultOfSwitch) (as := [(.int v1), (.int 1)]) dX11_fail_6 mw366 cv_X4_faultOfSwitch hS sp1 (Nat.le_of_ble_eq_true rfl) (Nat.le_of_ble_eq_true rfl) rfl rfl rfl (Nat.le_of_ble_eq_true rfl) rfl ⟨(Nat.le_of_ble_eq_true rfl), (Nat.le_of_ble_eq_true rfl)⟩ (ct_X4_faultOfSwitch hfl (hS.sub (Nat.le_of_ble_eq_true rfl) (Nat.le_of_ble_eq_true rfl)) h_r1) ?_
  obtain ⟨r2, h_r2, h⟩ := bd_at h
  refine eg_tSv (C := mX11_throwFor) (as := [(.int r1.1)]) dX11_fail_9 mw578 cs_X11_throwFor rfl rfl (Nat.le_of_ble_eq_true rfl) rfl ⟨(Nat.le_of_ble_eq_true rfl), (Nat.le_of_ble_eq_true rfl)⟩ (ct_X11_throwFor hfl h_r2) (fun w3 k_w3 => ?_) (fun e4 k_e4 => ?_)
  · rw [k_w3] at h
    replace h := tr_l h
    refine pg_aload_n dX11_fail_12 rfl ?_
    refine eg_get dX11_fail_13 fa_X11_23 hS sp0 (Nat.le_of_ble_eq_true rfl) (Nat.le_of_ble_eq_true rfl) rfl rfl ?_
    refine pg_aload_n dX11_fail_16 rfl ?_
    refine eg_get dX11_fail_17 fa_X11_12 hS sp0 (Nat.le_of_ble_eq_true rfl) (Nat.le_of_ble_eq_true rfl) rfl rfl ?_
    obtain ⟨r5, h_r5, h⟩ := bd_at h
    refine eg_cVv (C := mX9_save) (as := [(.ref 1)]) dX11_fail_20 mw213 cv_X9_save hS sp28 (Nat.le_of_ble_eq_true rfl) (Nat.le_of_ble_eq_true rfl) rfl rfl rfl (Nat.le_of_ble_eq_true rfl) rfl ⟨(Nat.le_of_ble_eq_true rfl), (Nat.le_of_ble_eq_true rfl)⟩ (ct_X9_save hfl (hS.sub (Nat.le_of_ble_eq_true rfl) (Nat.le_of_ble_eq_true rfl)) h_r5) ?_
    refine pg_aload_n dX11_fail_23 rfl ?_
    refine eg_get dX11_fail_24 fa_X11_12 hS sp0 (Nat.le_of_ble_eq_true rfl) (Nat.le_of_ble_eq_true rfl) rfl rfl ?_
    refine pg_iload_n dX11_fail_27 rfl ?_
    obtain ⟨r6, h_r6, h⟩ := bd_at h
    refine eg_cVi (C := mX4_takeDown) (as := [(.int v1)]) dX11_fail_28 mw330 cv_X4_takeDown hS sp1 (Nat.le_of_ble_eq_true rfl) (Nat.le_of_ble_eq_true rfl) rfl rfl rfl (Nat.le_of_ble_eq_true rfl) rfl ⟨(Nat.le_of_ble_eq_true rfl), (Nat.le_of_ble_eq_true rfl)⟩ (ct_X4_takeDown hfl (hS.sub (Nat.le_of_ble_eq_true rfl) (Nat.le_of_ble_eq_true rfl)) h_r6) ?_
    obtain rfl := Option.some.inj h
    exact hE.2.1 _ _ _ _ _ _ .int dX11_fail_31 rfl rfl (Nat.zero_le _) (Nat.zero_le _) ⟨_, rfl, rfl, rfl⟩
  · rw [k_e4] at h
    replace h := tr_r h
    obtain rfl := Option.some.inj h
    exact ⟨by rw [hE.1.1, hE.1.2]; exact ⟨(Nat.le_of_ble_eq_true rfl), (Nat.le_of_ble_eq_true rfl)⟩, hE.2.2.2.2.1 _ _ _ _ _ _ _ rfl (Nat.le_of_ble_eq_true rfl) (Nat.le_of_ble_eq_true rfl) ⟨_, rfl, rfl, rfl⟩⟩
def f_X11_fix (v1 : Int32) (m0 : me) : Option ((Int32 ⊕ Nat) × me) :=
  bd (f_X4_faultOfSwitch v1 0 m0) (fun r1 =>
  bd (f_X11_throwFor r1.1 r1.2) (fun r2 =>
  tr r2.1 (fun _ =>
    bd (f_X9_save r2.2) (fun r5 =>
    bd (f_X3_bringUp v1 r5) (fun r6 =>
    some ((.inl r6.1, r6.2))))) (fun e4 => some ((.inr e4, r2.2)))))
set_option maxRecDepth 20000 in
set_option maxHeartbeats 4000000 in
theorem ct_X11_fix (hfl : g.1.stackTraces = false) (hS : pS 0 138 S) {v1 : Int32} {m0 : me} {x : ((Int32 ⊕ Nat) × me)} (h : f_X11_fix v1 m0 = some x) : pm_Ct g mX11_fix [.ref 0, .int v1] (en S m0) (kC x) (nC x) (qTI S x) (qX S x) := by
  refine pm_of (by decide +kernel) rfl hfl (Nat.le_of_ble_eq_true rfl) (fun X hE => ?_)
  show pm_G g mX11_fix X 0 [some (.ref 0), some (.int v1)] [] (en S m0) 0 0
  unfold f_X11_fix at h
  refine pg_aload_n dX11_fix_0 rfl ?_
  refine eg_get dX11_fix_1 fa_X11_12 hS sp0 (Nat.le_of_ble_eq_true rfl) (Nat.le_of_ble_eq_true rfl) rfl rfl ?_
  refine pg_iload_n dX11_fix_4 rfl ?_
  refine pg_iconst 0 dX11_fix_5 rfl ?_
  obtain ⟨r1, h_r1, h⟩ := bd_at h
  refine eg_cVi (C := mX4_faultOfSwitch) (as := [(.int v1), (.int 0)]) dX11_fix_6 mw366 cv_X4_faultOfSwitch hS sp1 (Nat.le_of_ble_eq_true rfl) (Nat.le_of_ble_eq_true rfl) rfl rfl rfl (Nat.le_of_ble_eq_true rfl) rfl ⟨(Nat.le_of_ble_eq_true rfl), (Nat.le_of_ble_eq_true rfl)⟩ (ct_X4_faultOfSwitch hfl (hS.sub (Nat.le_of_ble_eq_true rfl) (Nat.le_of_ble_eq_true rfl)) h_r1) ?_
  obtain ⟨r2, h_r2, h⟩ := bd_at h
  refine eg_tSv (C := mX11_throwFor) (as := [(.int r1.1)]) dX11_fix_9 mw578 cs_X11_throwFor rfl rfl (Nat.le_of_ble_eq_true rfl) rfl ⟨(Nat.le_of_ble_eq_true rfl), (Nat.le_of_ble_eq_true rfl)⟩ (ct_X11_throwFor hfl h_r2) (fun w3 k_w3 => ?_) (fun e4 k_e4 => ?_)
  · rw [k_w3] at h
    replace h := tr_l h
    refine pg_aload_n dX11_fix_12 rfl ?_
    refine eg_get dX11_fix_13 fa_X11_23 hS sp0 (Nat.le_of_ble_eq_true rfl) (Nat.le_of_ble_eq_true rfl) rfl rfl ?_
    refine pg_aload_n dX11_fix_16 rfl ?_
    refine eg_get dX11_fix_17 fa_X11_12 hS sp0 (Nat.le_of_ble_eq_true rfl) (Nat.le_of_ble_eq_true rfl) rfl rfl ?_
    obtain ⟨r5, h_r5, h⟩ := bd_at h
    refine eg_cVv (C := mX9_save) (as := [(.ref 1)]) dX11_fix_20 mw213 cv_X9_save hS sp28 (Nat.le_of_ble_eq_true rfl) (Nat.le_of_ble_eq_true rfl) rfl rfl rfl (Nat.le_of_ble_eq_true rfl) rfl ⟨(Nat.le_of_ble_eq_true rfl), (Nat.le_of_ble_eq_true rfl)⟩ (ct_X9_save hfl (hS.sub (Nat.le_of_ble_eq_true rfl) (Nat.le_of_ble_eq_true rfl)) h_r5) ?_
    refine pg_aload_n dX11_fix_23 rfl ?_
    refine eg_get dX11_fix_24 fa_X11_12 hS sp0 (Nat.le_of_ble_eq_true rfl) (Nat.le_of_ble_eq_true rfl) rfl rfl ?_
    refine eg_get dX11_fix_27 fa_X11_112 hS sp1 (Nat.le_of_ble_eq_true rfl) (Nat.le_of_ble_eq_true rfl) rfl rfl ?_
    refine pg_iload_n dX11_fix_30 rfl ?_
    obtain ⟨r6, h_r6, h⟩ := bd_at h
    refine eg_cVi (C := mX3_bringUp) (as := [(.int v1)]) dX11_fix_31 mw335 cv_X3_bringUp hS sp11 (Nat.le_of_ble_eq_true rfl) (Nat.le_of_ble_eq_true rfl) rfl rfl rfl (Nat.le_of_ble_eq_true rfl) rfl ⟨(Nat.le_of_ble_eq_true rfl), (Nat.le_of_ble_eq_true rfl)⟩ (ct_X3_bringUp hfl (hS.sub (Nat.le_of_ble_eq_true rfl) (Nat.le_of_ble_eq_true rfl)) h_r6) ?_
    obtain rfl := Option.some.inj h
    exact hE.2.1 _ _ _ _ _ _ .int dX11_fix_34 rfl rfl (Nat.zero_le _) (Nat.zero_le _) ⟨_, rfl, rfl, rfl⟩
  · rw [k_e4] at h
    replace h := tr_r h
    obtain rfl := Option.some.inj h
    exact ⟨by rw [hE.1.1, hE.1.2]; exact ⟨(Nat.le_of_ble_eq_true rfl), (Nat.le_of_ble_eq_true rfl)⟩, hE.2.2.2.2.1 _ _ _ _ _ _ _ rfl (Nat.le_of_ble_eq_true rfl) (Nat.le_of_ble_eq_true rfl) ⟨_, rfl, rfl, rfl⟩⟩
def f_X11_moveHost (v1 : Int32) (v2 : Int32) (m0 : me) : Option ((Int32 ⊕ Nat) × me) :=
  bd (f_X4_faultOfMove v1 v2 m0) (fun r1 =>
  bd (f_X11_throwFor r1.1 r1.2) (fun r2 =>
  tr r2.1 (fun _ =>
    bd (f_X9_save r2.2) (fun r5 =>
    bd (f_X1_placeHost v1 v2 r5) (fun r6 =>
    some ((.inl r6.1, r6.2))))) (fun e4 => some ((.inr e4, r2.2)))))
set_option maxRecDepth 20000 in
set_option maxHeartbeats 4000000 in
theorem ct_X11_moveHost (hfl : g.1.stackTraces = false) (hS : pS 0 138 S) {v1 : Int32} {v2 : Int32} {m0 : me} {x : ((Int32 ⊕ Nat) × me)} (h : f_X11_moveHost v1 v2 m0 = some x) : pm_Ct g mX11_moveHost [.ref 0, .int v1, .int v2] (en S m0) (kC x) (nC x) (qTI S x) (qX S x) := by
  refine pm_of (by decide +kernel) rfl hfl (Nat.le_of_ble_eq_true rfl) (fun X hE => ?_)
  show pm_G g mX11_moveHost X 0 [some (.ref 0), some (.int v1), some (.int v2)] [] (en S m0) 0 0
  unfold f_X11_moveHost at h
  refine pg_aload_n dX11_moveHost_0 rfl ?_
  refine eg_get dX11_moveHost_1 fa_X11_12 hS sp0 (Nat.le_of_ble_eq_true rfl) (Nat.le_of_ble_eq_true rfl) rfl rfl ?_
  refine pg_iload_n dX11_moveHost_4 rfl ?_
  refine pg_iload_n dX11_moveHost_5 rfl ?_
  obtain ⟨r1, h_r1, h⟩ := bd_at h
  refine eg_cVi (C := mX4_faultOfMove) (as := [(.int v1), (.int v2)]) dX11_moveHost_6 mw376 cv_X4_faultOfMove hS sp1 (Nat.le_of_ble_eq_true rfl) (Nat.le_of_ble_eq_true rfl) rfl rfl rfl (Nat.le_of_ble_eq_true rfl) rfl ⟨(Nat.le_of_ble_eq_true rfl), (Nat.le_of_ble_eq_true rfl)⟩ (ct_X4_faultOfMove hfl (hS.sub (Nat.le_of_ble_eq_true rfl) (Nat.le_of_ble_eq_true rfl)) h_r1) ?_
  obtain ⟨r2, h_r2, h⟩ := bd_at h
  refine eg_tSv (C := mX11_throwFor) (as := [(.int r1.1)]) dX11_moveHost_9 mw578 cs_X11_throwFor rfl rfl (Nat.le_of_ble_eq_true rfl) rfl ⟨(Nat.le_of_ble_eq_true rfl), (Nat.le_of_ble_eq_true rfl)⟩ (ct_X11_throwFor hfl h_r2) (fun w3 k_w3 => ?_) (fun e4 k_e4 => ?_)
  · rw [k_w3] at h
    replace h := tr_l h
    refine pg_aload_n dX11_moveHost_12 rfl ?_
    refine eg_get dX11_moveHost_13 fa_X11_23 hS sp0 (Nat.le_of_ble_eq_true rfl) (Nat.le_of_ble_eq_true rfl) rfl rfl ?_
    refine pg_aload_n dX11_moveHost_16 rfl ?_
    refine eg_get dX11_moveHost_17 fa_X11_12 hS sp0 (Nat.le_of_ble_eq_true rfl) (Nat.le_of_ble_eq_true rfl) rfl rfl ?_
    obtain ⟨r5, h_r5, h⟩ := bd_at h
    refine eg_cVv (C := mX9_save) (as := [(.ref 1)]) dX11_moveHost_20 mw213 cv_X9_save hS sp28 (Nat.le_of_ble_eq_true rfl) (Nat.le_of_ble_eq_true rfl) rfl rfl rfl (Nat.le_of_ble_eq_true rfl) rfl ⟨(Nat.le_of_ble_eq_true rfl), (Nat.le_of_ble_eq_true rfl)⟩ (ct_X9_save hfl (hS.sub (Nat.le_of_ble_eq_true rfl) (Nat.le_of_ble_eq_true rfl)) h_r5) ?_
    refine pg_aload_n dX11_moveHost_23 rfl ?_
    refine eg_get dX11_moveHost_24 fa_X11_12 hS sp0 (Nat.le_of_ble_eq_true rfl) (Nat.le_of_ble_eq_true rfl) rfl rfl ?_
    refine eg_get dX11_moveHost_27 fa_X11_99 hS sp1 (Nat.le_of_ble_eq_true rfl) (Nat.le_of_ble_eq_true rfl) rfl rfl ?_
    refine pg_iload_n dX11_moveHost_30 rfl ?_
    refine pg_iload_n dX11_moveHost_31 rfl ?_
    obtain ⟨r6, h_r6, h⟩ := bd_at h
    refine eg_cVi (C := mX1_placeHost) (as := [(.int v1), (.int v2)]) dX11_moveHost_32 mw346 cv_X1_placeHost hS sp2 (Nat.le_of_ble_eq_true rfl) (Nat.le_of_ble_eq_true rfl) rfl rfl rfl (Nat.le_of_ble_eq_true rfl) rfl ⟨(Nat.le_of_ble_eq_true rfl), (Nat.le_of_ble_eq_true rfl)⟩ (ct_X1_placeHost hfl (hS.sub (Nat.le_of_ble_eq_true rfl) (Nat.le_of_ble_eq_true rfl)) h_r6) ?_
    obtain rfl := Option.some.inj h
    exact hE.2.1 _ _ _ _ _ _ .int dX11_moveHost_35 rfl rfl (Nat.zero_le _) (Nat.zero_le _) ⟨_, rfl, rfl, rfl⟩
  · rw [k_e4] at h
    replace h := tr_r h
    obtain rfl := Option.some.inj h
    exact ⟨by rw [hE.1.1, hE.1.2]; exact ⟨(Nat.le_of_ble_eq_true rfl), (Nat.le_of_ble_eq_true rfl)⟩, hE.2.2.2.2.1 _ _ _ _ _ _ _ rfl (Nat.le_of_ble_eq_true rfl) (Nat.le_of_ble_eq_true rfl) ⟨_, rfl, rfl, rfl⟩⟩
def f_X11_bid (v1 : Int32) (v2 : Int32) (v3 : Int32) (m0 : me) : Option ((Int32 ⊕ Nat) × me) :=
  bd (f_X4_faultOfBid v1 v2 v3 m0) (fun r1 =>
  bd (f_X11_throwFor r1.1 r1.2) (fun r2 =>
  tr r2.1 (fun _ =>
    bd (f_X9_save r2.2) (fun r5 =>
    bd (f_X8_changeBid v1 v2 v3 r5) (fun r6 =>
    some ((.inl r6.1, r6.2))))) (fun e4 => some ((.inr e4, r2.2)))))
set_option maxRecDepth 20000 in
set_option maxHeartbeats 4000000 in
theorem ct_X11_bid (hfl : g.1.stackTraces = false) (hS : pS 0 138 S) {v1 : Int32} {v2 : Int32} {v3 : Int32} {m0 : me} {x : ((Int32 ⊕ Nat) × me)} (h : f_X11_bid v1 v2 v3 m0 = some x) : pm_Ct g mX11_bid [.ref 0, .int v1, .int v2, .int v3] (en S m0) (kC x) (nC x) (qTI S x) (qX S x) := by
  refine pm_of (by decide +kernel) rfl hfl (Nat.le_of_ble_eq_true rfl) (fun X hE => ?_)
  show pm_G g mX11_bid X 0 [some (.ref 0), some (.int v1), some (.int v2), some (.int v3)] [] (en S m0) 0 0
  unfold f_X11_bid at h
  refine pg_aload_n dX11_bid_0 rfl ?_
  refine eg_get dX11_bid_1 fa_X11_12 hS sp0 (Nat.le_of_ble_eq_true rfl) (Nat.le_of_ble_eq_true rfl) rfl rfl ?_
  refine pg_iload_n dX11_bid_4 rfl ?_
  refine pg_iload_n dX11_bid_5 rfl ?_
  refine pg_iload_n dX11_bid_6 rfl ?_
  obtain ⟨r1, h_r1, h⟩ := bd_at h
  refine eg_cVi (C := mX4_faultOfBid) (as := [(.int v1), (.int v2), (.int v3)]) dX11_bid_7 mw361 cv_X4_faultOfBid hS sp1 (Nat.le_of_ble_eq_true rfl) (Nat.le_of_ble_eq_true rfl) rfl rfl rfl (Nat.le_of_ble_eq_true rfl) rfl ⟨(Nat.le_of_ble_eq_true rfl), (Nat.le_of_ble_eq_true rfl)⟩ (ct_X4_faultOfBid hfl (hS.sub (Nat.le_of_ble_eq_true rfl) (Nat.le_of_ble_eq_true rfl)) h_r1) ?_
  obtain ⟨r2, h_r2, h⟩ := bd_at h
  refine eg_tSv (C := mX11_throwFor) (as := [(.int r1.1)]) dX11_bid_10 mw578 cs_X11_throwFor rfl rfl (Nat.le_of_ble_eq_true rfl) rfl ⟨(Nat.le_of_ble_eq_true rfl), (Nat.le_of_ble_eq_true rfl)⟩ (ct_X11_throwFor hfl h_r2) (fun w3 k_w3 => ?_) (fun e4 k_e4 => ?_)
  · rw [k_w3] at h
    replace h := tr_l h
    refine pg_aload_n dX11_bid_13 rfl ?_
    refine eg_get dX11_bid_14 fa_X11_23 hS sp0 (Nat.le_of_ble_eq_true rfl) (Nat.le_of_ble_eq_true rfl) rfl rfl ?_
    refine pg_aload_n dX11_bid_17 rfl ?_
    refine eg_get dX11_bid_18 fa_X11_12 hS sp0 (Nat.le_of_ble_eq_true rfl) (Nat.le_of_ble_eq_true rfl) rfl rfl ?_
    obtain ⟨r5, h_r5, h⟩ := bd_at h
    refine eg_cVv (C := mX9_save) (as := [(.ref 1)]) dX11_bid_21 mw213 cv_X9_save hS sp28 (Nat.le_of_ble_eq_true rfl) (Nat.le_of_ble_eq_true rfl) rfl rfl rfl (Nat.le_of_ble_eq_true rfl) rfl ⟨(Nat.le_of_ble_eq_true rfl), (Nat.le_of_ble_eq_true rfl)⟩ (ct_X9_save hfl (hS.sub (Nat.le_of_ble_eq_true rfl) (Nat.le_of_ble_eq_true rfl)) h_r5) ?_
    refine pg_aload_n dX11_bid_24 rfl ?_
    refine eg_get dX11_bid_25 fa_X11_12 hS sp0 (Nat.le_of_ble_eq_true rfl) (Nat.le_of_ble_eq_true rfl) rfl rfl ?_
    refine eg_get dX11_bid_28 fa_X11_141 hS sp1 (Nat.le_of_ble_eq_true rfl) (Nat.le_of_ble_eq_true rfl) rfl rfl ?_
    refine pg_iload_n dX11_bid_31 rfl ?_
    refine pg_iload_n dX11_bid_32 rfl ?_
    refine pg_iload_n dX11_bid_33 rfl ?_
    obtain ⟨r6, h_r6, h⟩ := bd_at h
    refine eg_cVi (C := mX8_changeBid) (as := [(.int v1), (.int v2), (.int v3)]) dX11_bid_34 mw325 cv_X8_changeBid hS sp23 (Nat.le_of_ble_eq_true rfl) (Nat.le_of_ble_eq_true rfl) rfl rfl rfl (Nat.le_of_ble_eq_true rfl) rfl ⟨(Nat.le_of_ble_eq_true rfl), (Nat.le_of_ble_eq_true rfl)⟩ (ct_X8_changeBid hfl (hS.sub (Nat.le_of_ble_eq_true rfl) (Nat.le_of_ble_eq_true rfl)) h_r6) ?_
    obtain rfl := Option.some.inj h
    exact hE.2.1 _ _ _ _ _ _ .int dX11_bid_37 rfl rfl (Nat.zero_le _) (Nat.zero_le _) ⟨_, rfl, rfl, rfl⟩
  · rw [k_e4] at h
    replace h := tr_r h
    obtain rfl := Option.some.inj h
    exact ⟨by rw [hE.1.1, hE.1.2]; exact ⟨(Nat.le_of_ble_eq_true rfl), (Nat.le_of_ble_eq_true rfl)⟩, hE.2.2.2.2.1 _ _ _ _ _ _ _ rfl (Nat.le_of_ble_eq_true rfl) (Nat.le_of_ble_eq_true rfl) ⟨_, rfl, rfl, rfl⟩⟩
def f_X11_grant (v1 : Int32) (v2 : Int32) (m0 : me) : Option ((Int32 ⊕ Nat) × me) :=
  bd (f_X11_isOutside v1 0 3 m0) (fun r1 =>
  if r1.1 = 0 then
    bd (f_X11_isOutside v2 0 10000 r1.2) (fun r3 =>
    if r3.1 = 0 then
      gd (inR v1 4) (
      if ((r3.2.1 24 v1.toNatClampNeg) + v2) ≤ 1000000 then
        bd (f_X9_save r3.2) (fun r6 =>
        gd (inR v1 4) (
        gd (inR v1 4) (
        lt (wI r6 24 v1.toNatClampNeg ((r6.1 24 v1.toNatClampNeg) + v2)) (fun m7 =>
        gd (inR v1 4) (
        some ((.inl (m7.1 24 v1.toNatClampNeg), m7)))))))
      else
        some ((.inr 2, r3.2)))
    else
      some ((.inr 1, r3.2)))
  else
    some ((.inr 0, r1.2)))
set_option maxRecDepth 20000 in
set_option maxHeartbeats 4000000 in
theorem ct_X11_grant (hfl : g.1.stackTraces = false) (hS : pS 0 138 S) {v1 : Int32} {v2 : Int32} {m0 : me} {x : ((Int32 ⊕ Nat) × me)} (h : f_X11_grant v1 v2 m0 = some x) : pm_Ct g mX11_grant [.ref 0, .int v1, .int v2] (en S m0) (kC x) (nC x) (qTI S x) (qX S x) := by
  refine pm_of (by decide +kernel) rfl hfl (Nat.le_of_ble_eq_true rfl) (fun X hE => ?_)
  show pm_G g mX11_grant X 0 [some (.ref 0), some (.int v1), some (.int v2)] [] (en S m0) 0 0
  unfold f_X11_grant at h
  refine pg_iload_n dX11_grant_0 rfl ?_
  refine pg_iconst 0 dX11_grant_1 rfl ?_
  refine pg_iconst 3 dX11_grant_2 rfl ?_
  obtain ⟨r1, h_r1, h⟩ := bd_at h
  refine eg_cSi (C := mX11_isOutside) (as := [(.int v1), (.int 0), (.int 3)]) dX11_grant_3 mw390 cs_X11_isOutside rfl rfl (Nat.le_of_ble_eq_true rfl) rfl ⟨(Nat.le_of_ble_eq_true rfl), (Nat.le_of_ble_eq_true rfl)⟩ (ct_X11_isOutside hfl h_r1) ?_
  refine pg_if_eq 19 dX11_grant_6 (by decide) (fun c2 => ?_) (fun c2 => ?_)
  · rw [if_pos c2] at h
    refine pg_iload_n dX11_grant_19 rfl ?_
    refine pg_iconst 0 dX11_grant_20 rfl ?_
    refine pg_sipush 10000 dX11_grant_21 rfl ?_
    obtain ⟨r3, h_r3, h⟩ := bd_at h
    refine eg_cSi (C := mX11_isOutside) (as := [(.int v2), (.int 0), (.int 10000)]) dX11_grant_24 mw390 cs_X11_isOutside rfl rfl (Nat.le_of_ble_eq_true rfl) rfl ⟨(Nat.le_of_ble_eq_true rfl), (Nat.le_of_ble_eq_true rfl)⟩ (ct_X11_isOutside hfl h_r3) ?_
    refine pg_if_eq 40 dX11_grant_27 (by decide) (fun c4 => ?_) (fun c4 => ?_)
    · rw [if_pos c4] at h
      refine pg_aload_n dX11_grant_40 rfl ?_
      refine eg_get dX11_grant_41 fa_X11_12 hS sp0 (Nat.le_of_ble_eq_true rfl) (Nat.le_of_ble_eq_true rfl) rfl rfl ?_
      refine eg_get dX11_grant_44 fa_X11_141 hS sp1 (Nat.le_of_ble_eq_true rfl) (Nat.le_of_ble_eq_true rfl) rfl rfl ?_
      refine eg_get dX11_grant_47 fa_X11_157 hS sp23 (Nat.le_of_ble_eq_true rfl) (Nat.le_of_ble_eq_true rfl) rfl rfl ?_
      refine pg_iload_n dX11_grant_50 rfl ?_
      obtain ⟨g1, h⟩ := gd_at h
      refine eg_ialdJ v1.toNatClampNeg dX11_grant_51 hS sp24 (Nat.le_of_ble_eq_true rfl) (Nat.le_of_ble_eq_true rfl) rfl (inR_vp g1) rfl ?_
      refine pg_iload_n dX11_grant_52 rfl ?_
      refine pg_iadd dX11_grant_53 ?_
      refine pg_ldc dX11_grant_54 mw683 ?_
      refine pg_icmp_le 69 dX11_grant_56 (by decide) (fun c5 => ?_) (fun c5 => ?_)
      · rw [if_pos c5] at h
        refine pg_aload_n dX11_grant_69 rfl ?_
        refine eg_get dX11_grant_70 fa_X11_23 hS sp0 (Nat.le_of_ble_eq_true rfl) (Nat.le_of_ble_eq_true rfl) rfl rfl ?_
        refine pg_aload_n dX11_grant_73 rfl ?_
        refine eg_get dX11_grant_74 fa_X11_12 hS sp0 (Nat.le_of_ble_eq_true rfl) (Nat.le_of_ble_eq_true rfl) rfl rfl ?_
        obtain ⟨r6, h_r6, h⟩ := bd_at h
        refine eg_cVv (C := mX9_save) (as := [(.ref 1)]) dX11_grant_77 mw213 cv_X9_save hS sp28 (Nat.le_of_ble_eq_true rfl) (Nat.le_of_ble_eq_true rfl) rfl rfl rfl (Nat.le_of_ble_eq_true rfl) rfl ⟨(Nat.le_of_ble_eq_true rfl), (Nat.le_of_ble_eq_true rfl)⟩ (ct_X9_save hfl (hS.sub (Nat.le_of_ble_eq_true rfl) (Nat.le_of_ble_eq_true rfl)) h_r6) ?_
        refine pg_aload_n dX11_grant_80 rfl ?_
        refine eg_get dX11_grant_81 fa_X11_12 hS sp0 (Nat.le_of_ble_eq_true rfl) (Nat.le_of_ble_eq_true rfl) rfl rfl ?_
        refine eg_get dX11_grant_84 fa_X11_141 hS sp1 (Nat.le_of_ble_eq_true rfl) (Nat.le_of_ble_eq_true rfl) rfl rfl ?_
        refine eg_get dX11_grant_87 fa_X11_157 hS sp23 (Nat.le_of_ble_eq_true rfl) (Nat.le_of_ble_eq_true rfl) rfl rfl ?_
        refine pg_iload_n dX11_grant_90 rfl ?_
        refine pg_dup2 dX11_grant_91 rfl rfl ?_
        obtain ⟨g1, h⟩ := gd_at h
        refine eg_ialdJ v1.toNatClampNeg dX11_grant_92 hS sp24 (Nat.le_of_ble_eq_true rfl) (Nat.le_of_ble_eq_true rfl) rfl (inR_vp g1) rfl ?_
        refine pg_iload_n dX11_grant_93 rfl ?_
        refine pg_iadd dX11_grant_94 ?_
        obtain ⟨g1, h⟩ := gd_at h
        refine eg_iastJ v1.toNatClampNeg dX11_grant_95 hS sp24 (Nat.le_of_ble_eq_true rfl) (Nat.le_of_ble_eq_true rfl) (fun _ _ _ => rfl) (inR_vp g1) rfl (fun m7 e_m7 => ?_)
        replace h := lt_at h e_m7
        refine pg_aload_n dX11_grant_96 rfl ?_
        refine eg_get dX11_grant_97 fa_X11_12 hS sp0 (Nat.le_of_ble_eq_true rfl) (Nat.le_of_ble_eq_true rfl) rfl rfl ?_
        refine eg_get dX11_grant_100 fa_X11_141 hS sp1 (Nat.le_of_ble_eq_true rfl) (Nat.le_of_ble_eq_true rfl) rfl rfl ?_
        refine eg_get dX11_grant_103 fa_X11_157 hS sp23 (Nat.le_of_ble_eq_true rfl) (Nat.le_of_ble_eq_true rfl) rfl rfl ?_
        refine pg_iload_n dX11_grant_106 rfl ?_
        obtain ⟨g1, h⟩ := gd_at h
        refine eg_ialdJ v1.toNatClampNeg dX11_grant_107 hS sp24 (Nat.le_of_ble_eq_true rfl) (Nat.le_of_ble_eq_true rfl) rfl (inR_vp g1) rfl ?_
        obtain rfl := Option.some.inj h
        exact hE.2.1 _ _ _ _ _ _ .int dX11_grant_108 rfl rfl (Nat.zero_le _) (Nat.zero_le _) ⟨_, rfl, rfl, rfl⟩
      · rw [if_neg c5] at h
        obtain rfl := Option.some.inj h
        exact hE.2.2.2.2.2.1 _ _ _ _ _ _ _ _ _ _ _ th9 rfl rfl dX11_grant_59 dX11_grant_62 dX11_grant_63 dX11_grant_65 dX11_grant_68 rfl (Nat.le_of_ble_eq_true rfl) (Nat.le_of_ble_eq_true rfl) (Nat.le_of_ble_eq_true rfl) (Nat.le_of_ble_eq_true rfl) ⟨_, rfl, rfl, rfl⟩
    · rw [if_neg c4] at h
      obtain rfl := Option.some.inj h
      exact hE.2.2.2.2.2.1 _ _ _ _ _ _ _ _ _ _ _ th10 rfl rfl dX11_grant_30 dX11_grant_33 dX11_grant_34 dX11_grant_36 dX11_grant_39 rfl (Nat.le_of_ble_eq_true rfl) (Nat.le_of_ble_eq_true rfl) (Nat.le_of_ble_eq_true rfl) (Nat.le_of_ble_eq_true rfl) ⟨_, rfl, rfl, rfl⟩
  · rw [if_neg c2] at h
    obtain rfl := Option.some.inj h
    exact hE.2.2.2.2.2.1 _ _ _ _ _ _ _ _ _ _ _ th6 rfl rfl dX11_grant_9 dX11_grant_12 dX11_grant_13 dX11_grant_15 dX11_grant_18 rfl (Nat.le_of_ble_eq_true rfl) (Nat.le_of_ble_eq_true rfl) (Nat.le_of_ble_eq_true rfl) (Nat.le_of_ble_eq_true rfl) ⟨_, rfl, rfl, rfl⟩
def f_X11_tick (v1 : Int32) (m0 : me) : Option ((Int32 ⊕ Nat) × me) :=
  bd (f_X11_faultOfTicks v1 m0) (fun r1 =>
  bd (f_X11_throwFor r1.1 r1.2) (fun r2 =>
  tr r2.1 (fun _ =>
    bd (f_X9_save r2.2) (fun r5 =>
    bd (f_X11_passTicks v1 r5) (fun r6 =>
    some ((.inl (r6.1 1 1), r6))))) (fun e4 => some ((.inr e4, r2.2)))))
set_option maxRecDepth 20000 in
set_option maxHeartbeats 4000000 in
theorem ct_X11_tick (hfl : g.1.stackTraces = false) (hS : pS 0 138 S) {v1 : Int32} {m0 : me} {x : ((Int32 ⊕ Nat) × me)} (h : f_X11_tick v1 m0 = some x) : pm_Ct g mX11_tick [.ref 0, .int v1] (en S m0) (kC x) (nC x) (qTI S x) (qX S x) := by
  refine pm_of (by decide +kernel) rfl hfl (Nat.le_of_ble_eq_true rfl) (fun X hE => ?_)
  show pm_G g mX11_tick X 0 [some (.ref 0), some (.int v1)] [] (en S m0) 0 0
  unfold f_X11_tick at h
  refine pg_iload_n dX11_tick_0 rfl ?_
  obtain ⟨r1, h_r1, h⟩ := bd_at h
  refine eg_cSi (C := mX11_faultOfTicks) (as := [(.int v1)]) dX11_tick_1 mw381 cs_X11_faultOfTicks rfl rfl (Nat.le_of_ble_eq_true rfl) rfl ⟨(Nat.le_of_ble_eq_true rfl), (Nat.le_of_ble_eq_true rfl)⟩ (ct_X11_faultOfTicks hfl h_r1) ?_
  obtain ⟨r2, h_r2, h⟩ := bd_at h
  refine eg_tSv (C := mX11_throwFor) (as := [(.int r1.1)]) dX11_tick_4 mw578 cs_X11_throwFor rfl rfl (Nat.le_of_ble_eq_true rfl) rfl ⟨(Nat.le_of_ble_eq_true rfl), (Nat.le_of_ble_eq_true rfl)⟩ (ct_X11_throwFor hfl h_r2) (fun w3 k_w3 => ?_) (fun e4 k_e4 => ?_)
  · rw [k_w3] at h
    replace h := tr_l h
    refine pg_aload_n dX11_tick_7 rfl ?_
    refine eg_get dX11_tick_8 fa_X11_23 hS sp0 (Nat.le_of_ble_eq_true rfl) (Nat.le_of_ble_eq_true rfl) rfl rfl ?_
    refine pg_aload_n dX11_tick_11 rfl ?_
    refine eg_get dX11_tick_12 fa_X11_12 hS sp0 (Nat.le_of_ble_eq_true rfl) (Nat.le_of_ble_eq_true rfl) rfl rfl ?_
    obtain ⟨r5, h_r5, h⟩ := bd_at h
    refine eg_cVv (C := mX9_save) (as := [(.ref 1)]) dX11_tick_15 mw213 cv_X9_save hS sp28 (Nat.le_of_ble_eq_true rfl) (Nat.le_of_ble_eq_true rfl) rfl rfl rfl (Nat.le_of_ble_eq_true rfl) rfl ⟨(Nat.le_of_ble_eq_true rfl), (Nat.le_of_ble_eq_true rfl)⟩ (ct_X9_save hfl (hS.sub (Nat.le_of_ble_eq_true rfl) (Nat.le_of_ble_eq_true rfl)) h_r5) ?_
    refine pg_aload_n dX11_tick_18 rfl ?_
    refine pg_iload_n dX11_tick_19 rfl ?_
    obtain ⟨r6, h_r6, h⟩ := bd_at h
    refine eg_cVv (C := mX11_passTicks) (as := [(.int v1)]) dX11_tick_20 mw351 cv_X11_passTicks hS sp0 (Nat.le_of_ble_eq_true rfl) (Nat.le_of_ble_eq_true rfl) rfl rfl rfl (Nat.le_of_ble_eq_true rfl) rfl ⟨(Nat.le_of_ble_eq_true rfl), (Nat.le_of_ble_eq_true rfl)⟩ (ct_X11_passTicks hfl (hS.sub (Nat.le_of_ble_eq_true rfl) (Nat.le_of_ble_eq_true rfl)) h_r6) ?_
    refine pg_aload_n dX11_tick_23 rfl ?_
    refine eg_get dX11_tick_24 fa_X11_12 hS sp0 (Nat.le_of_ble_eq_true rfl) (Nat.le_of_ble_eq_true rfl) rfl rfl ?_
    refine eg_get dX11_tick_27 fa_X11_173 hS sp1 (Nat.le_of_ble_eq_true rfl) (Nat.le_of_ble_eq_true rfl) rfl rfl ?_
    obtain rfl := Option.some.inj h
    exact hE.2.1 _ _ _ _ _ _ .int dX11_tick_30 rfl rfl (Nat.zero_le _) (Nat.zero_le _) ⟨_, rfl, rfl, rfl⟩
  · rw [k_e4] at h
    replace h := tr_r h
    obtain rfl := Option.some.inj h
    exact ⟨by rw [hE.1.1, hE.1.2]; exact ⟨(Nat.le_of_ble_eq_true rfl), (Nat.le_of_ble_eq_true rfl)⟩, hE.2.2.2.2.1 _ _ _ _ _ _ _ rfl (Nat.le_of_ble_eq_true rfl) (Nat.le_of_ble_eq_true rfl) ⟨_, rfl, rfl, rfl⟩⟩
def f_X2_receive (v2 : Int32) (v3 : Int32) (v4 : Int32) (m0 : me) : Option me :=
  gd (inR v2 8) (
  if (m0.1 123 v2.toNatClampNeg) = 0 then
    if (m0.1 122 3) < 8 then
      gd (inR v2 8) (
      lt (wI m0 123 v2.toNatClampNeg 1) (fun m3 =>
      gd (inR v2 8) (
      lt (wI m3 124 v2.toNatClampNeg v3) (fun m4 =>
      gd (inR (m4.1 122 3) 8) (
      lt (wI m4 125 ((m4.1 122 3).toNatClampNeg) v2) (fun m5 =>
      lt (wI m5 122 3 ((m5.1 122 3) + 1)) (fun m6 =>
      bd (f_X1_makeEntry v2 v4 v3 (m6.1 1 1) m6) (fun r7 =>
      some (r7)))))))))
    else
      some (m0)
  else
    some (m0))
set_option maxRecDepth 20000 in
set_option maxHeartbeats 4000000 in
theorem ct_X2_receive (hfl : g.1.stackTraces = false) (hS : pS 0 138 S) {v2 : Int32} {v3 : Int32} {v4 : Int32} {m0 : me} {x : me} (h : f_X2_receive v2 v3 v4 m0 = some x) : pm_Ct g mX2_receive [.ref 122, .ref 1, .int v2, .int v3, .int v4] (en S m0) 0 0 (qV S x) qF := by
  refine pm_of (by decide +kernel) rfl hfl (Nat.le_of_ble_eq_true rfl) (fun X hE => ?_)
  show pm_G g mX2_receive X 0 [some (.ref 122), some (.ref 1), some (.int v2), some (.int v3), some (.int v4)] [] (en S m0) 0 0
  unfold f_X2_receive at h
  refine pg_aload_n dX2_receive_0 rfl ?_
  refine eg_get dX2_receive_1 fa_X2_9 hS sp122 (Nat.le_of_ble_eq_true rfl) (Nat.le_of_ble_eq_true rfl) rfl rfl ?_
  refine pg_iload_n dX2_receive_4 rfl ?_
  obtain ⟨g1, h⟩ := gd_at h
  refine eg_zaldJ v2.toNatClampNeg dX2_receive_5 hS sp123 (Nat.le_of_ble_eq_true rfl) (Nat.le_of_ble_eq_true rfl) rfl (inR_vp g1) rfl ?_
  refine pg_if_ne 18 dX2_receive_6 (by decide) (fun c1 => ?_) (fun c1 => ?_)
  · rw [if_neg c1] at h
    obtain rfl := Option.some.inj h
    exact hE.2.2.1 _ _ _ _ _ dX2_receive_18 rfl (Nat.zero_le _) (Nat.zero_le _) ⟨rfl, rfl⟩
  · rw [if_pos c1] at h
    refine pg_aload_n dX2_receive_9 rfl ?_
    refine eg_get dX2_receive_10 fa_X2_22 hS sp122 (Nat.le_of_ble_eq_true rfl) (Nat.le_of_ble_eq_true rfl) rfl rfl ?_
    refine pg_bipush 8 dX2_receive_13 rfl ?_
    refine pg_icmp_lt 19 dX2_receive_15 (by decide) (fun c2 => ?_) (fun c2 => ?_)
    · rw [if_pos c2] at h
      refine pg_aload_n dX2_receive_19 rfl ?_
      refine eg_get dX2_receive_20 fa_X2_9 hS sp122 (Nat.le_of_ble_eq_true rfl) (Nat.le_of_ble_eq_true rfl) rfl rfl ?_
      refine pg_iload_n dX2_receive_23 rfl ?_
      refine pg_iconst 1 dX2_receive_24 rfl ?_
      obtain ⟨g1, h⟩ := gd_at h
      refine eg_zastJ v2.toNatClampNeg dX2_receive_25 hS sp123 (Nat.le_of_ble_eq_true rfl) (Nat.le_of_ble_eq_true rfl) (fun _ _ _ => rfl) (inR_vp g1) rfl rfl (fun m3 e_m3 => ?_)
      replace h := lt_at h e_m3
      refine pg_aload_n dX2_receive_26 rfl ?_
      refine eg_get dX2_receive_27 fa_X2_15 hS sp122 (Nat.le_of_ble_eq_true rfl) (Nat.le_of_ble_eq_true rfl) rfl rfl ?_
      refine pg_iload_n dX2_receive_30 rfl ?_
      refine pg_iload_n dX2_receive_31 rfl ?_
      obtain ⟨g1, h⟩ := gd_at h
      refine eg_iastJ v2.toNatClampNeg dX2_receive_32 hS sp124 (Nat.le_of_ble_eq_true rfl) (Nat.le_of_ble_eq_true rfl) (fun _ _ _ => rfl) (inR_vp g1) rfl (fun m4 e_m4 => ?_)
      replace h := lt_at h e_m4
      refine pg_aload_n dX2_receive_33 rfl ?_
      refine eg_get dX2_receive_34 fa_X2_19 hS sp122 (Nat.le_of_ble_eq_true rfl) (Nat.le_of_ble_eq_true rfl) rfl rfl ?_
      refine pg_aload_n dX2_receive_37 rfl ?_
      refine eg_get dX2_receive_38 fa_X2_22 hS sp122 (Nat.le_of_ble_eq_true rfl) (Nat.le_of_ble_eq_true rfl) rfl rfl ?_
      refine pg_iload_n dX2_receive_41 rfl ?_
      obtain ⟨g1, h⟩ := gd_at h
      refine eg_iastJ ((m4.1 122 3).toNatClampNeg) dX2_receive_42 hS sp125 (Nat.le_of_ble_eq_true rfl) (Nat.le_of_ble_eq_true rfl) (fun _ _ _ => rfl) (inR_vp g1) rfl (fun m5 e_m5 => ?_)
      replace h := lt_at h e_m5
      refine pg_aload_n dX2_receive_43 rfl ?_
      refine pg_dup dX2_receive_44 rfl ?_
      refine eg_get dX2_receive_45 fa_X2_22 hS sp122 (Nat.le_of_ble_eq_true rfl) (Nat.le_of_ble_eq_true rfl) rfl rfl ?_
      refine pg_iconst 1 dX2_receive_48 rfl ?_
      refine pg_iadd dX2_receive_49 ?_
      refine eg_put dX2_receive_50 fa_X2_22 hS sp122 (Nat.le_of_ble_eq_true rfl) (Nat.le_of_ble_eq_true rfl) rfl (Nat.le_of_ble_eq_true rfl) rfl (fun m6 e_m6 => ?_)
      replace h := lt_at h e_m6
      refine pg_aload_n dX2_receive_53 rfl ?_
      refine eg_get dX2_receive_54 fa_X2_33 hS sp1 (Nat.le_of_ble_eq_true rfl) (Nat.le_of_ble_eq_true rfl) rfl rfl ?_
      refine pg_iload_n dX2_receive_57 rfl ?_
      refine pg_iload dX2_receive_58 rfl ?_
      refine pg_iload_n dX2_receive_60 rfl ?_
      refine pg_aload_n dX2_receive_61 rfl ?_
      refine eg_get dX2_receive_62 fa_X2_57 hS sp1 (Nat.le_of_ble_eq_true rfl) (Nat.le_of_ble_eq_true rfl) rfl rfl ?_
      obtain ⟨r7, h_r7, h⟩ := bd_at h
      refine eg_cVv (C := mX1_makeEntry) (as := [(.int v2), (.int v4), (.int v3), (.int (m6.1 1 1))]) dX2_receive_65 mw718 cv_X1_makeEntry hS sp2 (Nat.le_of_ble_eq_true rfl) (Nat.le_of_ble_eq_true rfl) rfl rfl rfl (Nat.le_of_ble_eq_true rfl) rfl ⟨(Nat.le_of_ble_eq_true rfl), (Nat.le_of_ble_eq_true rfl)⟩ (ct_X1_makeEntry hfl (hS.sub (Nat.le_of_ble_eq_true rfl) (Nat.le_of_ble_eq_true rfl)) h_r7) ?_
      obtain rfl := Option.some.inj h
      exact hE.2.2.1 _ _ _ _ _ dX2_receive_68 rfl (Nat.zero_le _) (Nat.zero_le _) ⟨rfl, rfl⟩
    · rw [if_neg c2] at h
      obtain rfl := Option.some.inj h
      exact hE.2.2.1 _ _ _ _ _ dX2_receive_18 rfl (Nat.zero_le _) (Nat.zero_le _) ⟨rfl, rfl⟩
def f_X3_touches (v1 : Int32) (v2 : Int32) (m0 : me) : Option (Int32 × me) :=
  gd (inR v1 16) (
  if (m0.1 12 v1.toNatClampNeg) = v2 then
    some ((1, m0))
  else
    gd (inR v1 16) (
    if (m0.1 13 v1.toNatClampNeg) = v2 then
      some ((1, m0))
    else
      some ((0, m0))))
set_option maxRecDepth 20000 in
set_option maxHeartbeats 4000000 in
theorem ct_X3_touches (hfl : g.1.stackTraces = false) (hS : pS 1 28 S) {v1 : Int32} {v2 : Int32} {m0 : me} {x : (Int32 × me)} (h : f_X3_touches v1 v2 m0 = some x) : pm_Ct g mX3_touches [.ref 11, .int v1, .int v2] (en S m0) 0 0 (qI S x) qF := by
  refine pm_of (by decide +kernel) rfl hfl (Nat.le_of_ble_eq_true rfl) (fun X hE => ?_)
  show pm_G g mX3_touches X 0 [some (.ref 11), some (.int v1), some (.int v2)] [] (en S m0) 0 0
  unfold f_X3_touches at h
  refine pg_aload_n dX3_touches_0 rfl ?_
  refine eg_get dX3_touches_1 fa_X3_9 hS sp11 (Nat.le_of_ble_eq_true rfl) (Nat.le_of_ble_eq_true rfl) rfl rfl ?_
  refine pg_iload_n dX3_touches_4 rfl ?_
  obtain ⟨g1, h⟩ := gd_at h
  refine eg_ialdJ v1.toNatClampNeg dX3_touches_5 hS sp12 (Nat.le_of_ble_eq_true rfl) (Nat.le_of_ble_eq_true rfl) rfl (inR_vp g1) rfl ?_
  refine pg_iload_n dX3_touches_6 rfl ?_
  refine pg_icmp_eq 20 dX3_touches_7 (by decide) (fun c1 => ?_) (fun c1 => ?_)
  · rw [if_pos c1] at h
    refine pg_iconst 1 dX3_touches_20 rfl ?_
    refine pg_goto 25 dX3_touches_21 (by decide) ?_
    obtain rfl := Option.some.inj h
    exact hE.2.1 _ _ _ _ _ _ .boolean dX3_touches_25 rfl rfl (Nat.zero_le _) (Nat.zero_le _) ⟨rfl, rfl⟩
  · rw [if_neg c1] at h
    refine pg_aload_n dX3_touches_10 rfl ?_
    refine eg_get dX3_touches_11 fa_X3_15 hS sp11 (Nat.le_of_ble_eq_true rfl) (Nat.le_of_ble_eq_true rfl) rfl rfl ?_
    refine pg_iload_n dX3_touches_14 rfl ?_
    obtain ⟨g1, h⟩ := gd_at h
    refine eg_ialdJ v1.toNatClampNeg dX3_touches_15 hS sp13 (Nat.le_of_ble_eq_true rfl) (Nat.le_of_ble_eq_true rfl) rfl (inR_vp g1) rfl ?_
    refine pg_iload_n dX3_touches_16 rfl ?_
    refine pg_icmp_ne 24 dX3_touches_17 (by decide) (fun c2 => ?_) (fun c2 => ?_)
    · rw [if_neg c2] at h
      refine pg_iconst 0 dX3_touches_24 rfl ?_
      obtain rfl := Option.some.inj h
      exact hE.2.1 _ _ _ _ _ _ .boolean dX3_touches_25 rfl rfl (Nat.zero_le _) (Nat.zero_le _) ⟨rfl, rfl⟩
    · rw [if_pos c2] at h
      refine pg_iconst 1 dX3_touches_20 rfl ?_
      refine pg_goto 25 dX3_touches_21 (by decide) ?_
      obtain rfl := Option.some.inj h
      exact hE.2.1 _ _ _ _ _ _ .boolean dX3_touches_25 rfl rfl (Nat.zero_le _) (Nat.zero_le _) ⟨rfl, rfl⟩
def f_X3_otherEnd (v1 : Int32) (v2 : Int32) (m0 : me) : Option (Int32 × me) :=
  gd (inR v1 16) (
  if (m0.1 12 v1.toNatClampNeg) = v2 then
    gd (inR v1 16) (
    some ((m0.1 13 v1.toNatClampNeg, m0)))
  else
    gd (inR v1 16) (
    some ((m0.1 12 v1.toNatClampNeg, m0))))
set_option maxRecDepth 20000 in
set_option maxHeartbeats 4000000 in
theorem ct_X3_otherEnd (hfl : g.1.stackTraces = false) (hS : pS 1 28 S) {v1 : Int32} {v2 : Int32} {m0 : me} {x : (Int32 × me)} (h : f_X3_otherEnd v1 v2 m0 = some x) : pm_Ct g mX3_otherEnd [.ref 11, .int v1, .int v2] (en S m0) 0 0 (qI S x) qF := by
  refine pm_of (by decide +kernel) rfl hfl (Nat.le_of_ble_eq_true rfl) (fun X hE => ?_)
  show pm_G g mX3_otherEnd X 0 [some (.ref 11), some (.int v1), some (.int v2)] [] (en S m0) 0 0
  unfold f_X3_otherEnd at h
  refine pg_aload_n dX3_otherEnd_0 rfl ?_
  refine eg_get dX3_otherEnd_1 fa_X3_9 hS sp11 (Nat.le_of_ble_eq_true rfl) (Nat.le_of_ble_eq_true rfl) rfl rfl ?_
  refine pg_iload_n dX3_otherEnd_4 rfl ?_
  obtain ⟨g1, h⟩ := gd_at h
  refine eg_ialdJ v1.toNatClampNeg dX3_otherEnd_5 hS sp12 (Nat.le_of_ble_eq_true rfl) (Nat.le_of_ble_eq_true rfl) rfl (inR_vp g1) rfl ?_
  refine pg_iload_n dX3_otherEnd_6 rfl ?_
  refine pg_icmp_ne 19 dX3_otherEnd_7 (by decide) (fun c1 => ?_) (fun c1 => ?_)
  · rw [if_neg c1] at h
    refine pg_aload_n dX3_otherEnd_19 rfl ?_
    refine eg_get dX3_otherEnd_20 fa_X3_9 hS sp11 (Nat.le_of_ble_eq_true rfl) (Nat.le_of_ble_eq_true rfl) rfl rfl ?_
    refine pg_iload_n dX3_otherEnd_23 rfl ?_
    obtain ⟨g1, h⟩ := gd_at h
    refine eg_ialdJ v1.toNatClampNeg dX3_otherEnd_24 hS sp12 (Nat.le_of_ble_eq_true rfl) (Nat.le_of_ble_eq_true rfl) rfl (inR_vp g1) rfl ?_
    obtain rfl := Option.some.inj h
    exact hE.2.1 _ _ _ _ _ _ .int dX3_otherEnd_25 rfl rfl (Nat.zero_le _) (Nat.zero_le _) ⟨rfl, rfl⟩
  · rw [if_pos c1] at h
    refine pg_aload_n dX3_otherEnd_10 rfl ?_
    refine eg_get dX3_otherEnd_11 fa_X3_15 hS sp11 (Nat.le_of_ble_eq_true rfl) (Nat.le_of_ble_eq_true rfl) rfl rfl ?_
    refine pg_iload_n dX3_otherEnd_14 rfl ?_
    obtain ⟨g1, h⟩ := gd_at h
    refine eg_ialdJ v1.toNatClampNeg dX3_otherEnd_15 hS sp13 (Nat.le_of_ble_eq_true rfl) (Nat.le_of_ble_eq_true rfl) rfl (inR_vp g1) rfl ?_
    refine pg_goto 25 dX3_otherEnd_16 (by decide) ?_
    obtain rfl := Option.some.inj h
    exact hE.2.1 _ _ _ _ _ _ .int dX3_otherEnd_25 rfl rfl (Nat.zero_le _) (Nat.zero_le _) ⟨rfl, rfl⟩
end
