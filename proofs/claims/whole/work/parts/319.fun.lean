section
variable {g : pm_Gl} {X : pm_X} {S : List sF}
def f_X1_valueOf (v1 : Int32) (v2 : Int32) (m0 : me) : Option (Int32 × me) :=
  if v2 = 0 then
    bd (f_X1_idOf v1 m0) (fun r2 =>
    some ((r2.1, r2.2)))
  else
    if v2 = 1 then
      gd (inR v1 8) (
      some ((m0.1 4 v1.toNatClampNeg, m0)))
    else
      if v2 = 2 then
        gd (inR v1 8) (
        some ((m0.1 5 v1.toNatClampNeg, m0)))
      else
        if v2 = 3 then
          gd (inR v1 8) (
          some ((m0.1 6 v1.toNatClampNeg, m0)))
        else
          if v2 = 4 then
            gd (inR v1 8) (
            some ((m0.1 7 v1.toNatClampNeg, m0)))
          else
            bd (f_X1_countEntries v1 m0) (fun r7 =>
            some ((r7.1, r7.2)))
set_option maxRecDepth 20000 in
set_option maxHeartbeats 4000000 in
theorem ct_X1_valueOf (hfl : g.1.stackTraces = false) (hS : pS 1 28 S) {v1 : Int32} {v2 : Int32} {m0 : me} {x : (Int32 × me)} (h : f_X1_valueOf v1 v2 m0 = some x) : pm_Ct g mX1_valueOf [.ref 2, .int v1, .int v2] (en S m0) 0 0 (qI S x) qF := by
  refine pm_of (by decide +kernel) rfl hfl (Nat.le_of_ble_eq_true rfl) (fun X hE => ?_)
  show pm_G g mX1_valueOf X 0 [some (.ref 2), some (.int v1), some (.int v2)] [] (en S m0) 0 0
  unfold f_X1_valueOf at h
  refine pg_iload_n dX1_valueOf_0 rfl ?_
  by_cases c1 : v2 = 0
  · rw [if_pos c1] at h
    refine pg_tabIn (off := 35) 36 dX1_valueOf_1 (by rw [c1]; decide) (by rw [c1]; decide) (by rw [c1]; decide) (by decide) ?_
    refine pg_aload_n dX1_valueOf_36 rfl ?_
    refine pg_iload_n dX1_valueOf_37 rfl ?_
    obtain ⟨r2, h_r2, h⟩ := bd_at h
    refine eg_cVi (C := mX1_idOf) (as := [(.int v1)]) dX1_valueOf_38 mw148 cv_X1_idOf hS sp2 (Nat.le_of_ble_eq_true rfl) (Nat.le_of_ble_eq_true rfl) rfl rfl rfl (Nat.le_of_ble_eq_true rfl) rfl ⟨(Nat.le_of_ble_eq_true rfl), (Nat.le_of_ble_eq_true rfl)⟩ (ct_X1_idOf hfl (hS.sub (Nat.le_of_ble_eq_true rfl) (Nat.le_of_ble_eq_true rfl)) h_r2) ?_
    obtain rfl := Option.some.inj h
    exact hE.2.1 _ _ _ _ _ _ .int dX1_valueOf_41 rfl rfl (Nat.zero_le _) (Nat.zero_le _) ⟨rfl, rfl⟩
  · rw [if_neg c1] at h
    by_cases c3 : v2 = 1
    · rw [if_pos c3] at h
      refine pg_tabIn (off := 41) 42 dX1_valueOf_1 (by rw [c3]; decide) (by rw [c3]; decide) (by rw [c3]; decide) (by decide) ?_
      refine pg_aload_n dX1_valueOf_42 rfl ?_
      refine eg_get dX1_valueOf_43 fa_X1_15 hS sp2 (Nat.le_of_ble_eq_true rfl) (Nat.le_of_ble_eq_true rfl) rfl rfl ?_
      refine pg_iload_n dX1_valueOf_46 rfl ?_
      obtain ⟨g1, h⟩ := gd_at h
      refine eg_ialdJ v1.toNatClampNeg dX1_valueOf_47 hS sp4 (Nat.le_of_ble_eq_true rfl) (Nat.le_of_ble_eq_true rfl) rfl (inR_vp g1) rfl ?_
      obtain rfl := Option.some.inj h
      exact hE.2.1 _ _ _ _ _ _ .int dX1_valueOf_48 rfl rfl (Nat.zero_le _) (Nat.zero_le _) ⟨rfl, rfl⟩
    · rw [if_neg c3] at h
      by_cases c4 : v2 = 2
      · rw [if_pos c4] at h
        refine pg_tabIn (off := 48) 49 dX1_valueOf_1 (by rw [c4]; decide) (by rw [c4]; decide) (by rw [c4]; decide) (by decide) ?_
        refine pg_aload_n dX1_valueOf_49 rfl ?_
        refine eg_get dX1_valueOf_50 fa_X1_18 hS sp2 (Nat.le_of_ble_eq_true rfl) (Nat.le_of_ble_eq_true rfl) rfl rfl ?_
        refine pg_iload_n dX1_valueOf_53 rfl ?_
        obtain ⟨g1, h⟩ := gd_at h
        refine eg_ialdJ v1.toNatClampNeg dX1_valueOf_54 hS sp5 (Nat.le_of_ble_eq_true rfl) (Nat.le_of_ble_eq_true rfl) rfl (inR_vp g1) rfl ?_
        obtain rfl := Option.some.inj h
        exact hE.2.1 _ _ _ _ _ _ .int dX1_valueOf_55 rfl rfl (Nat.zero_le _) (Nat.zero_le _) ⟨rfl, rfl⟩
      · rw [if_neg c4] at h
        by_cases c5 : v2 = 3
        · rw [if_pos c5] at h
          refine pg_tabIn (off := 55) 56 dX1_valueOf_1 (by rw [c5]; decide) (by rw [c5]; decide) (by rw [c5]; decide) (by decide) ?_
          refine pg_aload_n dX1_valueOf_56 rfl ?_
          refine eg_get dX1_valueOf_57 fa_X1_21 hS sp2 (Nat.le_of_ble_eq_true rfl) (Nat.le_of_ble_eq_true rfl) rfl rfl ?_
          refine pg_iload_n dX1_valueOf_60 rfl ?_
          obtain ⟨g1, h⟩ := gd_at h
          refine eg_ialdJ v1.toNatClampNeg dX1_valueOf_61 hS sp6 (Nat.le_of_ble_eq_true rfl) (Nat.le_of_ble_eq_true rfl) rfl (inR_vp g1) rfl ?_
          obtain rfl := Option.some.inj h
          exact hE.2.1 _ _ _ _ _ _ .int dX1_valueOf_62 rfl rfl (Nat.zero_le _) (Nat.zero_le _) ⟨rfl, rfl⟩
        · rw [if_neg c5] at h
          by_cases c6 : v2 = 4
          · rw [if_pos c6] at h
            refine pg_tabIn (off := 62) 63 dX1_valueOf_1 (by rw [c6]; decide) (by rw [c6]; decide) (by rw [c6]; decide) (by decide) ?_
            refine pg_aload_n dX1_valueOf_63 rfl ?_
            refine eg_get dX1_valueOf_64 fa_X1_24 hS sp2 (Nat.le_of_ble_eq_true rfl) (Nat.le_of_ble_eq_true rfl) rfl rfl ?_
            refine pg_iload_n dX1_valueOf_67 rfl ?_
            obtain ⟨g1, h⟩ := gd_at h
            refine eg_ialdJ v1.toNatClampNeg dX1_valueOf_68 hS sp7 (Nat.le_of_ble_eq_true rfl) (Nat.le_of_ble_eq_true rfl) rfl (inR_vp g1) rfl ?_
            obtain rfl := Option.some.inj h
            exact hE.2.1 _ _ _ _ _ _ .int dX1_valueOf_69 rfl rfl (Nat.zero_le _) (Nat.zero_le _) ⟨rfl, rfl⟩
          · rw [if_neg c6] at h
            have k_c1 := lv_neT c1 (show (0 : Int32).toInt = 0 from rfl)
            have k_c3 := lv_neT c3 (show (1 : Int32).toInt = 1 from rfl)
            have k_c4 := lv_neT c4 (show (2 : Int32).toInt = 2 from rfl)
            have k_c5 := lv_neT c5 (show (3 : Int32).toInt = 3 from rfl)
            have k_c6 := lv_neT c6 (show (4 : Int32).toInt = 4 from rfl)
            refine pg_tabOut 70 dX1_valueOf_1 (by omega) (by decide) ?_
            refine pg_aload_n dX1_valueOf_70 rfl ?_
            refine pg_iload_n dX1_valueOf_71 rfl ?_
            obtain ⟨r7, h_r7, h⟩ := bd_at h
            refine eg_cVi (C := mX1_countEntries) (as := [(.int v1)]) dX1_valueOf_72 mw573 cv_X1_countEntries hS sp2 (Nat.le_of_ble_eq_true rfl) (Nat.le_of_ble_eq_true rfl) rfl rfl rfl (Nat.le_of_ble_eq_true rfl) rfl ⟨(Nat.le_of_ble_eq_true rfl), (Nat.le_of_ble_eq_true rfl)⟩ (ct_X1_countEntries hfl (hS.sub (Nat.le_of_ble_eq_true rfl) (Nat.le_of_ble_eq_true rfl)) h_r7) ?_
            obtain rfl := Option.some.inj h
            exact hE.2.1 _ _ _ _ _ _ .int dX1_valueOf_75 rfl rfl (Nat.zero_le _) (Nat.zero_le _) ⟨rfl, rfl⟩
def f_X11_bridge (v1 : Int32) (v2 : Int32) (m0 : me) : Option ((Int32 ⊕ Nat) × me) :=
  bd (f_X11_isOutside v1 0 ((m0.1 1 0) - 1) m0) (fun r1 =>
  if r1.1 = 0 then
    bd (f_X11_isOutside v2 0 5 r1.2) (fun r3 =>
    if r3.1 = 0 then
      bd (f_X1_valueOf v1 v2 r3.2) (fun r5 =>
      some ((.inl r5.1, r5.2)))
    else
      some ((.inr 1, r3.2)))
  else
    some ((.inr 0, r1.2)))
set_option maxRecDepth 20000 in
set_option maxHeartbeats 4000000 in
theorem ct_X11_bridge (hfl : g.1.stackTraces = false) (hS : pS 0 138 S) {v1 : Int32} {v2 : Int32} {m0 : me} {x : ((Int32 ⊕ Nat) × me)} (h : f_X11_bridge v1 v2 m0 = some x) : pm_Ct g mX11_bridge [.ref 0, .int v1, .int v2] (en S m0) (kC x) (nC x) (qTI S x) (qX S x) := by
  refine pm_of (by decide +kernel) rfl hfl (Nat.le_of_ble_eq_true rfl) (fun X hE => ?_)
  show pm_G g mX11_bridge X 0 [some (.ref 0), some (.int v1), some (.int v2)] [] (en S m0) 0 0
  unfold f_X11_bridge at h
  refine pg_iload_n dX11_bridge_0 rfl ?_
  refine pg_iconst 0 dX11_bridge_1 rfl ?_
  refine pg_aload_n dX11_bridge_2 rfl ?_
  refine eg_get dX11_bridge_3 fa_X11_12 hS sp0 (Nat.le_of_ble_eq_true rfl) (Nat.le_of_ble_eq_true rfl) rfl rfl ?_
  refine eg_get dX11_bridge_6 fa_X11_77 hS sp1 (Nat.le_of_ble_eq_true rfl) (Nat.le_of_ble_eq_true rfl) rfl rfl ?_
  refine pg_iconst 1 dX11_bridge_9 rfl ?_
  refine pg_isub dX11_bridge_10 ?_
  obtain ⟨r1, h_r1, h⟩ := bd_at h
  refine eg_cSi (C := mX11_isOutside) (as := [(.int v1), (.int 0), (.int ((m0.1 1 0) - 1))]) dX11_bridge_11 mw390 cs_X11_isOutside rfl rfl (Nat.le_of_ble_eq_true rfl) rfl ⟨(Nat.le_of_ble_eq_true rfl), (Nat.le_of_ble_eq_true rfl)⟩ (ct_X11_isOutside hfl h_r1) ?_
  refine pg_if_eq 27 dX11_bridge_14 (by decide) (fun c2 => ?_) (fun c2 => ?_)
  · rw [if_pos c2] at h
    refine pg_iload_n dX11_bridge_27 rfl ?_
    refine pg_iconst 0 dX11_bridge_28 rfl ?_
    refine pg_iconst 5 dX11_bridge_29 rfl ?_
    obtain ⟨r3, h_r3, h⟩ := bd_at h
    refine eg_cSi (C := mX11_isOutside) (as := [(.int v2), (.int 0), (.int 5)]) dX11_bridge_30 mw390 cs_X11_isOutside rfl rfl (Nat.le_of_ble_eq_true rfl) rfl ⟨(Nat.le_of_ble_eq_true rfl), (Nat.le_of_ble_eq_true rfl)⟩ (ct_X11_isOutside hfl h_r3) ?_
    refine pg_if_eq 46 dX11_bridge_33 (by decide) (fun c4 => ?_) (fun c4 => ?_)
    · rw [if_pos c4] at h
      refine pg_aload_n dX11_bridge_46 rfl ?_
      refine eg_get dX11_bridge_47 fa_X11_12 hS sp0 (Nat.le_of_ble_eq_true rfl) (Nat.le_of_ble_eq_true rfl) rfl rfl ?_
      refine eg_get dX11_bridge_50 fa_X11_99 hS sp1 (Nat.le_of_ble_eq_true rfl) (Nat.le_of_ble_eq_true rfl) rfl rfl ?_
      refine pg_iload_n dX11_bridge_53 rfl ?_
      refine pg_iload_n dX11_bridge_54 rfl ?_
      obtain ⟨r5, h_r5, h⟩ := bd_at h
      refine eg_cVi (C := mX1_valueOf) (as := [(.int v1), (.int v2)]) dX11_bridge_55 mw568 cv_X1_valueOf hS sp2 (Nat.le_of_ble_eq_true rfl) (Nat.le_of_ble_eq_true rfl) rfl rfl rfl (Nat.le_of_ble_eq_true rfl) rfl ⟨(Nat.le_of_ble_eq_true rfl), (Nat.le_of_ble_eq_true rfl)⟩ (ct_X1_valueOf hfl (hS.sub (Nat.le_of_ble_eq_true rfl) (Nat.le_of_ble_eq_true rfl)) h_r5) ?_
      obtain rfl := Option.some.inj h
      exact hE.2.1 _ _ _ _ _ _ .int dX11_bridge_58 rfl rfl (Nat.zero_le _) (Nat.zero_le _) ⟨_, rfl, rfl, rfl⟩
    · rw [if_neg c4] at h
      obtain rfl := Option.some.inj h
      exact hE.2.2.2.2.2.1 _ _ _ _ _ _ _ _ _ _ _ th0 rfl rfl dX11_bridge_36 dX11_bridge_39 dX11_bridge_40 dX11_bridge_42 dX11_bridge_45 rfl (Nat.le_of_ble_eq_true rfl) (Nat.le_of_ble_eq_true rfl) (Nat.le_of_ble_eq_true rfl) (Nat.le_of_ble_eq_true rfl) ⟨_, rfl, rfl, rfl⟩
  · rw [if_neg c2] at h
    obtain rfl := Option.some.inj h
    exact hE.2.2.2.2.2.1 _ _ _ _ _ _ _ _ _ _ _ th1 rfl rfl dX11_bridge_17 dX11_bridge_20 dX11_bridge_21 dX11_bridge_23 dX11_bridge_26 rfl (Nat.le_of_ble_eq_true rfl) (Nat.le_of_ble_eq_true rfl) (Nat.le_of_ble_eq_true rfl) (Nat.le_of_ble_eq_true rfl) ⟨_, rfl, rfl, rfl⟩
def f_X11_throwFor (v0 : Int32) (m0 : me) : Option ((Unit ⊕ Nat) × me) :=
  if v0 = 1 then
    some ((.inr 0, m0))
  else
    if v0 = 2 then
      some ((.inr 1, m0))
    else
      if v0 = 3 then
        some ((.inr 2, m0))
      else
        some ((.inl (), m0))
set_option maxRecDepth 20000 in
set_option maxHeartbeats 4000000 in
theorem ct_X11_throwFor (hfl : g.1.stackTraces = false) {v0 : Int32} {m0 : me} {x : ((Unit ⊕ Nat) × me)} (h : f_X11_throwFor v0 m0 = some x) : pm_Ct g mX11_throwFor [.int v0] (en S m0) (kC x) (nC x) (qTV S x) (qX S x) := by
  refine pm_of (by decide +kernel) rfl hfl (Nat.le_of_ble_eq_true rfl) (fun X hE => ?_)
  show pm_G g mX11_throwFor X 0 [some (.int v0)] [] (en S m0) 0 0
  unfold f_X11_throwFor at h
  refine pg_iload_n dX11_throwFor_0 rfl ?_
  refine pg_iconst 1 dX11_throwFor_1 rfl ?_
  refine pg_icmp_ne 16 dX11_throwFor_2 (by decide) (fun c1 => ?_) (fun c1 => ?_)
  · rw [if_neg c1] at h
    refine pg_iload_n dX11_throwFor_16 rfl ?_
    refine pg_iconst 2 dX11_throwFor_17 rfl ?_
    refine pg_icmp_ne 32 dX11_throwFor_18 (by decide) (fun c2 => ?_) (fun c2 => ?_)
    · rw [if_neg c2] at h
      refine pg_iload_n dX11_throwFor_32 rfl ?_
      refine pg_iconst 3 dX11_throwFor_33 rfl ?_
      refine pg_icmp_ne 48 dX11_throwFor_34 (by decide) (fun c3 => ?_) (fun c3 => ?_)
      · rw [if_neg c3] at h
        obtain rfl := Option.some.inj h
        exact hE.2.2.1 _ _ _ _ _ dX11_throwFor_48 rfl (Nat.zero_le _) (Nat.zero_le _) ⟨rfl, rfl, rfl⟩
      · rw [if_pos c3] at h
        obtain rfl := Option.some.inj h
        exact hE.2.2.2.2.2.2 _ _ _ _ _ _ _ _ _ _ _ th2 rfl rfl dX11_throwFor_37 dX11_throwFor_40 dX11_throwFor_41 dX11_throwFor_44 dX11_throwFor_47 rfl (Nat.le_of_ble_eq_true rfl) (Nat.le_of_ble_eq_true rfl) (Nat.le_of_ble_eq_true rfl) (Nat.le_of_ble_eq_true rfl) ⟨_, rfl, rfl, rfl⟩
    · rw [if_pos c2] at h
      obtain rfl := Option.some.inj h
      exact hE.2.2.2.2.2.2 _ _ _ _ _ _ _ _ _ _ _ th3 rfl rfl dX11_throwFor_21 dX11_throwFor_24 dX11_throwFor_25 dX11_throwFor_28 dX11_throwFor_31 rfl (Nat.le_of_ble_eq_true rfl) (Nat.le_of_ble_eq_true rfl) (Nat.le_of_ble_eq_true rfl) (Nat.le_of_ble_eq_true rfl) ⟨_, rfl, rfl, rfl⟩
  · rw [if_pos c1] at h
    obtain rfl := Option.some.inj h
    exact hE.2.2.2.2.2.2 _ _ _ _ _ _ _ _ _ _ _ th4 rfl rfl dX11_throwFor_5 dX11_throwFor_8 dX11_throwFor_9 dX11_throwFor_12 dX11_throwFor_15 rfl (Nat.le_of_ble_eq_true rfl) (Nat.le_of_ble_eq_true rfl) (Nat.le_of_ble_eq_true rfl) (Nat.le_of_ble_eq_true rfl) ⟨_, rfl, rfl, rfl⟩
def f_X1_validEntry (v1 : Int32) (v2 : Int32) (v3 : Int32) (m0 : me) : Option (Int32 × me) :=
  lt ((v1 * 8) + v2) (fun w1 =>
  gd (inR w1 64) (
  if 50 < (v3 - (m0.1 10 w1.toNatClampNeg)) then
    some (((-1), m0))
  else
    gd (inR w1 64) (
    some ((m0.1 9 w1.toNatClampNeg, m0)))))
set_option maxRecDepth 20000 in
set_option maxHeartbeats 4000000 in
theorem ct_X1_validEntry (hfl : g.1.stackTraces = false) (hS : pS 1 28 S) {v1 : Int32} {v2 : Int32} {v3 : Int32} {m0 : me} {x : (Int32 × me)} (h : f_X1_validEntry v1 v2 v3 m0 = some x) : pm_Ct g mX1_validEntry [.ref 2, .int v1, .int v2, .int v3] (en S m0) 0 0 (qI S x) qF := by
  refine pm_of (by decide +kernel) rfl hfl (Nat.le_of_ble_eq_true rfl) (fun X hE => ?_)
  show pm_G g mX1_validEntry X 0 [some (.ref 2), some (.int v1), some (.int v2), some (.int v3), none] [] (en S m0) 0 0
  unfold f_X1_validEntry at h
  refine pg_iload_n dX1_validEntry_0 rfl ?_
  refine pg_bipush 8 dX1_validEntry_1 rfl ?_
  refine pg_imul dX1_validEntry_3 ?_
  refine pg_iload_n dX1_validEntry_4 rfl ?_
  refine pg_iadd dX1_validEntry_5 ?_
  obtain ⟨w1, e_w1⟩ : ∃ z : Int32, z = (v1 * 8) + v2 := ⟨_, rfl⟩
  replace h := lt_at h e_w1
  refine eg_istore [some (.ref 2), some (.int v1), some (.int v2), some (.int v3), some (.int w1)] w1 dX1_validEntry_6 e_w1 (Nat.le_of_ble_eq_true rfl) rfl ?_
  refine pg_iload_n dX1_validEntry_8 rfl ?_
  refine pg_aload_n dX1_validEntry_9 rfl ?_
  refine eg_get dX1_validEntry_10 fa_X1_33 hS sp2 (Nat.le_of_ble_eq_true rfl) (Nat.le_of_ble_eq_true rfl) rfl rfl ?_
  refine pg_iload dX1_validEntry_13 rfl ?_
  obtain ⟨g1, h⟩ := gd_at h
  refine eg_ialdJ w1.toNatClampNeg dX1_validEntry_15 hS sp10 (Nat.le_of_ble_eq_true rfl) (Nat.le_of_ble_eq_true rfl) rfl (inR_vp g1) rfl ?_
  refine pg_isub dX1_validEntry_16 ?_
  refine pg_bipush 50 dX1_validEntry_17 rfl ?_
  refine pg_icmp_gt 32 dX1_validEntry_19 (by decide) (fun c2 => ?_) (fun c2 => ?_)
  · rw [if_pos c2] at h
    refine pg_iconst (-1) dX1_validEntry_32 rfl ?_
    obtain rfl := Option.some.inj h
    exact hE.2.1 _ _ _ _ _ _ .int dX1_validEntry_33 rfl rfl (Nat.zero_le _) (Nat.zero_le _) ⟨rfl, rfl⟩
  · rw [if_neg c2] at h
    refine pg_aload_n dX1_validEntry_22 rfl ?_
    refine eg_get dX1_validEntry_23 fa_X1_30 hS sp2 (Nat.le_of_ble_eq_true rfl) (Nat.le_of_ble_eq_true rfl) rfl rfl ?_
    refine pg_iload dX1_validEntry_26 rfl ?_
    obtain ⟨g1, h⟩ := gd_at h
    refine eg_ialdJ w1.toNatClampNeg dX1_validEntry_28 hS sp9 (Nat.le_of_ble_eq_true rfl) (Nat.le_of_ble_eq_true rfl) rfl (inR_vp g1) rfl ?_
    refine pg_goto 33 dX1_validEntry_29 (by decide) ?_
    obtain rfl := Option.some.inj h
    exact hE.2.1 _ _ _ _ _ _ .int dX1_validEntry_33 rfl rfl (Nat.zero_le _) (Nat.zero_le _) ⟨rfl, rfl⟩
def f_X11_entry (v1 : Int32) (v2 : Int32) (m0 : me) : Option ((Int32 ⊕ Nat) × me) :=
  bd (f_X4_faultOfMove v2 v1 m0) (fun r1 =>
  bd (f_X11_throwFor r1.1 r1.2) (fun r2 =>
  tr r2.1 (fun _ =>
    bd (f_X1_validEntry v1 v2 (r2.2.1 1 1) r2.2) (fun r5 =>
    some ((.inl r5.1, r5.2)))) (fun e4 => some ((.inr e4, r2.2)))))
set_option maxRecDepth 20000 in
set_option maxHeartbeats 4000000 in
theorem ct_X11_entry (hfl : g.1.stackTraces = false) (hS : pS 0 138 S) {v1 : Int32} {v2 : Int32} {m0 : me} {x : ((Int32 ⊕ Nat) × me)} (h : f_X11_entry v1 v2 m0 = some x) : pm_Ct g mX11_entry [.ref 0, .int v1, .int v2] (en S m0) (kC x) (nC x) (qTI S x) (qX S x) := by
  refine pm_of (by decide +kernel) rfl hfl (Nat.le_of_ble_eq_true rfl) (fun X hE => ?_)
  show pm_G g mX11_entry X 0 [some (.ref 0), some (.int v1), some (.int v2)] [] (en S m0) 0 0
  unfold f_X11_entry at h
  refine pg_aload_n dX11_entry_0 rfl ?_
  refine eg_get dX11_entry_1 fa_X11_12 hS sp0 (Nat.le_of_ble_eq_true rfl) (Nat.le_of_ble_eq_true rfl) rfl rfl ?_
  refine pg_iload_n dX11_entry_4 rfl ?_
  refine pg_iload_n dX11_entry_5 rfl ?_
  obtain ⟨r1, h_r1, h⟩ := bd_at h
  refine eg_cVi (C := mX4_faultOfMove) (as := [(.int v2), (.int v1)]) dX11_entry_6 mw376 cv_X4_faultOfMove hS sp1 (Nat.le_of_ble_eq_true rfl) (Nat.le_of_ble_eq_true rfl) rfl rfl rfl (Nat.le_of_ble_eq_true rfl) rfl ⟨(Nat.le_of_ble_eq_true rfl), (Nat.le_of_ble_eq_true rfl)⟩ (ct_X4_faultOfMove hfl (hS.sub (Nat.le_of_ble_eq_true rfl) (Nat.le_of_ble_eq_true rfl)) h_r1) ?_
  obtain ⟨r2, h_r2, h⟩ := bd_at h
  refine eg_tSv (C := mX11_throwFor) (as := [(.int r1.1)]) dX11_entry_9 mw578 cs_X11_throwFor rfl rfl (Nat.le_of_ble_eq_true rfl) rfl ⟨(Nat.le_of_ble_eq_true rfl), (Nat.le_of_ble_eq_true rfl)⟩ (ct_X11_throwFor hfl h_r2) (fun w3 k_w3 => ?_) (fun e4 k_e4 => ?_)
  · rw [k_w3] at h
    replace h := tr_l h
    refine pg_aload_n dX11_entry_12 rfl ?_
    refine eg_get dX11_entry_13 fa_X11_12 hS sp0 (Nat.le_of_ble_eq_true rfl) (Nat.le_of_ble_eq_true rfl) rfl rfl ?_
    refine eg_get dX11_entry_16 fa_X11_99 hS sp1 (Nat.le_of_ble_eq_true rfl) (Nat.le_of_ble_eq_true rfl) rfl rfl ?_
    refine pg_iload_n dX11_entry_19 rfl ?_
    refine pg_iload_n dX11_entry_20 rfl ?_
    refine pg_aload_n dX11_entry_21 rfl ?_
    refine eg_get dX11_entry_22 fa_X11_12 hS sp0 (Nat.le_of_ble_eq_true rfl) (Nat.le_of_ble_eq_true rfl) rfl rfl ?_
    refine eg_get dX11_entry_25 fa_X11_173 hS sp1 (Nat.le_of_ble_eq_true rfl) (Nat.le_of_ble_eq_true rfl) rfl rfl ?_
    obtain ⟨r5, h_r5, h⟩ := bd_at h
    refine eg_cVi (C := mX1_validEntry) (as := [(.int v1), (.int v2), (.int (r2.2.1 1 1))]) dX11_entry_28 mw582 cv_X1_validEntry hS sp2 (Nat.le_of_ble_eq_true rfl) (Nat.le_of_ble_eq_true rfl) rfl rfl rfl (Nat.le_of_ble_eq_true rfl) rfl ⟨(Nat.le_of_ble_eq_true rfl), (Nat.le_of_ble_eq_true rfl)⟩ (ct_X1_validEntry hfl (hS.sub (Nat.le_of_ble_eq_true rfl) (Nat.le_of_ble_eq_true rfl)) h_r5) ?_
    obtain rfl := Option.some.inj h
    exact hE.2.1 _ _ _ _ _ _ .int dX11_entry_31 rfl rfl (Nat.zero_le _) (Nat.zero_le _) ⟨_, rfl, rfl, rfl⟩
  · rw [k_e4] at h
    replace h := tr_r h
    obtain rfl := Option.some.inj h
    exact ⟨by rw [hE.1.1, hE.1.2]; exact ⟨(Nat.le_of_ble_eq_true rfl), (Nat.le_of_ble_eq_true rfl)⟩, hE.2.2.2.2.1 _ _ _ _ _ _ _ rfl (Nat.le_of_ble_eq_true rfl) (Nat.le_of_ble_eq_true rfl) ⟨_, rfl, rfl, rfl⟩⟩
def b_X11_mixBridges_20 (v1 : Int64) (v5 : Int32) (s : Int64 × Int32 × me) : Option ((Int64 × Int32 × me) ⊕ ((Int64 × Int32 × me) ⊕ ((Int64 ⊕ Nat) × me))) :=
  if 6 ≤ s.2.1 then
    some (.inr (.inl (s.1, s.2.1, s.2.2)))
  else
    bd (f_X11_bridge v5 s.2.1 s.2.2) (fun r3 =>
    tr r3.1 (fun w4 =>
      bd (f_X11_mix s.1 w4.toInt64 r3.2) (fun r6 =>
      lt (s.2.1 + 1) (fun w7 =>
      some (.inl (r6.1, w7, r6.2))))) (fun e5 => some (.inr (.inr ((.inr e5, r3.2))))))
def b_X11_mixBridges_50 (v1 : Int64) (v5 : Int32) (s : Int64 × Int32 × me) : Option ((Int64 × Int32 × me) ⊕ ((Int64 × Int32 × me) ⊕ ((Int64 ⊕ Nat) × me))) :=
  if 8 ≤ s.2.1 then
    some (.inr (.inl (s.1, s.2.1, s.2.2)))
  else
    bd (f_X11_entry v5 s.2.1 s.2.2) (fun r12 =>
    tr r12.1 (fun w13 =>
      bd (f_X11_mix s.1 w13.toInt64 r12.2) (fun r15 =>
      lt (s.2.1 + 1) (fun w16 =>
      some (.inl (r15.1, w16, r15.2))))) (fun e14 => some (.inr (.inr ((.inr e14, r12.2))))))
def b_X11_mixBridges_5 (v1 : Int64) (s : Int64 × Int32 × me) : Option ((Int64 × Int32 × me) ⊕ ((Int64 × Int32 × me) ⊕ ((Int64 ⊕ Nat) × me))) :=
  if (s.2.2.1 1 0) ≤ s.2.1 then
    some (.inr (.inl (s.1, s.2.1, s.2.2)))
  else
    bd (lo (b_X11_mixBridges_20 v1 s.2.1) 2048 (s.1, 0, s.2.2)) (fun s8 =>
    sm s8 (fun s9 =>
      bd (lo (b_X11_mixBridges_50 v1 s.2.1) 2048 (s9.1, 0, s9.2.2)) (fun s17 =>
      sm s17 (fun s18 =>
        lt (s.2.1 + 1) (fun w20 =>
        some (.inl (s18.1, w20, s18.2.2)))) (fun x19 => some (.inr (.inr x19))))) (fun x10 => some (.inr (.inr x10))))
def b_X11_mixBridges_86 (v1 : Int64) (s : Int64 × Int32 × me) : Option ((Int64 × Int32 × me) ⊕ (Int64 × Int32 × me)) :=
  if 8 ≤ s.2.1 then
    some (.inr (s.1, s.2.1, s.2.2))
  else
    gd (inR s.2.1 8) (
    bd (f_X11_mix s.1 ((s.2.2.1 8 s.2.1.toNatClampNeg).toInt64) s.2.2) (fun r25 =>
    lt (s.2.1 + 1) (fun w26 =>
    some (.inl (r25.1, w26, r25.2)))))
def f_X11_mixBridges (v1 : Int64) (m0 : me) : Option ((Int64 ⊕ Nat) × me) :=
  bd (lo (b_X11_mixBridges_5 v1) 2048 (v1, 0, m0)) (fun s21 =>
  sm s21 (fun s22 =>
    bd (lo (b_X11_mixBridges_86 v1) 2048 (s22.1, 0, s22.2.2)) (fun s27 =>
    some ((.inl s27.1, s27.2.2)))) (fun x23 => some x23))
set_option maxRecDepth 20000 in
set_option maxHeartbeats 4000000 in
theorem lb_X11_mixBridges_20 (hfl : g.1.stackTraces = false) (hS : pS 0 138 S) {v1 : Int64} {v5 : Int32} {s : Int64 × Int32 × me} {r : (Int64 × Int32 × me) ⊕ ((Int64 × Int32 × me) ⊕ ((Int64 ⊕ Nat) × me))} (h : b_X11_mixBridges_20 v1 v5 s = some r) (hN : ∀ s', r = .inl s' → (fun z9 : Int64 × Int32 × me => pm_G g mX11_mixBridges X 20 [some (.ref 0), some (.long v1), none, some (.long z9.1), none, some (.int v5), some (.int z9.2.1)] [] (en S z9.2.2) 0 0) s') (hT : ∀ t, r = .inr t → (fun z8 : ((Int64 × Int32 × me) ⊕ ((Int64 ⊕ Nat) × me)) => (∀ z9, z8 = .inl z9 → pm_G g mX11_mixBridges X 47 [some (.ref 0), some (.long v1), none, some (.long z9.1), none, some (.int v5), some (.int z9.2.1)] [] (en S z9.2.2) 0 0) ∧ (∀ x9, z8 = .inr x9 → pm_End g mX11_mixBridges X (kC x9) (nC x9) (qTJ S x9) (qX S x9))) t) : (fun z9 : Int64 × Int32 × me => pm_G g mX11_mixBridges X 20 [some (.ref 0), some (.long v1), none, some (.long z9.1), none, some (.int v5), some (.int z9.2.1)] [] (en S z9.2.2) 0 0) s := by
  unfold b_X11_mixBridges_20 at h
  show pm_G g mX11_mixBridges X 20 [some (.ref 0), some (.long v1), none, some (.long s.1), none, some (.int v5), some (.int s.2.1)] [] (en S s.2.2) 0 0
  refine pg_iload dX11_mixBridges_20 rfl ?_
  refine pg_bipush 6 dX11_mixBridges_22 rfl ?_
  refine pg_icmp_ge 47 dX11_mixBridges_24 (by decide) (fun c2 => ?_) (fun c2 => ?_)
  · rw [if_pos c2] at h
    obtain rfl := Option.some.inj h
    exact (hT _ rfl).1 _ rfl
  · rw [if_neg c2] at h
    refine pg_lload_n dX11_mixBridges_27 rfl ?_
    refine pg_aload_n dX11_mixBridges_28 rfl ?_
    refine pg_iload dX11_mixBridges_29 rfl ?_
    refine pg_iload dX11_mixBridges_31 rfl ?_
    obtain ⟨r3, h_r3, h⟩ := bd_at h
    refine eg_tVi (C := mX11_bridge) (as := [(.int v5), (.int s.2.1)]) dX11_mixBridges_33 mw555 cv_X11_bridge hS sp0 (Nat.le_of_ble_eq_true rfl) (Nat.le_of_ble_eq_true rfl) rfl rfl rfl (Nat.le_of_ble_eq_true rfl) rfl ⟨(Nat.le_of_ble_eq_true rfl), (Nat.le_of_ble_eq_true rfl)⟩ (ct_X11_bridge hfl (hS.sub (Nat.le_of_ble_eq_true rfl) (Nat.le_of_ble_eq_true rfl)) h_r3) (fun w4 k_w4 => ?_) (fun e5 k_e5 => ?_)
    · rw [k_w4] at h
      replace h := tr_l h
      refine pg_i2l dX11_mixBridges_36 ?_
      obtain ⟨r6, h_r6, h⟩ := bd_at h
      refine eg_cSj (C := mX11_mix) (as := [(.long s.1), (.long w4.toInt64)]) dX11_mixBridges_37 mw521 cs_X11_mix rfl rfl (Nat.le_of_ble_eq_true rfl) rfl ⟨(Nat.le_of_ble_eq_true rfl), (Nat.le_of_ble_eq_true rfl)⟩ (ct_X11_mix hfl h_r6) ?_
      refine eg_lstore_n [some (.ref 0), some (.long v1), none, some (.long r6.1), none, some (.int v5), some (.int s.2.1)] r6.1 dX11_mixBridges_40 rfl (Nat.le_of_ble_eq_true rfl) rfl ?_
      obtain ⟨w7, e_w7⟩ : ∃ z : Int32, z = s.2.1 + 1 := ⟨_, rfl⟩
      replace h := lt_at h e_w7
      refine eg_iinc [some (.ref 0), some (.long v1), none, some (.long r6.1), none, some (.int v5), some (.int w7)] w7 1 dX11_mixBridges_41 rfl rfl e_w7 rfl ?_
      refine pg_goto 20 dX11_mixBridges_44 (by decide) ?_
      obtain rfl := Option.some.inj h
      exact hN _ rfl
    · rw [k_e5] at h
      replace h := tr_r h
      obtain rfl := Option.some.inj h
      exact ⟨by rw [((hT _ rfl).2 _ rfl).1.1, ((hT _ rfl).2 _ rfl).1.2]; exact ⟨(Nat.le_of_ble_eq_true rfl), (Nat.le_of_ble_eq_true rfl)⟩, ((hT _ rfl).2 _ rfl).2.2.2.2.1 _ _ _ _ _ _ _ rfl (Nat.le_of_ble_eq_true rfl) (Nat.le_of_ble_eq_true rfl) ⟨_, rfl, rfl, rfl⟩⟩
set_option maxRecDepth 20000 in
set_option maxHeartbeats 4000000 in
theorem lb_X11_mixBridges_50 (hfl : g.1.stackTraces = false) (hS : pS 0 138 S) {v1 : Int64} {v5 : Int32} {s : Int64 × Int32 × me} {r : (Int64 × Int32 × me) ⊕ ((Int64 × Int32 × me) ⊕ ((Int64 ⊕ Nat) × me))} (h : b_X11_mixBridges_50 v1 v5 s = some r) (hN : ∀ s', r = .inl s' → (fun z9 : Int64 × Int32 × me => pm_G g mX11_mixBridges X 50 [some (.ref 0), some (.long v1), none, some (.long z9.1), none, some (.int v5), some (.int z9.2.1)] [] (en S z9.2.2) 0 0) s') (hT : ∀ t, r = .inr t → (fun z8 : ((Int64 × Int32 × me) ⊕ ((Int64 ⊕ Nat) × me)) => (∀ z9, z8 = .inl z9 → pm_G g mX11_mixBridges X 77 [some (.ref 0), some (.long v1), none, some (.long z9.1), none, some (.int v5), some (.int z9.2.1)] [] (en S z9.2.2) 0 0) ∧ (∀ x9, z8 = .inr x9 → pm_End g mX11_mixBridges X (kC x9) (nC x9) (qTJ S x9) (qX S x9))) t) : (fun z9 : Int64 × Int32 × me => pm_G g mX11_mixBridges X 50 [some (.ref 0), some (.long v1), none, some (.long z9.1), none, some (.int v5), some (.int z9.2.1)] [] (en S z9.2.2) 0 0) s := by
  unfold b_X11_mixBridges_50 at h
  show pm_G g mX11_mixBridges X 50 [some (.ref 0), some (.long v1), none, some (.long s.1), none, some (.int v5), some (.int s.2.1)] [] (en S s.2.2) 0 0
  refine pg_iload dX11_mixBridges_50 rfl ?_
  refine pg_bipush 8 dX11_mixBridges_52 rfl ?_
  refine pg_icmp_ge 77 dX11_mixBridges_54 (by decide) (fun c11 => ?_) (fun c11 => ?_)
  · rw [if_pos c11] at h
    obtain rfl := Option.some.inj h
    exact (hT _ rfl).1 _ rfl
  · rw [if_neg c11] at h
    refine pg_lload_n dX11_mixBridges_57 rfl ?_
    refine pg_aload_n dX11_mixBridges_58 rfl ?_
    refine pg_iload dX11_mixBridges_59 rfl ?_
    refine pg_iload dX11_mixBridges_61 rfl ?_
    obtain ⟨r12, h_r12, h⟩ := bd_at h
    refine eg_tVi (C := mX11_entry) (as := [(.int v5), (.int s.2.1)]) dX11_mixBridges_63 mw560 cv_X11_entry hS sp0 (Nat.le_of_ble_eq_true rfl) (Nat.le_of_ble_eq_true rfl) rfl rfl rfl (Nat.le_of_ble_eq_true rfl) rfl ⟨(Nat.le_of_ble_eq_true rfl), (Nat.le_of_ble_eq_true rfl)⟩ (ct_X11_entry hfl (hS.sub (Nat.le_of_ble_eq_true rfl) (Nat.le_of_ble_eq_true rfl)) h_r12) (fun w13 k_w13 => ?_) (fun e14 k_e14 => ?_)
    · rw [k_w13] at h
      replace h := tr_l h
      refine pg_i2l dX11_mixBridges_66 ?_
      obtain ⟨r15, h_r15, h⟩ := bd_at h
      refine eg_cSj (C := mX11_mix) (as := [(.long s.1), (.long w13.toInt64)]) dX11_mixBridges_67 mw521 cs_X11_mix rfl rfl (Nat.le_of_ble_eq_true rfl) rfl ⟨(Nat.le_of_ble_eq_true rfl), (Nat.le_of_ble_eq_true rfl)⟩ (ct_X11_mix hfl h_r15) ?_
      refine eg_lstore_n [some (.ref 0), some (.long v1), none, some (.long r15.1), none, some (.int v5), some (.int s.2.1)] r15.1 dX11_mixBridges_70 rfl (Nat.le_of_ble_eq_true rfl) rfl ?_
      obtain ⟨w16, e_w16⟩ : ∃ z : Int32, z = s.2.1 + 1 := ⟨_, rfl⟩
      replace h := lt_at h e_w16
      refine eg_iinc [some (.ref 0), some (.long v1), none, some (.long r15.1), none, some (.int v5), some (.int w16)] w16 1 dX11_mixBridges_71 rfl rfl e_w16 rfl ?_
      refine pg_goto 50 dX11_mixBridges_74 (by decide) ?_
      obtain rfl := Option.some.inj h
      exact hN _ rfl
    · rw [k_e14] at h
      replace h := tr_r h
      obtain rfl := Option.some.inj h
      exact ⟨by rw [((hT _ rfl).2 _ rfl).1.1, ((hT _ rfl).2 _ rfl).1.2]; exact ⟨(Nat.le_of_ble_eq_true rfl), (Nat.le_of_ble_eq_true rfl)⟩, ((hT _ rfl).2 _ rfl).2.2.2.2.1 _ _ _ _ _ _ _ rfl (Nat.le_of_ble_eq_true rfl) (Nat.le_of_ble_eq_true rfl) ⟨_, rfl, rfl, rfl⟩⟩
set_option maxRecDepth 20000 in
set_option maxHeartbeats 4000000 in
theorem lb_X11_mixBridges_5 (hfl : g.1.stackTraces = false) (hS : pS 0 138 S) {v1 : Int64} {s : Int64 × Int32 × me} {r : (Int64 × Int32 × me) ⊕ ((Int64 × Int32 × me) ⊕ ((Int64 ⊕ Nat) × me))} (h : b_X11_mixBridges_5 v1 s = some r) (hN : ∀ s', r = .inl s' → (fun z9 : Int64 × Int32 × me => pm_G g mX11_mixBridges X 5 [some (.ref 0), some (.long v1), none, some (.long z9.1), none, some (.int z9.2.1), none] [] (en S z9.2.2) 0 0) s') (hT : ∀ t, r = .inr t → (fun z8 : ((Int64 × Int32 × me) ⊕ ((Int64 ⊕ Nat) × me)) => (∀ z9, z8 = .inl z9 → pm_G g mX11_mixBridges X 83 [some (.ref 0), some (.long v1), none, some (.long z9.1), none, some (.int z9.2.1), none] [] (en S z9.2.2) 0 0) ∧ (∀ x9, z8 = .inr x9 → pm_End g mX11_mixBridges X (kC x9) (nC x9) (qTJ S x9) (qX S x9))) t) : (fun z9 : Int64 × Int32 × me => pm_G g mX11_mixBridges X 5 [some (.ref 0), some (.long v1), none, some (.long z9.1), none, some (.int z9.2.1), none] [] (en S z9.2.2) 0 0) s := by
  unfold b_X11_mixBridges_5 at h
  show pm_G g mX11_mixBridges X 5 [some (.ref 0), some (.long v1), none, some (.long s.1), none, some (.int s.2.1), none] [] (en S s.2.2) 0 0
  refine pg_iload dX11_mixBridges_5 rfl ?_
  refine pg_aload_n dX11_mixBridges_7 rfl ?_
  refine eg_get dX11_mixBridges_8 fa_X11_12 hS sp0 (Nat.le_of_ble_eq_true rfl) (Nat.le_of_ble_eq_true rfl) rfl rfl ?_
  refine eg_get dX11_mixBridges_11 fa_X11_77 hS sp1 (Nat.le_of_ble_eq_true rfl) (Nat.le_of_ble_eq_true rfl) rfl rfl ?_
  refine pg_icmp_ge 83 dX11_mixBridges_14 (by decide) (fun c1 => ?_) (fun c1 => ?_)
  · rw [if_pos c1] at h
    obtain rfl := Option.some.inj h
    exact (hT _ rfl).1 _ rfl
  · rw [if_neg c1] at h
    refine pg_iconst 0 dX11_mixBridges_17 rfl ?_
    refine eg_istore [some (.ref 0), some (.long v1), none, some (.long s.1), none, some (.int s.2.1), some (.int 0)] 0 dX11_mixBridges_18 rfl (Nat.le_of_ble_eq_true rfl) rfl ?_
    obtain ⟨s8, h_s8, h⟩ := bd_at h
    refine lo_at (b := b_X11_mixBridges_20 v1 s.2.1) (G := (fun z9 : Int64 × Int32 × me => pm_G g mX11_mixBridges X 20 [some (.ref 0), some (.long v1), none, some (.long z9.1), none, some (.int s.2.1), some (.int z9.2.1)] [] (en S z9.2.2) 0 0)) (T := (fun z8 : ((Int64 × Int32 × me) ⊕ ((Int64 ⊕ Nat) × me)) => (∀ z9, z8 = .inl z9 → pm_G g mX11_mixBridges X 47 [some (.ref 0), some (.long v1), none, some (.long z9.1), none, some (.int s.2.1), some (.int z9.2.1)] [] (en S z9.2.2) 0 0) ∧ (∀ x9, z8 = .inr x9 → pm_End g mX11_mixBridges X (kC x9) (nC x9) (qTJ S x9) (qX S x9)))) (fun q9 r9 h1 h2 h3 => lb_X11_mixBridges_20 hfl hS h1 h2 h3) 2048 (s.1, 0, s.2.2) s8 h_s8 ⟨fun s9 k_s9 => ?_, fun x10 k_x10 => ?_⟩
    · rw [k_s9] at h
      replace h := sm_l h
      show pm_G g mX11_mixBridges X 47 [some (.ref 0), some (.long v1), none, some (.long s9.1), none, some (.int s.2.1), some (.int s9.2.1)] [] (en S s9.2.2) 0 0
      refine pg_iconst 0 dX11_mixBridges_47 rfl ?_
      refine eg_istore [some (.ref 0), some (.long v1), none, some (.long s9.1), none, some (.int s.2.1), some (.int 0)] 0 dX11_mixBridges_48 rfl (Nat.le_of_ble_eq_true rfl) rfl ?_
      obtain ⟨s17, h_s17, h⟩ := bd_at h
      refine lo_at (b := b_X11_mixBridges_50 v1 s.2.1) (G := (fun z9 : Int64 × Int32 × me => pm_G g mX11_mixBridges X 50 [some (.ref 0), some (.long v1), none, some (.long z9.1), none, some (.int s.2.1), some (.int z9.2.1)] [] (en S z9.2.2) 0 0)) (T := (fun z8 : ((Int64 × Int32 × me) ⊕ ((Int64 ⊕ Nat) × me)) => (∀ z9, z8 = .inl z9 → pm_G g mX11_mixBridges X 77 [some (.ref 0), some (.long v1), none, some (.long z9.1), none, some (.int s.2.1), some (.int z9.2.1)] [] (en S z9.2.2) 0 0) ∧ (∀ x9, z8 = .inr x9 → pm_End g mX11_mixBridges X (kC x9) (nC x9) (qTJ S x9) (qX S x9)))) (fun q9 r9 h1 h2 h3 => lb_X11_mixBridges_50 hfl hS h1 h2 h3) 2048 (s9.1, 0, s9.2.2) s17 h_s17 ⟨fun s18 k_s18 => ?_, fun x19 k_x19 => ?_⟩
      · rw [k_s18] at h
        replace h := sm_l h
        show pm_G g mX11_mixBridges X 77 [some (.ref 0), some (.long v1), none, some (.long s18.1), none, some (.int s.2.1), some (.int s18.2.1)] [] (en S s18.2.2) 0 0
        obtain ⟨w20, e_w20⟩ : ∃ z : Int32, z = s.2.1 + 1 := ⟨_, rfl⟩
        replace h := lt_at h e_w20
        refine eg_iinc [some (.ref 0), some (.long v1), none, some (.long s18.1), none, some (.int w20), some (.int s18.2.1)] w20 1 dX11_mixBridges_77 rfl rfl e_w20 rfl ?_
        refine pg_goto 5 dX11_mixBridges_80 (by decide) ?_
        obtain rfl := Option.some.inj h
        refine eg_forget [some (.ref 0), some (.long v1), none, some (.long s18.1), none, some (.int w20), none] (show pm_sub _ _ from ⟨rfl, ⟨rfl, ⟨rfl, ⟨rfl, trivial⟩⟩⟩⟩) ?_
        exact hN _ rfl
      · rw [k_x19] at h
        replace h := sm_r h
        obtain rfl := Option.some.inj h
        exact (hT _ rfl).2 _ rfl
    · rw [k_x10] at h
      replace h := sm_r h
      obtain rfl := Option.some.inj h
      exact (hT _ rfl).2 _ rfl
set_option maxRecDepth 20000 in
set_option maxHeartbeats 4000000 in
theorem lb_X11_mixBridges_86 (hfl : g.1.stackTraces = false) (hS : pS 0 138 S) {v1 : Int64} {s : Int64 × Int32 × me} {r : (Int64 × Int32 × me) ⊕ (Int64 × Int32 × me)} (h : b_X11_mixBridges_86 v1 s = some r) (hN : ∀ s', r = .inl s' → (fun z9 : Int64 × Int32 × me => pm_G g mX11_mixBridges X 86 [some (.ref 0), some (.long v1), none, some (.long z9.1), none, some (.int z9.2.1), none] [] (en S z9.2.2) 0 0) s') (hT : ∀ t, r = .inr t → (fun z9 : Int64 × Int32 × me => pm_G g mX11_mixBridges X 118 [some (.ref 0), some (.long v1), none, some (.long z9.1), none, some (.int z9.2.1), none] [] (en S z9.2.2) 0 0) t) : (fun z9 : Int64 × Int32 × me => pm_G g mX11_mixBridges X 86 [some (.ref 0), some (.long v1), none, some (.long z9.1), none, some (.int z9.2.1), none] [] (en S z9.2.2) 0 0) s := by
  unfold b_X11_mixBridges_86 at h
  show pm_G g mX11_mixBridges X 86 [some (.ref 0), some (.long v1), none, some (.long s.1), none, some (.int s.2.1), none] [] (en S s.2.2) 0 0
  refine pg_iload dX11_mixBridges_86 rfl ?_
  refine pg_bipush 8 dX11_mixBridges_88 rfl ?_
  refine pg_icmp_ge 118 dX11_mixBridges_90 (by decide) (fun c24 => ?_) (fun c24 => ?_)
  · rw [if_pos c24] at h
    obtain rfl := Option.some.inj h
    exact hT _ rfl
  · rw [if_neg c24] at h
    refine pg_lload_n dX11_mixBridges_93 rfl ?_
    refine pg_aload_n dX11_mixBridges_94 rfl ?_
    refine eg_get dX11_mixBridges_95 fa_X11_12 hS sp0 (Nat.le_of_ble_eq_true rfl) (Nat.le_of_ble_eq_true rfl) rfl rfl ?_
    refine eg_get dX11_mixBridges_98 fa_X11_99 hS sp1 (Nat.le_of_ble_eq_true rfl) (Nat.le_of_ble_eq_true rfl) rfl rfl ?_
    refine eg_get dX11_mixBridges_101 fa_X11_310 hS sp2 (Nat.le_of_ble_eq_true rfl) (Nat.le_of_ble_eq_true rfl) rfl rfl ?_
    refine pg_iload dX11_mixBridges_104 rfl ?_
    obtain ⟨g1, h⟩ := gd_at h
    refine eg_ialdJ s.2.1.toNatClampNeg dX11_mixBridges_106 hS sp8 (Nat.le_of_ble_eq_true rfl) (Nat.le_of_ble_eq_true rfl) rfl (inR_vp g1) rfl ?_
    refine pg_i2l dX11_mixBridges_107 ?_
    obtain ⟨r25, h_r25, h⟩ := bd_at h
    refine eg_cSj (C := mX11_mix) (as := [(.long s.1), (.long ((s.2.2.1 8 s.2.1.toNatClampNeg).toInt64))]) dX11_mixBridges_108 mw521 cs_X11_mix rfl rfl (Nat.le_of_ble_eq_true rfl) rfl ⟨(Nat.le_of_ble_eq_true rfl), (Nat.le_of_ble_eq_true rfl)⟩ (ct_X11_mix hfl h_r25) ?_
    refine eg_lstore_n [some (.ref 0), some (.long v1), none, some (.long r25.1), none, some (.int s.2.1), none] r25.1 dX11_mixBridges_111 rfl (Nat.le_of_ble_eq_true rfl) rfl ?_
    obtain ⟨w26, e_w26⟩ : ∃ z : Int32, z = s.2.1 + 1 := ⟨_, rfl⟩
    replace h := lt_at h e_w26
    refine eg_iinc [some (.ref 0), some (.long v1), none, some (.long r25.1), none, some (.int w26), none] w26 1 dX11_mixBridges_112 rfl rfl e_w26 rfl ?_
    refine pg_goto 86 dX11_mixBridges_115 (by decide) ?_
    obtain rfl := Option.some.inj h
    exact hN _ rfl
set_option maxRecDepth 20000 in
set_option maxHeartbeats 4000000 in
theorem ct_X11_mixBridges (hfl : g.1.stackTraces = false) (hS : pS 0 138 S) {v1 : Int64} {m0 : me} {x : ((Int64 ⊕ Nat) × me)} (h : f_X11_mixBridges v1 m0 = some x) : pm_Ct g mX11_mixBridges [.ref 0, .long v1] (en S m0) (kC x) (nC x) (qTJ S x) (qX S x) := by
  refine pm_of (by decide +kernel) rfl hfl (Nat.le_of_ble_eq_true rfl) (fun X hE => ?_)
  show pm_G g mX11_mixBridges X 0 [some (.ref 0), some (.long v1), none, none, none, none, none] [] (en S m0) 0 0
  unfold f_X11_mixBridges at h
  refine pg_lload_n dX11_mixBridges_0 rfl ?_
  refine eg_lstore_n [some (.ref 0), some (.long v1), none, some (.long v1), none, none, none] v1 dX11_mixBridges_1 rfl (Nat.le_of_ble_eq_true rfl) rfl ?_
  refine pg_iconst 0 dX11_mixBridges_2 rfl ?_
  refine eg_istore [some (.ref 0), some (.long v1), none, some (.long v1), none, some (.int 0), none] 0 dX11_mixBridges_3 rfl (Nat.le_of_ble_eq_true rfl) rfl ?_
  obtain ⟨s21, h_s21, h⟩ := bd_at h
  refine lo_at (b := b_X11_mixBridges_5 v1) (G := (fun z9 : Int64 × Int32 × me => pm_G g mX11_mixBridges X 5 [some (.ref 0), some (.long v1), none, some (.long z9.1), none, some (.int z9.2.1), none] [] (en S z9.2.2) 0 0)) (T := (fun z8 : ((Int64 × Int32 × me) ⊕ ((Int64 ⊕ Nat) × me)) => (∀ z9, z8 = .inl z9 → pm_G g mX11_mixBridges X 83 [some (.ref 0), some (.long v1), none, some (.long z9.1), none, some (.int z9.2.1), none] [] (en S z9.2.2) 0 0) ∧ (∀ x9, z8 = .inr x9 → pm_End g mX11_mixBridges X (kC x9) (nC x9) (qTJ S x9) (qX S x9)))) (fun q9 r9 h1 h2 h3 => lb_X11_mixBridges_5 hfl hS h1 h2 h3) 2048 (v1, 0, m0) s21 h_s21 ⟨fun s22 k_s22 => ?_, fun x23 k_x23 => ?_⟩
  · rw [k_s22] at h
    replace h := sm_l h
    show pm_G g mX11_mixBridges X 83 [some (.ref 0), some (.long v1), none, some (.long s22.1), none, some (.int s22.2.1), none] [] (en S s22.2.2) 0 0
    refine pg_iconst 0 dX11_mixBridges_83 rfl ?_
    refine eg_istore [some (.ref 0), some (.long v1), none, some (.long s22.1), none, some (.int 0), none] 0 dX11_mixBridges_84 rfl (Nat.le_of_ble_eq_true rfl) rfl ?_
    obtain ⟨s27, h_s27, h⟩ := bd_at h
    refine lo_at (b := b_X11_mixBridges_86 v1) (G := (fun z9 : Int64 × Int32 × me => pm_G g mX11_mixBridges X 86 [some (.ref 0), some (.long v1), none, some (.long z9.1), none, some (.int z9.2.1), none] [] (en S z9.2.2) 0 0)) (T := (fun z9 : Int64 × Int32 × me => pm_G g mX11_mixBridges X 118 [some (.ref 0), some (.long v1), none, some (.long z9.1), none, some (.int z9.2.1), none] [] (en S z9.2.2) 0 0)) (fun q9 r9 h1 h2 h3 => lb_X11_mixBridges_86 hfl hS h1 h2 h3) 2048 (s22.1, 0, s22.2.2) s27 h_s27 ?_
    show pm_G g mX11_mixBridges X 118 [some (.ref 0), some (.long v1), none, some (.long s27.1), none, some (.int s27.2.1), none] [] (en S s27.2.2) 0 0
    refine pg_lload_n dX11_mixBridges_118 rfl ?_
    obtain rfl := Option.some.inj h
    exact hE.2.2.2.1 _ _ _ _ _ _ dX11_mixBridges_119 rfl (Nat.zero_le _) (Nat.zero_le _) ⟨_, rfl, rfl, rfl⟩
  · rw [k_x23] at h
    replace h := sm_r h
    obtain rfl := Option.some.inj h
    exact hE
def f_X3_valueOf (v1 : Int32) (v2 : Int32) (m0 : me) : Option (Int32 × me) :=
  if v2 = 0 then
    gd (inR v1 16) (
    some ((m0.1 12 v1.toNatClampNeg, m0)))
  else
    if v2 = 1 then
      gd (inR v1 16) (
      some ((m0.1 13 v1.toNatClampNeg, m0)))
    else
      if v2 = 2 then
        gd (inR v1 16) (
        some ((m0.1 14 v1.toNatClampNeg, m0)))
      else
        if v2 = 3 then
          gd (inR v1 16) (
          some ((m0.1 15 v1.toNatClampNeg, m0)))
        else
          if v2 = 4 then
            gd (inR v1 16) (
            if (m0.1 16 v1.toNatClampNeg) = 0 then
              some ((0, m0))
            else
              some ((1, m0)))
          else
            if v2 = 5 then
              gd (inR v1 16) (
              some ((m0.1 17 v1.toNatClampNeg, m0)))
            else
              if v2 = 6 then
                gd (inR v1 16) (
                some ((m0.1 18 v1.toNatClampNeg, m0)))
              else
                if v2 = 7 then
                  bd (f_X3_carries v1 m0) (fun r10 =>
                  if r10.1 = 0 then
                    some ((0, r10.2))
                  else
                    some ((1, r10.2)))
                else
                  gd (inR v1 16) (
                  some ((m0.1 19 v1.toNatClampNeg, m0)))
set_option maxRecDepth 20000 in
set_option maxHeartbeats 4000000 in
theorem ct_X3_valueOf (hfl : g.1.stackTraces = false) (hS : pS 1 28 S) {v1 : Int32} {v2 : Int32} {m0 : me} {x : (Int32 × me)} (h : f_X3_valueOf v1 v2 m0 = some x) : pm_Ct g mX3_valueOf [.ref 11, .int v1, .int v2] (en S m0) 0 0 (qI S x) qF := by
  refine pm_of (by decide +kernel) rfl hfl (Nat.le_of_ble_eq_true rfl) (fun X hE => ?_)
  show pm_G g mX3_valueOf X 0 [some (.ref 11), some (.int v1), some (.int v2)] [] (en S m0) 0 0
  unfold f_X3_valueOf at h
  refine pg_iload_n dX3_valueOf_0 rfl ?_
  by_cases c1 : v2 = 0
  · rw [if_pos c1] at h
    refine pg_tabIn (off := 47) 48 dX3_valueOf_1 (by rw [c1]; decide) (by rw [c1]; decide) (by rw [c1]; decide) (by decide) ?_
    refine pg_aload_n dX3_valueOf_48 rfl ?_
    refine eg_get dX3_valueOf_49 fa_X3_9 hS sp11 (Nat.le_of_ble_eq_true rfl) (Nat.le_of_ble_eq_true rfl) rfl rfl ?_
    refine pg_iload_n dX3_valueOf_52 rfl ?_
    obtain ⟨g1, h⟩ := gd_at h
    refine eg_ialdJ v1.toNatClampNeg dX3_valueOf_53 hS sp12 (Nat.le_of_ble_eq_true rfl) (Nat.le_of_ble_eq_true rfl) rfl (inR_vp g1) rfl ?_
    obtain rfl := Option.some.inj h
    exact hE.2.1 _ _ _ _ _ _ .int dX3_valueOf_54 rfl rfl (Nat.zero_le _) (Nat.zero_le _) ⟨rfl, rfl⟩
  · rw [if_neg c1] at h
    by_cases c2 : v2 = 1
    · rw [if_pos c2] at h
      refine pg_tabIn (off := 54) 55 dX3_valueOf_1 (by rw [c2]; decide) (by rw [c2]; decide) (by rw [c2]; decide) (by decide) ?_
      refine pg_aload_n dX3_valueOf_55 rfl ?_
      refine eg_get dX3_valueOf_56 fa_X3_15 hS sp11 (Nat.le_of_ble_eq_true rfl) (Nat.le_of_ble_eq_true rfl) rfl rfl ?_
      refine pg_iload_n dX3_valueOf_59 rfl ?_
      obtain ⟨g1, h⟩ := gd_at h
      refine eg_ialdJ v1.toNatClampNeg dX3_valueOf_60 hS sp13 (Nat.le_of_ble_eq_true rfl) (Nat.le_of_ble_eq_true rfl) rfl (inR_vp g1) rfl ?_
      obtain rfl := Option.some.inj h
      exact hE.2.1 _ _ _ _ _ _ .int dX3_valueOf_61 rfl rfl (Nat.zero_le _) (Nat.zero_le _) ⟨rfl, rfl⟩
    · rw [if_neg c2] at h
      by_cases c3 : v2 = 2
      · rw [if_pos c3] at h
        refine pg_tabIn (off := 61) 62 dX3_valueOf_1 (by rw [c3]; decide) (by rw [c3]; decide) (by rw [c3]; decide) (by decide) ?_
        refine pg_aload_n dX3_valueOf_62 rfl ?_
        refine eg_get dX3_valueOf_63 fa_X3_18 hS sp11 (Nat.le_of_ble_eq_true rfl) (Nat.le_of_ble_eq_true rfl) rfl rfl ?_
        refine pg_iload_n dX3_valueOf_66 rfl ?_
        obtain ⟨g1, h⟩ := gd_at h
        refine eg_ialdJ v1.toNatClampNeg dX3_valueOf_67 hS sp14 (Nat.le_of_ble_eq_true rfl) (Nat.le_of_ble_eq_true rfl) rfl (inR_vp g1) rfl ?_
        obtain rfl := Option.some.inj h
        exact hE.2.1 _ _ _ _ _ _ .int dX3_valueOf_68 rfl rfl (Nat.zero_le _) (Nat.zero_le _) ⟨rfl, rfl⟩
      · rw [if_neg c3] at h
        by_cases c4 : v2 = 3
        · rw [if_pos c4] at h
          refine pg_tabIn (off := 68) 69 dX3_valueOf_1 (by rw [c4]; decide) (by rw [c4]; decide) (by rw [c4]; decide) (by decide) ?_
          refine pg_aload_n dX3_valueOf_69 rfl ?_
          refine eg_get dX3_valueOf_70 fa_X3_21 hS sp11 (Nat.le_of_ble_eq_true rfl) (Nat.le_of_ble_eq_true rfl) rfl rfl ?_
          refine pg_iload_n dX3_valueOf_73 rfl ?_
          obtain ⟨g1, h⟩ := gd_at h
          refine eg_ialdJ v1.toNatClampNeg dX3_valueOf_74 hS sp15 (Nat.le_of_ble_eq_true rfl) (Nat.le_of_ble_eq_true rfl) rfl (inR_vp g1) rfl ?_
          obtain rfl := Option.some.inj h
          exact hE.2.1 _ _ _ _ _ _ .int dX3_valueOf_75 rfl rfl (Nat.zero_le _) (Nat.zero_le _) ⟨rfl, rfl⟩
        · rw [if_neg c4] at h
          by_cases c5 : v2 = 4
          · rw [if_pos c5] at h
            refine pg_tabIn (off := 75) 76 dX3_valueOf_1 (by rw [c5]; decide) (by rw [c5]; decide) (by rw [c5]; decide) (by decide) ?_
            refine pg_aload_n dX3_valueOf_76 rfl ?_
            refine eg_get dX3_valueOf_77 fa_X3_24 hS sp11 (Nat.le_of_ble_eq_true rfl) (Nat.le_of_ble_eq_true rfl) rfl rfl ?_
            refine pg_iload_n dX3_valueOf_80 rfl ?_
            obtain ⟨g1, h⟩ := gd_at h
            refine eg_zaldJ v1.toNatClampNeg dX3_valueOf_81 hS sp16 (Nat.le_of_ble_eq_true rfl) (Nat.le_of_ble_eq_true rfl) rfl (inR_vp g1) rfl ?_
            refine pg_if_eq 89 dX3_valueOf_82 (by decide) (fun c6 => ?_) (fun c6 => ?_)
            · rw [if_pos c6] at h
              refine pg_iconst 0 dX3_valueOf_89 rfl ?_
              obtain rfl := Option.some.inj h
              exact hE.2.1 _ _ _ _ _ _ .int dX3_valueOf_90 rfl rfl (Nat.zero_le _) (Nat.zero_le _) ⟨rfl, rfl⟩
            · rw [if_neg c6] at h
              refine pg_iconst 1 dX3_valueOf_85 rfl ?_
              refine pg_goto 90 dX3_valueOf_86 (by decide) ?_
              obtain rfl := Option.some.inj h
              exact hE.2.1 _ _ _ _ _ _ .int dX3_valueOf_90 rfl rfl (Nat.zero_le _) (Nat.zero_le _) ⟨rfl, rfl⟩
          · rw [if_neg c5] at h
            by_cases c7 : v2 = 5
            · rw [if_pos c7] at h
              refine pg_tabIn (off := 90) 91 dX3_valueOf_1 (by rw [c7]; decide) (by rw [c7]; decide) (by rw [c7]; decide) (by decide) ?_
              refine pg_aload_n dX3_valueOf_91 rfl ?_
              refine eg_get dX3_valueOf_92 fa_X3_28 hS sp11 (Nat.le_of_ble_eq_true rfl) (Nat.le_of_ble_eq_true rfl) rfl rfl ?_
              refine pg_iload_n dX3_valueOf_95 rfl ?_
              obtain ⟨g1, h⟩ := gd_at h
              refine eg_ialdJ v1.toNatClampNeg dX3_valueOf_96 hS sp17 (Nat.le_of_ble_eq_true rfl) (Nat.le_of_ble_eq_true rfl) rfl (inR_vp g1) rfl ?_
              obtain rfl := Option.some.inj h
              exact hE.2.1 _ _ _ _ _ _ .int dX3_valueOf_97 rfl rfl (Nat.zero_le _) (Nat.zero_le _) ⟨rfl, rfl⟩
            · rw [if_neg c7] at h
              by_cases c8 : v2 = 6
              · rw [if_pos c8] at h
                refine pg_tabIn (off := 97) 98 dX3_valueOf_1 (by rw [c8]; decide) (by rw [c8]; decide) (by rw [c8]; decide) (by decide) ?_
                refine pg_aload_n dX3_valueOf_98 rfl ?_
                refine eg_get dX3_valueOf_99 fa_X3_31 hS sp11 (Nat.le_of_ble_eq_true rfl) (Nat.le_of_ble_eq_true rfl) rfl rfl ?_
                refine pg_iload_n dX3_valueOf_102 rfl ?_
                obtain ⟨g1, h⟩ := gd_at h
                refine eg_ialdJ v1.toNatClampNeg dX3_valueOf_103 hS sp18 (Nat.le_of_ble_eq_true rfl) (Nat.le_of_ble_eq_true rfl) rfl (inR_vp g1) rfl ?_
                obtain rfl := Option.some.inj h
                exact hE.2.1 _ _ _ _ _ _ .int dX3_valueOf_104 rfl rfl (Nat.zero_le _) (Nat.zero_le _) ⟨rfl, rfl⟩
              · rw [if_neg c8] at h
                by_cases c9 : v2 = 7
                · rw [if_pos c9] at h
                  refine pg_tabIn (off := 104) 105 dX3_valueOf_1 (by rw [c9]; decide) (by rw [c9]; decide) (by rw [c9]; decide) (by decide) ?_
                  refine pg_aload_n dX3_valueOf_105 rfl ?_
                  refine pg_iload_n dX3_valueOf_106 rfl ?_
                  obtain ⟨r10, h_r10, h⟩ := bd_at h
                  refine eg_cVi (C := mX3_carries) (as := [(.int v1)]) dX3_valueOf_107 mw609 cv_X3_carries hS sp11 (Nat.le_of_ble_eq_true rfl) (Nat.le_of_ble_eq_true rfl) rfl rfl rfl (Nat.le_of_ble_eq_true rfl) rfl ⟨(Nat.le_of_ble_eq_true rfl), (Nat.le_of_ble_eq_true rfl)⟩ (ct_X3_carries hfl (hS.sub (Nat.le_of_ble_eq_true rfl) (Nat.le_of_ble_eq_true rfl)) h_r10) ?_
                  refine pg_if_eq 117 dX3_valueOf_110 (by decide) (fun c11 => ?_) (fun c11 => ?_)
                  · rw [if_pos c11] at h
                    refine pg_iconst 0 dX3_valueOf_117 rfl ?_
                    obtain rfl := Option.some.inj h
                    exact hE.2.1 _ _ _ _ _ _ .int dX3_valueOf_118 rfl rfl (Nat.zero_le _) (Nat.zero_le _) ⟨rfl, rfl⟩
                  · rw [if_neg c11] at h
                    refine pg_iconst 1 dX3_valueOf_113 rfl ?_
                    refine pg_goto 118 dX3_valueOf_114 (by decide) ?_
                    obtain rfl := Option.some.inj h
                    exact hE.2.1 _ _ _ _ _ _ .int dX3_valueOf_118 rfl rfl (Nat.zero_le _) (Nat.zero_le _) ⟨rfl, rfl⟩
                · rw [if_neg c9] at h
                  have k_c1 := lv_neT c1 (show (0 : Int32).toInt = 0 from rfl)
                  have k_c2 := lv_neT c2 (show (1 : Int32).toInt = 1 from rfl)
                  have k_c3 := lv_neT c3 (show (2 : Int32).toInt = 2 from rfl)
                  have k_c4 := lv_neT c4 (show (3 : Int32).toInt = 3 from rfl)
                  have k_c5 := lv_neT c5 (show (4 : Int32).toInt = 4 from rfl)
                  have k_c7 := lv_neT c7 (show (5 : Int32).toInt = 5 from rfl)
                  have k_c8 := lv_neT c8 (show (6 : Int32).toInt = 6 from rfl)
                  have k_c9 := lv_neT c9 (show (7 : Int32).toInt = 7 from rfl)
                  refine pg_tabOut 119 dX3_valueOf_1 (by omega) (by decide) ?_
                  refine pg_aload_n dX3_valueOf_119 rfl ?_
                  refine eg_get dX3_valueOf_120 fa_X3_34 hS sp11 (Nat.le_of_ble_eq_true rfl) (Nat.le_of_ble_eq_true rfl) rfl rfl ?_
                  refine pg_iload_n dX3_valueOf_123 rfl ?_
                  obtain ⟨g1, h⟩ := gd_at h
                  refine eg_ialdJ v1.toNatClampNeg dX3_valueOf_124 hS sp19 (Nat.le_of_ble_eq_true rfl) (Nat.le_of_ble_eq_true rfl) rfl (inR_vp g1) rfl ?_
                  obtain rfl := Option.some.inj h
                  exact hE.2.1 _ _ _ _ _ _ .int dX3_valueOf_125 rfl rfl (Nat.zero_le _) (Nat.zero_le _) ⟨rfl, rfl⟩
def f_X11_link (v1 : Int32) (v2 : Int32) (m0 : me) : Option ((Int32 ⊕ Nat) × me) :=
  bd (f_X3_has v1 m0) (fun r1 =>
  if r1.1 = 0 then
    some ((.inr 0, r1.2))
  else
    bd (f_X11_isOutside v2 0 8 r1.2) (fun r3 =>
    if r3.1 = 0 then
      bd (f_X3_valueOf v1 v2 r3.2) (fun r5 =>
      some ((.inl r5.1, r5.2)))
    else
      some ((.inr 1, r3.2))))
set_option maxRecDepth 20000 in
set_option maxHeartbeats 4000000 in
theorem ct_X11_link (hfl : g.1.stackTraces = false) (hS : pS 0 138 S) {v1 : Int32} {v2 : Int32} {m0 : me} {x : ((Int32 ⊕ Nat) × me)} (h : f_X11_link v1 v2 m0 = some x) : pm_Ct g mX11_link [.ref 0, .int v1, .int v2] (en S m0) (kC x) (nC x) (qTI S x) (qX S x) := by
  refine pm_of (by decide +kernel) rfl hfl (Nat.le_of_ble_eq_true rfl) (fun X hE => ?_)
  show pm_G g mX11_link X 0 [some (.ref 0), some (.int v1), some (.int v2)] [] (en S m0) 0 0
  unfold f_X11_link at h
  refine pg_aload_n dX11_link_0 rfl ?_
  refine eg_get dX11_link_1 fa_X11_12 hS sp0 (Nat.le_of_ble_eq_true rfl) (Nat.le_of_ble_eq_true rfl) rfl rfl ?_
  refine eg_get dX11_link_4 fa_X11_112 hS sp1 (Nat.le_of_ble_eq_true rfl) (Nat.le_of_ble_eq_true rfl) rfl rfl ?_
  refine pg_iload_n dX11_link_7 rfl ?_
  obtain ⟨r1, h_r1, h⟩ := bd_at h
  refine eg_cVi (C := mX3_has) (as := [(.int v1)]) dX11_link_8 mw603 cv_X3_has hS sp11 (Nat.le_of_ble_eq_true rfl) (Nat.le_of_ble_eq_true rfl) rfl rfl rfl (Nat.le_of_ble_eq_true rfl) rfl ⟨(Nat.le_of_ble_eq_true rfl), (Nat.le_of_ble_eq_true rfl)⟩ (ct_X3_has hfl (hS.sub (Nat.le_of_ble_eq_true rfl) (Nat.le_of_ble_eq_true rfl)) h_r1) ?_
  refine pg_if_ne 24 dX11_link_11 (by decide) (fun c2 => ?_) (fun c2 => ?_)
  · rw [if_neg c2] at h
    refine pg_iload_n dX11_link_24 rfl ?_
    refine pg_iconst 0 dX11_link_25 rfl ?_
    refine pg_bipush 8 dX11_link_26 rfl ?_
    obtain ⟨r3, h_r3, h⟩ := bd_at h
    refine eg_cSi (C := mX11_isOutside) (as := [(.int v2), (.int 0), (.int 8)]) dX11_link_28 mw390 cs_X11_isOutside rfl rfl (Nat.le_of_ble_eq_true rfl) rfl ⟨(Nat.le_of_ble_eq_true rfl), (Nat.le_of_ble_eq_true rfl)⟩ (ct_X11_isOutside hfl h_r3) ?_
    refine pg_if_eq 44 dX11_link_31 (by decide) (fun c4 => ?_) (fun c4 => ?_)
    · rw [if_pos c4] at h
      refine pg_aload_n dX11_link_44 rfl ?_
      refine eg_get dX11_link_45 fa_X11_12 hS sp0 (Nat.le_of_ble_eq_true rfl) (Nat.le_of_ble_eq_true rfl) rfl rfl ?_
      refine eg_get dX11_link_48 fa_X11_112 hS sp1 (Nat.le_of_ble_eq_true rfl) (Nat.le_of_ble_eq_true rfl) rfl rfl ?_
      refine pg_iload_n dX11_link_51 rfl ?_
      refine pg_iload_n dX11_link_52 rfl ?_
      obtain ⟨r5, h_r5, h⟩ := bd_at h
      refine eg_cVi (C := mX3_valueOf) (as := [(.int v1), (.int v2)]) dX11_link_53 mw604 cv_X3_valueOf hS sp11 (Nat.le_of_ble_eq_true rfl) (Nat.le_of_ble_eq_true rfl) rfl rfl rfl (Nat.le_of_ble_eq_true rfl) rfl ⟨(Nat.le_of_ble_eq_true rfl), (Nat.le_of_ble_eq_true rfl)⟩ (ct_X3_valueOf hfl (hS.sub (Nat.le_of_ble_eq_true rfl) (Nat.le_of_ble_eq_true rfl)) h_r5) ?_
      obtain rfl := Option.some.inj h
      exact hE.2.1 _ _ _ _ _ _ .int dX11_link_56 rfl rfl (Nat.zero_le _) (Nat.zero_le _) ⟨_, rfl, rfl, rfl⟩
    · rw [if_neg c4] at h
      obtain rfl := Option.some.inj h
      exact hE.2.2.2.2.2.1 _ _ _ _ _ _ _ _ _ _ _ th0 rfl rfl dX11_link_34 dX11_link_37 dX11_link_38 dX11_link_40 dX11_link_43 rfl (Nat.le_of_ble_eq_true rfl) (Nat.le_of_ble_eq_true rfl) (Nat.le_of_ble_eq_true rfl) (Nat.le_of_ble_eq_true rfl) ⟨_, rfl, rfl, rfl⟩
  · rw [if_pos c2] at h
    obtain rfl := Option.some.inj h
    exact hE.2.2.2.2.2.1 _ _ _ _ _ _ _ _ _ _ _ th5 rfl rfl dX11_link_14 dX11_link_17 dX11_link_18 dX11_link_20 dX11_link_23 rfl (Nat.le_of_ble_eq_true rfl) (Nat.le_of_ble_eq_true rfl) (Nat.le_of_ble_eq_true rfl) (Nat.le_of_ble_eq_true rfl) ⟨_, rfl, rfl, rfl⟩
end
