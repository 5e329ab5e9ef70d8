section
variable {g : pm_Gl} {X : pm_X} {S : List sF}
def f_X12_bridgeValue (v1 : Int32) (v2 : Int32) (m0 : me) : Option (Int32 × me) :=
  if v2 = 0 then
    bd (f_X12_idOf v1 m0) (fun r4 =>
    some ((r4.1, r4.2)))
  else
    if v2 = 5 then
      bd (f_X12_entries v1 m0) (fun r3 =>
      some ((r3.1, r3.2)))
    else
      gd (inR ((11 + (5 * v1)) + v2) 487) (
      some ((m0.1 129 (((11 + (5 * v1)) + v2).toNatClampNeg), m0)))
set_option maxRecDepth 20000 in
set_option maxHeartbeats 4000000 in
theorem ct_X12_bridgeValue (hfl : g.1.stackTraces = false) (hS : pS 128 137 S) {v1 : Int32} {v2 : Int32} {m0 : me} {x : (Int32 × me)} (h : f_X12_bridgeValue v1 v2 m0 = some x) : pm_Ct g mX12_bridgeValue [.ref 128, .int v1, .int v2] (en S m0) 0 0 (qI S x) qF := by
  refine pm_of (by decide +kernel) rfl hfl (Nat.le_of_ble_eq_true rfl) (fun X hE => ?_)
  show pm_G g mX12_bridgeValue X 0 [some (.ref 128), some (.int v1), some (.int v2)] [] (en S m0) 0 0
  unfold f_X12_bridgeValue at h
  refine pg_iload_n dX12_bridgeValue_0 rfl ?_
  refine pg_if_ne 12 dX12_bridgeValue_1 (by decide) (fun c1 => ?_) (fun c1 => ?_)
  · rw [if_neg c1] at h
    refine pg_iload_n dX12_bridgeValue_12 rfl ?_
    refine pg_iconst 5 dX12_bridgeValue_13 rfl ?_
    refine pg_icmp_ne 25 dX12_bridgeValue_14 (by decide) (fun c2 => ?_) (fun c2 => ?_)
    · rw [if_neg c2] at h
      refine pg_aload_n dX12_bridgeValue_25 rfl ?_
      refine eg_get dX12_bridgeValue_26 fa_X12_7 hS sp128 (Nat.le_of_ble_eq_true rfl) (Nat.le_of_ble_eq_true rfl) rfl rfl ?_
      refine pg_bipush 11 dX12_bridgeValue_29 rfl ?_
      refine pg_iconst 5 dX12_bridgeValue_31 rfl ?_
      refine pg_iload_n dX12_bridgeValue_32 rfl ?_
      refine pg_imul dX12_bridgeValue_33 ?_
      refine pg_iadd dX12_bridgeValue_34 ?_
      refine pg_iload_n dX12_bridgeValue_35 rfl ?_
      refine pg_iadd dX12_bridgeValue_36 ?_
      obtain ⟨g1, h⟩ := gd_at h
      refine eg_ialdJ (((11 + (5 * v1)) + v2).toNatClampNeg) dX12_bridgeValue_37 hS sp129 (Nat.le_of_ble_eq_true rfl) (Nat.le_of_ble_eq_true rfl) rfl (inR_vp g1) rfl ?_
      obtain rfl := Option.some.inj h
      exact hE.2.1 _ _ _ _ _ _ .int dX12_bridgeValue_38 rfl rfl (Nat.zero_le _) (Nat.zero_le _) ⟨rfl, rfl⟩
    · rw [if_pos c2] at h
      refine pg_aload_n dX12_bridgeValue_17 rfl ?_
      refine pg_iload_n dX12_bridgeValue_18 rfl ?_
      obtain ⟨r3, h_r3, h⟩ := bd_at h
      refine eg_cVi (C := mX12_entries) (as := [(.int v1)]) dX12_bridgeValue_19 mw987 cv_X12_entries hS sp128 (Nat.le_of_ble_eq_true rfl) (Nat.le_of_ble_eq_true rfl) rfl rfl rfl (Nat.le_of_ble_eq_true rfl) rfl ⟨(Nat.le_of_ble_eq_true rfl), (Nat.le_of_ble_eq_true rfl)⟩ (ct_X12_entries hfl (hS.sub (Nat.le_of_ble_eq_true rfl) (Nat.le_of_ble_eq_true rfl)) h_r3) ?_
      refine pg_goto 38 dX12_bridgeValue_22 (by decide) ?_
      obtain rfl := Option.some.inj h
      exact hE.2.1 _ _ _ _ _ _ .int dX12_bridgeValue_38 rfl rfl (Nat.zero_le _) (Nat.zero_le _) ⟨rfl, rfl⟩
  · rw [if_pos c1] at h
    refine pg_aload_n dX12_bridgeValue_4 rfl ?_
    refine pg_iload_n dX12_bridgeValue_5 rfl ?_
    obtain ⟨r4, h_r4, h⟩ := bd_at h
    refine eg_cVi (C := mX12_idOf) (as := [(.int v1)]) dX12_bridgeValue_6 mw800 cv_X12_idOf hS sp128 (Nat.le_of_ble_eq_true rfl) (Nat.le_of_ble_eq_true rfl) rfl rfl rfl (Nat.le_of_ble_eq_true rfl) rfl ⟨(Nat.le_of_ble_eq_true rfl), (Nat.le_of_ble_eq_true rfl)⟩ (ct_X12_idOf hfl (hS.sub (Nat.le_of_ble_eq_true rfl) (Nat.le_of_ble_eq_true rfl)) h_r4) ?_
    refine pg_goto 38 dX12_bridgeValue_9 (by decide) ?_
    obtain rfl := Option.some.inj h
    exact hE.2.1 _ _ _ _ _ _ .int dX12_bridgeValue_38 rfl rfl (Nat.zero_le _) (Nat.zero_le _) ⟨rfl, rfl⟩
def f_X12_bridge (v1 : Int32) (v2 : Int32) (m0 : me) : Option (Int32 × me) :=
  bd (f_X12_isBridge v1 m0) (fun r1 =>
  if r1.1 = 0 then
    bd (f_X12_fails 1 r1.2) (fun r8 =>
    some ((r8.1, r8.2)))
  else
    bd (f_X12_in v2 0 5 r1.2) (fun r3 =>
    if r3.1 = 0 then
      bd (f_X12_fails 2 r3.2) (fun r5 =>
      some ((r5.1, r5.2)))
    else
      bd (f_X12_bridgeValue v1 v2 r3.2) (fun r6 =>
      bd (f_X12_tells r6.1 r6.2) (fun r7 =>
      some ((r7.1, r7.2))))))
set_option maxRecDepth 20000 in
set_option maxHeartbeats 4000000 in
theorem ct_X12_bridge (hfl : g.1.stackTraces = false) (hS : pS 128 137 S) {v1 : Int32} {v2 : Int32} {m0 : me} {x : (Int32 × me)} (h : f_X12_bridge v1 v2 m0 = some x) : pm_Ct g mX12_bridge [.ref 128, .int v1, .int v2] (en S m0) 0 0 (qI S x) qF := by
  refine pm_of (by decide +kernel) rfl hfl (Nat.le_of_ble_eq_true rfl) (fun X hE => ?_)
  show pm_G g mX12_bridge X 0 [some (.ref 128), some (.int v1), some (.int v2)] [] (en S m0) 0 0
  unfold f_X12_bridge at h
  refine pg_aload_n dX12_bridge_0 rfl ?_
  refine pg_iload_n dX12_bridge_1 rfl ?_
  obtain ⟨r1, h_r1, h⟩ := bd_at h
  refine eg_cVi (C := mX12_isBridge) (as := [(.int v1)]) dX12_bridge_2 mw837 cv_X12_isBridge hS sp128 (Nat.le_of_ble_eq_true rfl) (Nat.le_of_ble_eq_true rfl) rfl rfl rfl (Nat.le_of_ble_eq_true rfl) rfl ⟨(Nat.le_of_ble_eq_true rfl), (Nat.le_of_ble_eq_true rfl)⟩ (ct_X12_isBridge hfl (hS.sub (Nat.le_of_ble_eq_true rfl) (Nat.le_of_ble_eq_true rfl)) h_r1) ?_
  refine pg_if_ne 14 dX12_bridge_5 (by decide) (fun c2 => ?_) (fun c2 => ?_)
  · rw [if_neg c2] at h
    refine pg_iload_n dX12_bridge_14 rfl ?_
    refine pg_iconst 0 dX12_bridge_15 rfl ?_
    refine pg_iconst 5 dX12_bridge_16 rfl ?_
    obtain ⟨r3, h_r3, h⟩ := bd_at h
    refine eg_cSi (C := mX12_in) (as := [(.int v2), (.int 0), (.int 5)]) dX12_bridge_17 mw786 cs_X12_in rfl rfl (Nat.le_of_ble_eq_true rfl) rfl ⟨(Nat.le_of_ble_eq_true rfl), (Nat.le_of_ble_eq_true rfl)⟩ (ct_X12_in hfl h_r3) ?_
    refine pg_if_eq 36 dX12_bridge_20 (by decide) (fun c4 => ?_) (fun c4 => ?_)
    · rw [if_pos c4] at h
      refine pg_aload_n dX12_bridge_36 rfl ?_
      refine pg_iconst 2 dX12_bridge_37 rfl ?_
      obtain ⟨r5, h_r5, h⟩ := bd_at h
      refine eg_cVi (C := mX12_fails) (as := [(.int 2)]) dX12_bridge_38 mw806 cv_X12_fails hS sp128 (Nat.le_of_ble_eq_true rfl) (Nat.le_of_ble_eq_true rfl) rfl rfl rfl (Nat.le_of_ble_eq_true rfl) rfl ⟨(Nat.le_of_ble_eq_true rfl), (Nat.le_of_ble_eq_true rfl)⟩ (ct_X12_fails hfl (hS.sub (Nat.le_of_ble_eq_true rfl) (Nat.le_of_ble_eq_true rfl)) h_r5) ?_
      obtain rfl := Option.some.inj h
      exact hE.2.1 _ _ _ _ _ _ .int dX12_bridge_41 rfl rfl (Nat.zero_le _) (Nat.zero_le _) ⟨rfl, rfl⟩
    · rw [if_neg c4] at h
      refine pg_aload_n dX12_bridge_23 rfl ?_
      refine pg_aload_n dX12_bridge_24 rfl ?_
      refine pg_iload_n dX12_bridge_25 rfl ?_
      refine pg_iload_n dX12_bridge_26 rfl ?_
      obtain ⟨r6, h_r6, h⟩ := bd_at h
      refine eg_cVi (C := mX12_bridgeValue) (as := [(.int v1), (.int v2)]) dX12_bridge_27 mw982 cv_X12_bridgeValue hS sp128 (Nat.le_of_ble_eq_true rfl) (Nat.le_of_ble_eq_true rfl) rfl rfl rfl (Nat.le_of_ble_eq_true rfl) rfl ⟨(Nat.le_of_ble_eq_true rfl), (Nat.le_of_ble_eq_true rfl)⟩ (ct_X12_bridgeValue hfl (hS.sub (Nat.le_of_ble_eq_true rfl) (Nat.le_of_ble_eq_true rfl)) h_r6) ?_
      obtain ⟨r7, h_r7, h⟩ := bd_at h
      refine eg_cVi (C := mX12_tells) (as := [(.int r6.1)]) dX12_bridge_30 mw822 cv_X12_tells hS sp128 (Nat.le_of_ble_eq_true rfl) (Nat.le_of_ble_eq_true rfl) rfl rfl rfl (Nat.le_of_ble_eq_true rfl) rfl ⟨(Nat.le_of_ble_eq_true rfl), (Nat.le_of_ble_eq_true rfl)⟩ (ct_X12_tells hfl (hS.sub (Nat.le_of_ble_eq_true rfl) (Nat.le_of_ble_eq_true rfl)) h_r7) ?_
      refine pg_goto 41 dX12_bridge_33 (by decide) ?_
      obtain rfl := Option.some.inj h
      exact hE.2.1 _ _ _ _ _ _ .int dX12_bridge_41 rfl rfl (Nat.zero_le _) (Nat.zero_le _) ⟨rfl, rfl⟩
  · rw [if_pos c2] at h
    refine pg_aload_n dX12_bridge_8 rfl ?_
    refine pg_iconst 1 dX12_bridge_9 rfl ?_
    obtain ⟨r8, h_r8, h⟩ := bd_at h
    refine eg_cVi (C := mX12_fails) (as := [(.int 1)]) dX12_bridge_10 mw806 cv_X12_fails hS sp128 (Nat.le_of_ble_eq_true rfl) (Nat.le_of_ble_eq_true rfl) rfl rfl rfl (Nat.le_of_ble_eq_true rfl) rfl ⟨(Nat.le_of_ble_eq_true rfl), (Nat.le_of_ble_eq_true rfl)⟩ (ct_X12_fails hfl (hS.sub (Nat.le_of_ble_eq_true rfl) (Nat.le_of_ble_eq_true rfl)) h_r8) ?_
    obtain rfl := Option.some.inj h
    exact hE.2.1 _ _ _ _ _ _ .int dX12_bridge_13 rfl rfl (Nat.zero_le _) (Nat.zero_le _) ⟨rfl, rfl⟩
def f_X12_links (m0 : me) : Option (Int32 × me) :=
  bd (f_X12_tells (m0.1 129 5) m0) (fun r1 =>
  some ((r1.1, r1.2)))
set_option maxRecDepth 20000 in
set_option maxHeartbeats 4000000 in
theorem ct_X12_links (hfl : g.1.stackTraces = false) (hS : pS 128 137 S) {m0 : me} {x : (Int32 × me)} (h : f_X12_links m0 = some x) : pm_Ct g mX12_links [.ref 128] (en S m0) 0 0 (qI S x) qF := by
  refine pm_of (by decide +kernel) rfl hfl (Nat.le_of_ble_eq_true rfl) (fun X hE => ?_)
  show pm_G g mX12_links X 0 [some (.ref 128)] [] (en S m0) 0 0
  unfold f_X12_links at h
  refine pg_aload_n dX12_links_0 rfl ?_
  refine pg_aload_n dX12_links_1 rfl ?_
  refine eg_get dX12_links_2 fa_X12_7 hS sp128 (Nat.le_of_ble_eq_true rfl) (Nat.le_of_ble_eq_true rfl) rfl rfl ?_
  refine pg_iconst 5 dX12_links_5 rfl ?_
  refine eg_ialdJ 5 dX12_links_6 hS sp129 (Nat.le_of_ble_eq_true rfl) (Nat.le_of_ble_eq_true rfl) rfl (inR_vp rfl) rfl ?_
  obtain ⟨r1, h_r1, h⟩ := bd_at h
  refine eg_cVi (C := mX12_tells) (as := [(.int (m0.1 129 5))]) dX12_links_7 mw822 cv_X12_tells hS sp128 (Nat.le_of_ble_eq_true rfl) (Nat.le_of_ble_eq_true rfl) rfl rfl rfl (Nat.le_of_ble_eq_true rfl) rfl ⟨(Nat.le_of_ble_eq_true rfl), (Nat.le_of_ble_eq_true rfl)⟩ (ct_X12_tells hfl (hS.sub (Nat.le_of_ble_eq_true rfl) (Nat.le_of_ble_eq_true rfl)) h_r1) ?_
  obtain rfl := Option.some.inj h
  exact hE.2.1 _ _ _ _ _ _ .int dX12_links_10 rfl rfl (Nat.zero_le _) (Nat.zero_le _) ⟨rfl, rfl⟩
def f_X12_linkValue (v1 : Int32) (v2 : Int32) (m0 : me) : Option (Int32 × me) :=
  if 7 ≤ v2 then
    if v2 = 7 then
      bd (f_X12_carries v1 m0) (fun r4 =>
      if r4.1 = 0 then
        some ((0, r4.2))
      else
        some ((1, r4.2)))
    else
      bd (f_X12_of v1 7 m0) (fun r3 =>
      some ((r3.1, r3.2)))
  else
    bd (f_X12_of v1 v2 m0) (fun r6 =>
    some ((r6.1, r6.2)))
set_option maxRecDepth 20000 in
set_option maxHeartbeats 4000000 in
theorem ct_X12_linkValue (hfl : g.1.stackTraces = false) (hS : pS 128 137 S) {v1 : Int32} {v2 : Int32} {m0 : me} {x : (Int32 × me)} (h : f_X12_linkValue v1 v2 m0 = some x) : pm_Ct g mX12_linkValue [.ref 128, .int v1, .int v2] (en S m0) 0 0 (qI S x) qF := by
  refine pm_of (by decide +kernel) rfl hfl (Nat.le_of_ble_eq_true rfl) (fun X hE => ?_)
  show pm_G g mX12_linkValue X 0 [some (.ref 128), some (.int v1), some (.int v2)] [] (en S m0) 0 0
  unfold f_X12_linkValue at h
  refine pg_iload_n dX12_linkValue_0 rfl ?_
  refine pg_bipush 7 dX12_linkValue_1 rfl ?_
  refine pg_icmp_ge 15 dX12_linkValue_3 (by decide) (fun c1 => ?_) (fun c1 => ?_)
  · rw [if_pos c1] at h
    refine pg_iload_n dX12_linkValue_15 rfl ?_
    refine pg_bipush 7 dX12_linkValue_16 rfl ?_
    refine pg_icmp_ne 37 dX12_linkValue_18 (by decide) (fun c2 => ?_) (fun c2 => ?_)
    · rw [if_neg c2] at h
      refine pg_aload_n dX12_linkValue_37 rfl ?_
      refine pg_iload_n dX12_linkValue_38 rfl ?_
      refine pg_bipush 7 dX12_linkValue_39 rfl ?_
      obtain ⟨r3, h_r3, h⟩ := bd_at h
      refine eg_cVi (C := mX12_of) (as := [(.int v1), (.int 7)]) dX12_linkValue_41 mw863 cv_X12_of hS sp128 (Nat.le_of_ble_eq_true rfl) (Nat.le_of_ble_eq_true rfl) rfl rfl rfl (Nat.le_of_ble_eq_true rfl) rfl ⟨(Nat.le_of_ble_eq_true rfl), (Nat.le_of_ble_eq_true rfl)⟩ (ct_X12_of hfl (hS.sub (Nat.le_of_ble_eq_true rfl) (Nat.le_of_ble_eq_true rfl)) h_r3) ?_
      obtain rfl := Option.some.inj h
      exact hE.2.1 _ _ _ _ _ _ .int dX12_linkValue_44 rfl rfl (Nat.zero_le _) (Nat.zero_le _) ⟨rfl, rfl⟩
    · rw [if_pos c2] at h
      refine pg_aload_n dX12_linkValue_21 rfl ?_
      refine pg_iload_n dX12_linkValue_22 rfl ?_
      obtain ⟨r4, h_r4, h⟩ := bd_at h
      refine eg_cVi (C := mX12_carries) (as := [(.int v1)]) dX12_linkValue_23 mw967 cv_X12_carries hS sp128 (Nat.le_of_ble_eq_true rfl) (Nat.le_of_ble_eq_true rfl) rfl rfl rfl (Nat.le_of_ble_eq_true rfl) rfl ⟨(Nat.le_of_ble_eq_true rfl), (Nat.le_of_ble_eq_true rfl)⟩ (ct_X12_carries hfl (hS.sub (Nat.le_of_ble_eq_true rfl) (Nat.le_of_ble_eq_true rfl)) h_r4) ?_
      refine pg_if_eq 33 dX12_linkValue_26 (by decide) (fun c5 => ?_) (fun c5 => ?_)
      · rw [if_pos c5] at h
        refine pg_iconst 0 dX12_linkValue_33 rfl ?_
        refine pg_goto 44 dX12_linkValue_34 (by decide) ?_
        obtain rfl := Option.some.inj h
        exact hE.2.1 _ _ _ _ _ _ .int dX12_linkValue_44 rfl rfl (Nat.zero_le _) (Nat.zero_le _) ⟨rfl, rfl⟩
      · rw [if_neg c5] at h
        refine pg_iconst 1 dX12_linkValue_29 rfl ?_
        refine pg_goto 44 dX12_linkValue_30 (by decide) ?_
        obtain rfl := Option.some.inj h
        exact hE.2.1 _ _ _ _ _ _ .int dX12_linkValue_44 rfl rfl (Nat.zero_le _) (Nat.zero_le _) ⟨rfl, rfl⟩
  · rw [if_neg c1] at h
    refine pg_aload_n dX12_linkValue_6 rfl ?_
    refine pg_iload_n dX12_linkValue_7 rfl ?_
    refine pg_iload_n dX12_linkValue_8 rfl ?_
    obtain ⟨r6, h_r6, h⟩ := bd_at h
    refine eg_cVi (C := mX12_of) (as := [(.int v1), (.int v2)]) dX12_linkValue_9 mw863 cv_X12_of hS sp128 (Nat.le_of_ble_eq_true rfl) (Nat.le_of_ble_eq_true rfl) rfl rfl rfl (Nat.le_of_ble_eq_true rfl) rfl ⟨(Nat.le_of_ble_eq_true rfl), (Nat.le_of_ble_eq_true rfl)⟩ (ct_X12_of hfl (hS.sub (Nat.le_of_ble_eq_true rfl) (Nat.le_of_ble_eq_true rfl)) h_r6) ?_
    refine pg_goto 44 dX12_linkValue_12 (by decide) ?_
    obtain rfl := Option.some.inj h
    exact hE.2.1 _ _ _ _ _ _ .int dX12_linkValue_44 rfl rfl (Nat.zero_le _) (Nat.zero_le _) ⟨rfl, rfl⟩
def f_X12_link (v1 : Int32) (v2 : Int32) (m0 : me) : Option (Int32 × me) :=
  bd (f_X12_isLink v1 m0) (fun r1 =>
  if r1.1 = 0 then
    bd (f_X12_fails 1 r1.2) (fun r8 =>
    some ((r8.1, r8.2)))
  else
    bd (f_X12_in v2 0 8 r1.2) (fun r3 =>
    if r3.1 = 0 then
      bd (f_X12_fails 2 r3.2) (fun r5 =>
      some ((r5.1, r5.2)))
    else
      bd (f_X12_linkValue v1 v2 r3.2) (fun r6 =>
      bd (f_X12_tells r6.1 r6.2) (fun r7 =>
      some ((r7.1, r7.2))))))
set_option maxRecDepth 20000 in
set_option maxHeartbeats 4000000 in
theorem ct_X12_link (hfl : g.1.stackTraces = false) (hS : pS 128 137 S) {v1 : Int32} {v2 : Int32} {m0 : me} {x : (Int32 × me)} (h : f_X12_link v1 v2 m0 = some x) : pm_Ct g mX12_link [.ref 128, .int v1, .int v2] (en S m0) 0 0 (qI S x) qF := by
  refine pm_of (by decide +kernel) rfl hfl (Nat.le_of_ble_eq_true rfl) (fun X hE => ?_)
  show pm_G g mX12_link X 0 [some (.ref 128), some (.int v1), some (.int v2)] [] (en S m0) 0 0
  unfold f_X12_link at h
  refine pg_aload_n dX12_link_0 rfl ?_
  refine pg_iload_n dX12_link_1 rfl ?_
  obtain ⟨r1, h_r1, h⟩ := bd_at h
  refine eg_cVi (C := mX12_isLink) (as := [(.int v1)]) dX12_link_2 mw858 cv_X12_isLink hS sp128 (Nat.le_of_ble_eq_true rfl) (Nat.le_of_ble_eq_true rfl) rfl rfl rfl (Nat.le_of_ble_eq_true rfl) rfl ⟨(Nat.le_of_ble_eq_true rfl), (Nat.le_of_ble_eq_true rfl)⟩ (ct_X12_isLink hfl (hS.sub (Nat.le_of_ble_eq_true rfl) (Nat.le_of_ble_eq_true rfl)) h_r1) ?_
  refine pg_if_ne 14 dX12_link_5 (by decide) (fun c2 => ?_) (fun c2 => ?_)
  · rw [if_neg c2] at h
    refine pg_iload_n dX12_link_14 rfl ?_
    refine pg_iconst 0 dX12_link_15 rfl ?_
    refine pg_bipush 8 dX12_link_16 rfl ?_
    obtain ⟨r3, h_r3, h⟩ := bd_at h
    refine eg_cSi (C := mX12_in) (as := [(.int v2), (.int 0), (.int 8)]) dX12_link_18 mw786 cs_X12_in rfl rfl (Nat.le_of_ble_eq_true rfl) rfl ⟨(Nat.le_of_ble_eq_true rfl), (Nat.le_of_ble_eq_true rfl)⟩ (ct_X12_in hfl h_r3) ?_
    refine pg_if_eq 37 dX12_link_21 (by decide) (fun c4 => ?_) (fun c4 => ?_)
    · rw [if_pos c4] at h
      refine pg_aload_n dX12_link_37 rfl ?_
      refine pg_iconst 2 dX12_link_38 rfl ?_
      obtain ⟨r5, h_r5, h⟩ := bd_at h
      refine eg_cVi (C := mX12_fails) (as := [(.int 2)]) dX12_link_39 mw806 cv_X12_fails hS sp128 (Nat.le_of_ble_eq_true rfl) (Nat.le_of_ble_eq_true rfl) rfl rfl rfl (Nat.le_of_ble_eq_true rfl) rfl ⟨(Nat.le_of_ble_eq_true rfl), (Nat.le_of_ble_eq_true rfl)⟩ (ct_X12_fails hfl (hS.sub (Nat.le_of_ble_eq_true rfl) (Nat.le_of_ble_eq_true rfl)) h_r5) ?_
      obtain rfl := Option.some.inj h
      exact hE.2.1 _ _ _ _ _ _ .int dX12_link_42 rfl rfl (Nat.zero_le _) (Nat.zero_le _) ⟨rfl, rfl⟩
    · rw [if_neg c4] at h
      refine pg_aload_n dX12_link_24 rfl ?_
      refine pg_aload_n dX12_link_25 rfl ?_
      refine pg_iload_n dX12_link_26 rfl ?_
      refine pg_iload_n dX12_link_27 rfl ?_
      obtain ⟨r6, h_r6, h⟩ := bd_at h
      refine eg_cVi (C := mX12_linkValue) (as := [(.int v1), (.int v2)]) dX12_link_28 mw992 cv_X12_linkValue hS sp128 (Nat.le_of_ble_eq_true rfl) (Nat.le_of_ble_eq_true rfl) rfl rfl rfl (Nat.le_of_ble_eq_true rfl) rfl ⟨(Nat.le_of_ble_eq_true rfl), (Nat.le_of_ble_eq_true rfl)⟩ (ct_X12_linkValue hfl (hS.sub (Nat.le_of_ble_eq_true rfl) (Nat.le_of_ble_eq_true rfl)) h_r6) ?_
      obtain ⟨r7, h_r7, h⟩ := bd_at h
      refine eg_cVi (C := mX12_tells) (as := [(.int r6.1)]) dX12_link_31 mw822 cv_X12_tells hS sp128 (Nat.le_of_ble_eq_true rfl) (Nat.le_of_ble_eq_true rfl) rfl rfl rfl (Nat.le_of_ble_eq_true rfl) rfl ⟨(Nat.le_of_ble_eq_true rfl), (Nat.le_of_ble_eq_true rfl)⟩ (ct_X12_tells hfl (hS.sub (Nat.le_of_ble_eq_true rfl) (Nat.le_of_ble_eq_true rfl)) h_r7) ?_
      refine pg_goto 42 dX12_link_34 (by decide) ?_
      obtain rfl := Option.some.inj h
      exact hE.2.1 _ _ _ _ _ _ .int dX12_link_42 rfl rfl (Nat.zero_le _) (Nat.zero_le _) ⟨rfl, rfl⟩
  · rw [if_pos c2] at h
    refine pg_aload_n dX12_link_8 rfl ?_
    refine pg_iconst 1 dX12_link_9 rfl ?_
    obtain ⟨r8, h_r8, h⟩ := bd_at h
    refine eg_cVi (C := mX12_fails) (as := [(.int 1)]) dX12_link_10 mw806 cv_X12_fails hS sp128 (Nat.le_of_ble_eq_true rfl) (Nat.le_of_ble_eq_true rfl) rfl rfl rfl (Nat.le_of_ble_eq_true rfl) rfl ⟨(Nat.le_of_ble_eq_true rfl), (Nat.le_of_ble_eq_true rfl)⟩ (ct_X12_fails hfl (hS.sub (Nat.le_of_ble_eq_true rfl) (Nat.le_of_ble_eq_true rfl)) h_r8) ?_
    obtain rfl := Option.some.inj h
    exact hE.2.1 _ _ _ _ _ _ .int dX12_link_13 rfl rfl (Nat.zero_le _) (Nat.zero_le _) ⟨rfl, rfl⟩
def j_X12_port_37 (v3 : Int32) (u2 : Int32) (u3 : Int32) (u4 : Int32) (m0 : me) : Option (Int32 × me) :=
  bd (f_X12_of u2 ((u3 + u4) + v3) m0) (fun r7 =>
  bd (f_X12_tells r7.1 r7.2) (fun r8 =>
  some ((r8.1, r8.2))))
def f_X12_port (v1 : Int32) (v2 : Int32) (v3 : Int32) (m0 : me) : Option (Int32 × me) :=
  bd (f_X12_isLink v1 m0) (fun r1 =>
  if r1.1 = 0 then
    bd (f_X12_fails 1 r1.2) (fun r9 =>
    some ((r9.1, r9.2)))
  else
    bd (f_X12_in v3 0 2 r1.2) (fun r3 =>
    if r3.1 = 0 then
      bd (f_X12_fails 2 r3.2) (fun r5 =>
      some ((r5.1, r5.2)))
    else
      if v2 = 0 then
        j_X12_port_37 v3 v1 8 0 r3.2
      else
        j_X12_port_37 v3 v1 8 3 r3.2))
set_option maxRecDepth 20000 in
set_option maxHeartbeats 4000000 in
theorem lj_X12_port_37 (hfl : g.1.stackTraces = false) (hS : pS 128 137 S) {v3 : Int32} {u2 : Int32} {u3 : Int32} {u4 : Int32} {m0 : me} {r : (Int32 × me)} (h : j_X12_port_37 v3 u2 u3 u4 m0 = some r) (hE : pm_End g mX12_port X 0 0 (qI S r) qF) : pm_G g mX12_port X 37 [some (.ref 128), none, none, some (.int v3)] [(.int u4), (.int u3), (.int u2), (.ref 128), (.ref 128)] (en S m0) 0 0 := by
  unfold j_X12_port_37 at h
  refine pg_iadd dX12_port_37 ?_
  refine pg_iload_n dX12_port_38 rfl ?_
  refine pg_iadd dX12_port_39 ?_
  obtain ⟨r7, h_r7, h⟩ := bd_at h
  refine eg_cVi (C := mX12_of) (as := [(.int u2), (.int ((u3 + u4) + v3))]) dX12_port_40 mw863 cv_X12_of hS sp128 (Nat.le_of_ble_eq_true rfl) (Nat.le_of_ble_eq_true rfl) rfl rfl rfl (Nat.le_of_ble_eq_true rfl) rfl ⟨(Nat.le_of_ble_eq_true rfl), (Nat.le_of_ble_eq_true rfl)⟩ (ct_X12_of hfl (hS.sub (Nat.le_of_ble_eq_true rfl) (Nat.le_of_ble_eq_true rfl)) h_r7) ?_
  obtain ⟨r8, h_r8, h⟩ := bd_at h
  refine eg_cVi (C := mX12_tells) (as := [(.int r7.1)]) dX12_port_43 mw822 cv_X12_tells hS sp128 (Nat.le_of_ble_eq_true rfl) (Nat.le_of_ble_eq_true rfl) rfl rfl rfl (Nat.le_of_ble_eq_true rfl) rfl ⟨(Nat.le_of_ble_eq_true rfl), (Nat.le_of_ble_eq_true rfl)⟩ (ct_X12_tells hfl (hS.sub (Nat.le_of_ble_eq_true rfl) (Nat.le_of_ble_eq_true rfl)) h_r8) ?_
  refine pg_goto 54 dX12_port_46 (by decide) ?_
  obtain rfl := Option.some.inj h
  exact hE.2.1 _ _ _ _ _ _ .int dX12_port_54 rfl rfl (Nat.zero_le _) (Nat.zero_le _) ⟨rfl, rfl⟩
set_option maxRecDepth 20000 in
set_option maxHeartbeats 4000000 in
theorem ct_X12_port (hfl : g.1.stackTraces = false) (hS : pS 128 137 S) {v1 : Int32} {v2 : Int32} {v3 : Int32} {m0 : me} {x : (Int32 × me)} (h : f_X12_port v1 v2 v3 m0 = some x) : pm_Ct g mX12_port [.ref 128, .int v1, .int v2, .int v3] (en S m0) 0 0 (qI S x) qF := by
  refine pm_of (by decide +kernel) rfl hfl (Nat.le_of_ble_eq_true rfl) (fun X hE => ?_)
  show pm_G g mX12_port X 0 [some (.ref 128), some (.int v1), some (.int v2), some (.int v3)] [] (en S m0) 0 0
  unfold f_X12_port at h
  refine pg_aload_n dX12_port_0 rfl ?_
  refine pg_iload_n dX12_port_1 rfl ?_
  obtain ⟨r1, h_r1, h⟩ := bd_at h
  refine eg_cVi (C := mX12_isLink) (as := [(.int v1)]) dX12_port_2 mw858 cv_X12_isLink hS sp128 (Nat.le_of_ble_eq_true rfl) (Nat.le_of_ble_eq_true rfl) rfl rfl rfl (Nat.le_of_ble_eq_true rfl) rfl ⟨(Nat.le_of_ble_eq_true rfl), (Nat.le_of_ble_eq_true rfl)⟩ (ct_X12_isLink hfl (hS.sub (Nat.le_of_ble_eq_true rfl) (Nat.le_of_ble_eq_true rfl)) h_r1) ?_
  refine pg_if_ne 14 dX12_port_5 (by decide) (fun c2 => ?_) (fun c2 => ?_)
  · rw [if_neg c2] at h
    refine pg_iload_n dX12_port_14 rfl ?_
    refine pg_iconst 0 dX12_port_15 rfl ?_
    refine pg_iconst 2 dX12_port_16 rfl ?_
    obtain ⟨r3, h_r3, h⟩ := bd_at h
    refine eg_cSi (C := mX12_in) (as := [(.int v3), (.int 0), (.int 2)]) dX12_port_17 mw786 cs_X12_in rfl rfl (Nat.le_of_ble_eq_true rfl) rfl ⟨(Nat.le_of_ble_eq_true rfl), (Nat.le_of_ble_eq_true rfl)⟩ (ct_X12_in hfl h_r3) ?_
    refine pg_if_eq 49 dX12_port_20 (by decide) (fun c4 => ?_) (fun c4 => ?_)
    · rw [if_pos c4] at h
      refine pg_aload_n dX12_port_49 rfl ?_
      refine pg_iconst 2 dX12_port_50 rfl ?_
      obtain ⟨r5, h_r5, h⟩ := bd_at h
      refine eg_cVi (C := mX12_fails) (as := [(.int 2)]) dX12_port_51 mw806 cv_X12_fails hS sp128 (Nat.le_of_ble_eq_true rfl) (Nat.le_of_ble_eq_true rfl) rfl rfl rfl (Nat.le_of_ble_eq_true rfl) rfl ⟨(Nat.le_of_ble_eq_true rfl), (Nat.le_of_ble_eq_true rfl)⟩ (ct_X12_fails hfl (hS.sub (Nat.le_of_ble_eq_true rfl) (Nat.le_of_ble_eq_true rfl)) h_r5) ?_
      obtain rfl := Option.some.inj h
      exact hE.2.1 _ _ _ _ _ _ .int dX12_port_54 rfl rfl (Nat.zero_le _) (Nat.zero_le _) ⟨rfl, rfl⟩
    · rw [if_neg c4] at h
      refine pg_aload_n dX12_port_23 rfl ?_
      refine pg_aload_n dX12_port_24 rfl ?_
      refine pg_iload_n dX12_port_25 rfl ?_
      refine pg_bipush 8 dX12_port_26 rfl ?_
      refine pg_iload_n dX12_port_28 rfl ?_
      refine pg_if_eq 36 dX12_port_29 (by decide) (fun c6 => ?_) (fun c6 => ?_)
      · rw [if_pos c6] at h
        refine pg_iconst 0 dX12_port_36 rfl ?_
        refine eg_forget [some (.ref 128), none, none, some (.int v3)] (show pm_sub _ _ from ⟨rfl, ⟨rfl, trivial⟩⟩) ?_
        exact lj_X12_port_37 hfl hS h hE
      · rw [if_neg c6] at h
        refine pg_iconst 3 dX12_port_32 rfl ?_
        refine pg_goto 37 dX12_port_33 (by decide) ?_
        refine eg_forget [some (.ref 128), none, none, some (.int v3)] (show pm_sub _ _ from ⟨rfl, ⟨rfl, trivial⟩⟩) ?_
        exact lj_X12_port_37 hfl hS h hE
  · rw [if_pos c2] at h
    refine pg_aload_n dX12_port_8 rfl ?_
    refine pg_iconst 1 dX12_port_9 rfl ?_
    obtain ⟨r9, h_r9, h⟩ := bd_at h
    refine eg_cVi (C := mX12_fails) (as := [(.int 1)]) dX12_port_10 mw806 cv_X12_fails hS sp128 (Nat.le_of_ble_eq_true rfl) (Nat.le_of_ble_eq_true rfl) rfl rfl rfl (Nat.le_of_ble_eq_true rfl) rfl ⟨(Nat.le_of_ble_eq_true rfl), (Nat.le_of_ble_eq_true rfl)⟩ (ct_X12_fails hfl (hS.sub (Nat.le_of_ble_eq_true rfl) (Nat.le_of_ble_eq_true rfl)) h_r9) ?_
    obtain rfl := Option.some.inj h
    exact hE.2.1 _ _ _ _ _ _ .int dX12_port_13 rfl rfl (Nat.zero_le _) (Nat.zero_le _) ⟨rfl, rfl⟩
def j_X12_entry_28 (m0 : me) : Option (Int32 × me) :=
  bd (f_X12_fails 1 m0) (fun r3 =>
  some ((r3.1, r3.2)))
def f_X12_entry (v1 : Int32) (v2 : Int32) (m0 : me) : Option (Int32 × me) :=
  bd (f_X12_isBridge v1 m0) (fun r1 =>
  if r1.1 = 0 then
    j_X12_entry_28 r1.2
  else
    bd (f_X12_isHost v2 r1.2) (fun r4 =>
    if r4.1 = 0 then
      j_X12_entry_28 r4.2
    else
      bd (f_X12_entryOf v1 v2 r4.2) (fun r6 =>
      bd (f_X12_tells r6.1 r6.2) (fun r7 =>
      some ((r7.1, r7.2))))))
set_option maxRecDepth 20000 in
set_option maxHeartbeats 4000000 in
theorem lj_X12_entry_28 (hfl : g.1.stackTraces = false) (hS : pS 128 137 S) {m0 : me} {r : (Int32 × me)} (h : j_X12_entry_28 m0 = some r) (hE : pm_End g mX12_entry X 0 0 (qI S r) qF) : pm_G g mX12_entry X 28 [some (.ref 128), none, none] [] (en S m0) 0 0 := by
  unfold j_X12_entry_28 at h
  refine pg_aload_n dX12_entry_28 rfl ?_
  refine pg_iconst 1 dX12_entry_29 rfl ?_
  obtain ⟨r3, h_r3, h⟩ := bd_at h
  refine eg_cVi (C := mX12_fails) (as := [(.int 1)]) dX12_entry_30 mw806 cv_X12_fails hS sp128 (Nat.le_of_ble_eq_true rfl) (Nat.le_of_ble_eq_true rfl) rfl rfl rfl (Nat.le_of_ble_eq_true rfl) rfl ⟨(Nat.le_of_ble_eq_true rfl), (Nat.le_of_ble_eq_true rfl)⟩ (ct_X12_fails hfl (hS.sub (Nat.le_of_ble_eq_true rfl) (Nat.le_of_ble_eq_true rfl)) h_r3) ?_
  obtain rfl := Option.some.inj h
  exact hE.2.1 _ _ _ _ _ _ .int dX12_entry_33 rfl rfl (Nat.zero_le _) (Nat.zero_le _) ⟨rfl, rfl⟩
set_option maxRecDepth 20000 in
set_option maxHeartbeats 4000000 in
theorem ct_X12_entry (hfl : g.1.stackTraces = false) (hS : pS 128 137 S) {v1 : Int32} {v2 : Int32} {m0 : me} {x : (Int32 × me)} (h : f_X12_entry v1 v2 m0 = some x) : pm_Ct g mX12_entry [.ref 128, .int v1, .int v2] (en S m0) 0 0 (qI S x) qF := by
  refine pm_of (by decide +kernel) rfl hfl (Nat.le_of_ble_eq_true rfl) (fun X hE => ?_)
  show pm_G g mX12_entry X 0 [some (.ref 128), some (.int v1), some (.int v2)] [] (en S m0) 0 0
  unfold f_X12_entry at h
  refine pg_aload_n dX12_entry_0 rfl ?_
  refine pg_iload_n dX12_entry_1 rfl ?_
  obtain ⟨r1, h_r1, h⟩ := bd_at h
  refine eg_cVi (C := mX12_isBridge) (as := [(.int v1)]) dX12_entry_2 mw837 cv_X12_isBridge hS sp128 (Nat.le_of_ble_eq_true rfl) (Nat.le_of_ble_eq_true rfl) rfl rfl rfl (Nat.le_of_ble_eq_true rfl) rfl ⟨(Nat.le_of_ble_eq_true rfl), (Nat.le_of_ble_eq_true rfl)⟩ (ct_X12_isBridge hfl (hS.sub (Nat.le_of_ble_eq_true rfl) (Nat.le_of_ble_eq_true rfl)) h_r1) ?_
  refine pg_if_eq 28 dX12_entry_5 (by decide) (fun c2 => ?_) (fun c2 => ?_)
  · rw [if_pos c2] at h
    refine eg_forget [some (.ref 128), none, none] (show pm_sub _ _ from ⟨rfl, trivial⟩) ?_
    exact lj_X12_entry_28 hfl hS h hE
  · rw [if_neg c2] at h
    refine pg_iload_n dX12_entry_8 rfl ?_
    obtain ⟨r4, h_r4, h⟩ := bd_at h
    refine eg_cSi (C := mX12_isHost) (as := [(.int v2)]) dX12_entry_9 mw878 cs_X12_isHost rfl rfl (Nat.le_of_ble_eq_true rfl) rfl ⟨(Nat.le_of_ble_eq_true rfl), (Nat.le_of_ble_eq_true rfl)⟩ (ct_X12_isHost hfl h_r4) ?_
    refine pg_if_eq 28 dX12_entry_12 (by decide) (fun c5 => ?_) (fun c5 => ?_)
    · rw [if_pos c5] at h
      refine eg_forget [some (.ref 128), none, none] (show pm_sub _ _ from ⟨rfl, trivial⟩) ?_
      exact lj_X12_entry_28 hfl hS h hE
    · rw [if_neg c5] at h
      refine pg_aload_n dX12_entry_15 rfl ?_
      refine pg_aload_n dX12_entry_16 rfl ?_
      refine pg_iload_n dX12_entry_17 rfl ?_
      refine pg_iload_n dX12_entry_18 rfl ?_
      obtain ⟨r6, h_r6, h⟩ := bd_at h
      refine eg_cVi (C := mX12_entryOf) (as := [(.int v1), (.int v2)]) dX12_entry_19 mw977 cv_X12_entryOf hS sp128 (Nat.le_of_ble_eq_true rfl) (Nat.le_of_ble_eq_true rfl) rfl rfl rfl (Nat.le_of_ble_eq_true rfl) rfl ⟨(Nat.le_of_ble_eq_true rfl), (Nat.le_of_ble_eq_true rfl)⟩ (ct_X12_entryOf hfl (hS.sub (Nat.le_of_ble_eq_true rfl) (Nat.le_of_ble_eq_true rfl)) h_r6) ?_
      obtain ⟨r7, h_r7, h⟩ := bd_at h
      refine eg_cVi (C := mX12_tells) (as := [(.int r6.1)]) dX12_entry_22 mw822 cv_X12_tells hS sp128 (Nat.le_of_ble_eq_true rfl) (Nat.le_of_ble_eq_true rfl) rfl rfl rfl (Nat.le_of_ble_eq_true rfl) rfl ⟨(Nat.le_of_ble_eq_true rfl), (Nat.le_of_ble_eq_true rfl)⟩ (ct_X12_tells hfl (hS.sub (Nat.le_of_ble_eq_true rfl) (Nat.le_of_ble_eq_true rfl)) h_r7) ?_
      refine pg_goto 33 dX12_entry_25 (by decide) ?_
      obtain rfl := Option.some.inj h
      exact hE.2.1 _ _ _ _ _ _ .int dX12_entry_33 rfl rfl (Nat.zero_le _) (Nat.zero_le _) ⟨rfl, rfl⟩
def b_X12_won_4 (v1 : Int32) (s : Int32 × Int32 × me) : Option ((Int32 × Int32 × me) ⊕ (Int32 × Int32 × me)) :=
  if (s.2.2.1 129 5) ≤ s.2.1 then
    some (.inr (s.1, s.2.1, s.2.2))
  else
    bd (f_X12_of s.2.1 5 s.2.2) (fun r2 =>
    if r2.1 = v1 then
      lt (s.1 + 1) (fun w6 =>
      lt (s.2.1 + 1) (fun w7 =>
      some (.inl (w6, w7, r2.2))))
    else
      lt (s.1 + 0) (fun w4 =>
      lt (s.2.1 + 1) (fun w5 =>
      some (.inl (w4, w5, r2.2)))))
def f_X12_won (v1 : Int32) (m0 : me) : Option (Int32 × me) :=
  bd (lo (b_X12_won_4 v1) 2048 (0, 0, m0)) (fun s8 =>
  some ((s8.1, s8.2.2)))
set_option maxRecDepth 20000 in
set_option maxHeartbeats 4000000 in
theorem lb_X12_won_4 (hfl : g.1.stackTraces = false) (hS : pS 128 137 S) {v1 : Int32} {s : Int32 × Int32 × me} {r : (Int32 × Int32 × me) ⊕ (Int32 × Int32 × me)} (h : b_X12_won_4 v1 s = some r) (hN : ∀ s', r = .inl s' → (fun z9 : Int32 × Int32 × me => pm_G g mX12_won X 4 [some (.ref 128), some (.int v1), some (.int z9.1), some (.int z9.2.1)] [] (en S z9.2.2) 0 0) s') (hT : ∀ t, r = .inr t → (fun z9 : Int32 × Int32 × me => pm_G g mX12_won X 38 [some (.ref 128), some (.int v1), some (.int z9.1), some (.int z9.2.1)] [] (en S z9.2.2) 0 0) t) : (fun z9 : Int32 × Int32 × me => pm_G g mX12_won X 4 [some (.ref 128), some (.int v1), some (.int z9.1), some (.int z9.2.1)] [] (en S z9.2.2) 0 0) s := by
  unfold b_X12_won_4 at h
  show pm_G g mX12_won X 4 [some (.ref 128), some (.int v1), some (.int s.1), some (.int s.2.1)] [] (en S s.2.2) 0 0
  refine pg_iload_n dX12_won_4 rfl ?_
  refine pg_aload_n dX12_won_5 rfl ?_
  refine eg_get dX12_won_6 fa_X12_7 hS sp128 (Nat.le_of_ble_eq_true rfl) (Nat.le_of_ble_eq_true rfl) rfl rfl ?_
  refine pg_iconst 5 dX12_won_9 rfl ?_
  refine eg_ialdJ 5 dX12_won_10 hS sp129 (Nat.le_of_ble_eq_true rfl) (Nat.le_of_ble_eq_true rfl) rfl (inR_vp rfl) rfl ?_
  refine pg_icmp_ge 38 dX12_won_11 (by decide) (fun c1 => ?_) (fun c1 => ?_)
  · rw [if_pos c1] at h
    obtain rfl := Option.some.inj h
    exact hT _ rfl
  · rw [if_neg c1] at h
    refine pg_iload_n dX12_won_14 rfl ?_
    refine pg_aload_n dX12_won_15 rfl ?_
    refine pg_iload_n dX12_won_16 rfl ?_
    refine pg_iconst 5 dX12_won_17 rfl ?_
    obtain ⟨r2, h_r2, h⟩ := bd_at h
    refine eg_cVi (C := mX12_of) (as := [(.int s.2.1), (.int 5)]) dX12_won_18 mw863 cv_X12_of hS sp128 (Nat.le_of_ble_eq_true rfl) (Nat.le_of_ble_eq_true rfl) rfl rfl rfl (Nat.le_of_ble_eq_true rfl) rfl ⟨(Nat.le_of_ble_eq_true rfl), (Nat.le_of_ble_eq_true rfl)⟩ (ct_X12_of hfl (hS.sub (Nat.le_of_ble_eq_true rfl) (Nat.le_of_ble_eq_true rfl)) h_r2) ?_
    refine pg_iload_n dX12_won_21 rfl ?_
    refine pg_icmp_ne 29 dX12_won_22 (by decide) (fun c3 => ?_) (fun c3 => ?_)
    · rw [if_neg c3] at h
      refine pg_iconst 0 dX12_won_29 rfl ?_
      refine pg_iadd dX12_won_30 ?_
      obtain ⟨w4, e_w4⟩ : ∃ z : Int32, z = s.1 + 0 := ⟨_, rfl⟩
      replace h := lt_at h e_w4
      refine eg_istore_n [some (.ref 128), some (.int v1), some (.int w4), some (.int s.2.1)] w4 dX12_won_31 e_w4 (Nat.le_of_ble_eq_true rfl) rfl ?_
      obtain ⟨w5, e_w5⟩ : ∃ z : Int32, z = s.2.1 + 1 := ⟨_, rfl⟩
      replace h := lt_at h e_w5
      refine eg_iinc [some (.ref 128), some (.int v1), some (.int w4), some (.int w5)] w5 1 dX12_won_32 rfl rfl e_w5 rfl ?_
      refine pg_goto 4 dX12_won_35 (by decide) ?_
      obtain rfl := Option.some.inj h
      exact hN _ rfl
    · rw [if_pos c3] at h
      refine pg_iconst 1 dX12_won_25 rfl ?_
      refine pg_goto 30 dX12_won_26 (by decide) ?_
      refine pg_iadd dX12_won_30 ?_
      obtain ⟨w6, e_w6⟩ : ∃ z : Int32, z = s.1 + 1 := ⟨_, rfl⟩
      replace h := lt_at h e_w6
      refine eg_istore_n [some (.ref 128), some (.int v1), some (.int w6), some (.int s.2.1)] w6 dX12_won_31 e_w6 (Nat.le_of_ble_eq_true rfl) rfl ?_
      obtain ⟨w7, e_w7⟩ : ∃ z : Int32, z = s.2.1 + 1 := ⟨_, rfl⟩
      replace h := lt_at h e_w7
      refine eg_iinc [some (.ref 128), some (.int v1), some (.int w6), some (.int w7)] w7 1 dX12_won_32 rfl rfl e_w7 rfl ?_
      refine pg_goto 4 dX12_won_35 (by decide) ?_
      obtain rfl := Option.some.inj h
      exact hN _ rfl
set_option maxRecDepth 20000 in
set_option maxHeartbeats 4000000 in
theorem ct_X12_won (hfl : g.1.stackTraces = false) (hS : pS 128 137 S) {v1 : Int32} {m0 : me} {x : (Int32 × me)} (h : f_X12_won v1 m0 = some x) : pm_Ct g mX12_won [.ref 128, .int v1] (en S m0) 0 0 (qI S x) qF := by
  refine pm_of (by decide +kernel) rfl hfl (Nat.le_of_ble_eq_true rfl) (fun X hE => ?_)
  show pm_G g mX12_won X 0 [some (.ref 128), some (.int v1), none, none] [] (en S m0) 0 0
  unfold f_X12_won at h
  refine pg_iconst 0 dX12_won_0 rfl ?_
  refine eg_istore_n [some (.ref 128), some (.int v1), some (.int 0), none] 0 dX12_won_1 rfl (Nat.le_of_ble_eq_true rfl) rfl ?_
  refine pg_iconst 0 dX12_won_2 rfl ?_
  refine eg_istore_n [some (.ref 128), some (.int v1), some (.int 0), some (.int 0)] 0 dX12_won_3 rfl (Nat.le_of_ble_eq_true rfl) rfl ?_
  obtain ⟨s8, h_s8, h⟩ := bd_at h
  refine lo_at (b := b_X12_won_4 v1) (G := (fun z9 : Int32 × Int32 × me => pm_G g mX12_won X 4 [some (.ref 128), some (.int v1), some (.int z9.1), some (.int z9.2.1)] [] (en S z9.2.2) 0 0)) (T := (fun z9 : Int32 × Int32 × me => pm_G g mX12_won X 38 [some (.ref 128), some (.int v1), some (.int z9.1), some (.int z9.2.1)] [] (en S z9.2.2) 0 0)) (fun q9 r9 h1 h2 h3 => lb_X12_won_4 hfl hS h1 h2 h3) 2048 (0, 0, m0) s8 h_s8 ?_
  show pm_G g mX12_won X 38 [some (.ref 128), some (.int v1), some (.int s8.1), some (.int s8.2.1)] [] (en S s8.2.2) 0 0
  refine pg_iload_n dX12_won_38 rfl ?_
  obtain rfl := Option.some.inj h
  exact hE.2.1 _ _ _ _ _ _ .int dX12_won_39 rfl rfl (Nat.zero_le _) (Nat.zero_le _) ⟨rfl, rfl⟩
def f_X12_tenantValue (v1 : Int32) (v2 : Int32) (m0 : me) : Option (Int32 × me) :=
  if v2 = 1 then
    bd (f_X12_won v1 m0) (fun r3 =>
    some ((r3.1, r3.2)))
  else
    if v2 = 0 then
      gd (inR ((187 + (3 * v1)) + 0) 487) (
      some ((m0.1 129 (((187 + (3 * v1)) + 0).toNatClampNeg), m0)))
    else
      gd (inR ((187 + (3 * v1)) + (v2 - 1)) 487) (
      some ((m0.1 129 (((187 + (3 * v1)) + (v2 - 1)).toNatClampNeg), m0)))
set_option maxRecDepth 20000 in
set_option maxHeartbeats 4000000 in
theorem ct_X12_tenantValue (hfl : g.1.stackTraces = false) (hS : pS 128 137 S) {v1 : Int32} {v2 : Int32} {m0 : me} {x : (Int32 × me)} (h : f_X12_tenantValue v1 v2 m0 = some x) : pm_Ct g mX12_tenantValue [.ref 128, .int v1, .int v2] (en S m0) 0 0 (qI S x) qF := by
  refine pm_of (by decide +kernel) rfl hfl (Nat.le_of_ble_eq_true rfl) (fun X hE => ?_)
  show pm_G g mX12_tenantValue X 0 [some (.ref 128), some (.int v1), some (.int v2)] [] (en S m0) 0 0
  unfold f_X12_tenantValue at h
  refine pg_iload_n dX12_tenantValue_0 rfl ?_
  refine pg_iconst 1 dX12_tenantValue_1 rfl ?_
  refine pg_icmp_ne 13 dX12_tenantValue_2 (by decide) (fun c1 => ?_) (fun c1 => ?_)
  · rw [if_neg c1] at h
    refine pg_aload_n dX12_tenantValue_13 rfl ?_
    refine eg_get dX12_tenantValue_14 fa_X12_7 hS sp128 (Nat.le_of_ble_eq_true rfl) (Nat.le_of_ble_eq_true rfl) rfl rfl ?_
    refine pg_sipush 187 dX12_tenantValue_17 rfl ?_
    refine pg_iconst 3 dX12_tenantValue_20 rfl ?_
    refine pg_iload_n dX12_tenantValue_21 rfl ?_
    refine pg_imul dX12_tenantValue_22 ?_
    refine pg_iadd dX12_tenantValue_23 ?_
    refine pg_iload_n dX12_tenantValue_24 rfl ?_
    refine pg_if_ne 32 dX12_tenantValue_25 (by decide) (fun c2 => ?_) (fun c2 => ?_)
    · rw [if_neg c2] at h
      refine pg_iload_n dX12_tenantValue_32 rfl ?_
      refine pg_iconst 1 dX12_tenantValue_33 rfl ?_
      refine pg_isub dX12_tenantValue_34 ?_
      refine pg_iadd dX12_tenantValue_35 ?_
      obtain ⟨g1, h⟩ := gd_at h
      refine eg_ialdJ (((187 + (3 * v1)) + (v2 - 1)).toNatClampNeg) dX12_tenantValue_36 hS sp129 (Nat.le_of_ble_eq_true rfl) (Nat.le_of_ble_eq_true rfl) rfl (inR_vp g1) rfl ?_
      obtain rfl := Option.some.inj h
      exact hE.2.1 _ _ _ _ _ _ .int dX12_tenantValue_37 rfl rfl (Nat.zero_le _) (Nat.zero_le _) ⟨rfl, rfl⟩
    · rw [if_pos c2] at h
      refine pg_iconst 0 dX12_tenantValue_28 rfl ?_
      refine pg_goto 35 dX12_tenantValue_29 (by decide) ?_
      refine pg_iadd dX12_tenantValue_35 ?_
      obtain ⟨g1, h⟩ := gd_at h
      refine eg_ialdJ (((187 + (3 * v1)) + 0).toNatClampNeg) dX12_tenantValue_36 hS sp129 (Nat.le_of_ble_eq_true rfl) (Nat.le_of_ble_eq_true rfl) rfl (inR_vp g1) rfl ?_
      obtain rfl := Option.some.inj h
      exact hE.2.1 _ _ _ _ _ _ .int dX12_tenantValue_37 rfl rfl (Nat.zero_le _) (Nat.zero_le _) ⟨rfl, rfl⟩
  · rw [if_pos c1] at h
    refine pg_aload_n dX12_tenantValue_5 rfl ?_
    refine pg_iload_n dX12_tenantValue_6 rfl ?_
    obtain ⟨r3, h_r3, h⟩ := bd_at h
    refine eg_cVi (C := mX12_won) (as := [(.int v1)]) dX12_tenantValue_7 mw1002 cv_X12_won hS sp128 (Nat.le_of_ble_eq_true rfl) (Nat.le_of_ble_eq_true rfl) rfl rfl rfl (Nat.le_of_ble_eq_true rfl) rfl ⟨(Nat.le_of_ble_eq_true rfl), (Nat.le_of_ble_eq_true rfl)⟩ (ct_X12_won hfl (hS.sub (Nat.le_of_ble_eq_true rfl) (Nat.le_of_ble_eq_true rfl)) h_r3) ?_
    refine pg_goto 37 dX12_tenantValue_10 (by decide) ?_
    obtain rfl := Option.some.inj h
    exact hE.2.1 _ _ _ _ _ _ .int dX12_tenantValue_37 rfl rfl (Nat.zero_le _) (Nat.zero_le _) ⟨rfl, rfl⟩
def f_X12_tenant (v1 : Int32) (v2 : Int32) (m0 : me) : Option (Int32 × me) :=
  bd (f_X12_isTenant v1 m0) (fun r1 =>
  if r1.1 = 0 then
    bd (f_X12_fails 1 r1.2) (fun r8 =>
    some ((r8.1, r8.2)))
  else
    bd (f_X12_in v2 0 3 r1.2) (fun r3 =>
    if r3.1 = 0 then
      bd (f_X12_fails 2 r3.2) (fun r5 =>
      some ((r5.1, r5.2)))
    else
      bd (f_X12_tenantValue v1 v2 r3.2) (fun r6 =>
      bd (f_X12_tells r6.1 r6.2) (fun r7 =>
      some ((r7.1, r7.2))))))
set_option maxRecDepth 20000 in
set_option maxHeartbeats 4000000 in
theorem ct_X12_tenant (hfl : g.1.stackTraces = false) (hS : pS 128 137 S) {v1 : Int32} {v2 : Int32} {m0 : me} {x : (Int32 × me)} (h : f_X12_tenant v1 v2 m0 = some x) : pm_Ct g mX12_tenant [.ref 128, .int v1, .int v2] (en S m0) 0 0 (qI S x) qF := by
  refine pm_of (by decide +kernel) rfl hfl (Nat.le_of_ble_eq_true rfl) (fun X hE => ?_)
  show pm_G g mX12_tenant X 0 [some (.ref 128), some (.int v1), some (.int v2)] [] (en S m0) 0 0
  unfold f_X12_tenant at h
  refine pg_iload_n dX12_tenant_0 rfl ?_
  obtain ⟨r1, h_r1, h⟩ := bd_at h
  refine eg_cSi (C := mX12_isTenant) (as := [(.int v1)]) dX12_tenant_1 mw887 cs_X12_isTenant rfl rfl (Nat.le_of_ble_eq_true rfl) rfl ⟨(Nat.le_of_ble_eq_true rfl), (Nat.le_of_ble_eq_true rfl)⟩ (ct_X12_isTenant hfl h_r1) ?_
  refine pg_if_ne 13 dX12_tenant_4 (by decide) (fun c2 => ?_) (fun c2 => ?_)
  · rw [if_neg c2] at h
    refine pg_iload_n dX12_tenant_13 rfl ?_
    refine pg_iconst 0 dX12_tenant_14 rfl ?_
    refine pg_iconst 3 dX12_tenant_15 rfl ?_
    obtain ⟨r3, h_r3, h⟩ := bd_at h
    refine eg_cSi (C := mX12_in) (as := [(.int v2), (.int 0), (.int 3)]) dX12_tenant_16 mw786 cs_X12_in rfl rfl (Nat.le_of_ble_eq_true rfl) rfl ⟨(Nat.le_of_ble_eq_true rfl), (Nat.le_of_ble_eq_true rfl)⟩ (ct_X12_in hfl h_r3) ?_
    refine pg_if_eq 35 dX12_tenant_19 (by decide) (fun c4 => ?_) (fun c4 => ?_)
    · rw [if_pos c4] at h
      refine pg_aload_n dX12_tenant_35 rfl ?_
      refine pg_iconst 2 dX12_tenant_36 rfl ?_
      obtain ⟨r5, h_r5, h⟩ := bd_at h
      refine eg_cVi (C := mX12_fails) (as := [(.int 2)]) dX12_tenant_37 mw806 cv_X12_fails hS sp128 (Nat.le_of_ble_eq_true rfl) (Nat.le_of_ble_eq_true rfl) rfl rfl rfl (Nat.le_of_ble_eq_true rfl) rfl ⟨(Nat.le_of_ble_eq_true rfl), (Nat.le_of_ble_eq_true rfl)⟩ (ct_X12_fails hfl (hS.sub (Nat.le_of_ble_eq_true rfl) (Nat.le_of_ble_eq_true rfl)) h_r5) ?_
      obtain rfl := Option.some.inj h
      exact hE.2.1 _ _ _ _ _ _ .int dX12_tenant_40 rfl rfl (Nat.zero_le _) (Nat.zero_le _) ⟨rfl, rfl⟩
    · rw [if_neg c4] at h
      refine pg_aload_n dX12_tenant_22 rfl ?_
      refine pg_aload_n dX12_tenant_23 rfl ?_
      refine pg_iload_n dX12_tenant_24 rfl ?_
      refine pg_iload_n dX12_tenant_25 rfl ?_
      obtain ⟨r6, h_r6, h⟩ := bd_at h
      refine eg_cVi (C := mX12_tenantValue) (as := [(.int v1), (.int v2)]) dX12_tenant_26 mw997 cv_X12_tenantValue hS sp128 (Nat.le_of_ble_eq_true rfl) (Nat.le_of_ble_eq_true rfl) rfl rfl rfl (Nat.le_of_ble_eq_true rfl) rfl ⟨(Nat.le_of_ble_eq_true rfl), (Nat.le_of_ble_eq_true rfl)⟩ (ct_X12_tenantValue hfl (hS.sub (Nat.le_of_ble_eq_true rfl) (Nat.le_of_ble_eq_true rfl)) h_r6) ?_
      obtain ⟨r7, h_r7, h⟩ := bd_at h
      refine eg_cVi (C := mX12_tells) (as := [(.int r6.1)]) dX12_tenant_29 mw822 cv_X12_tells hS sp128 (Nat.le_of_ble_eq_true rfl) (Nat.le_of_ble_eq_true rfl) rfl rfl rfl (Nat.le_of_ble_eq_true rfl) rfl ⟨(Nat.le_of_ble_eq_true rfl), (Nat.le_of_ble_eq_true rfl)⟩ (ct_X12_tells hfl (hS.sub (Nat.le_of_ble_eq_true rfl) (Nat.le_of_ble_eq_true rfl)) h_r7) ?_
      refine pg_goto 40 dX12_tenant_32 (by decide) ?_
      obtain rfl := Option.some.inj h
      exact hE.2.1 _ _ _ _ _ _ .int dX12_tenant_40 rfl rfl (Nat.zero_le _) (Nat.zero_le _) ⟨rfl, rfl⟩
  · rw [if_pos c2] at h
    refine pg_aload_n dX12_tenant_7 rfl ?_
    refine pg_iconst 1 dX12_tenant_8 rfl ?_
    obtain ⟨r8, h_r8, h⟩ := bd_at h
    refine eg_cVi (C := mX12_fails) (as := [(.int 1)]) dX12_tenant_9 mw806 cv_X12_fails hS sp128 (Nat.le_of_ble_eq_true rfl) (Nat.le_of_ble_eq_true rfl) rfl rfl rfl (Nat.le_of_ble_eq_true rfl) rfl ⟨(Nat.le_of_ble_eq_true rfl), (Nat.le_of_ble_eq_true rfl)⟩ (ct_X12_fails hfl (hS.sub (Nat.le_of_ble_eq_true rfl) (Nat.le_of_ble_eq_true rfl)) h_r8) ?_
    obtain rfl := Option.some.inj h
    exact hE.2.1 _ _ _ _ _ _ .int dX12_tenant_12 rfl rfl (Nat.zero_le _) (Nat.zero_le _) ⟨rfl, rfl⟩
def j_X12_bidOf_31 (m0 : me) : Option (Int32 × me) :=
  bd (f_X12_fails 1 m0) (fun r3 =>
  some ((r3.1, r3.2)))
def f_X12_bidOf (v1 : Int32) (v2 : Int32) (m0 : me) : Option (Int32 × me) :=
  bd (f_X12_isTenant v1 m0) (fun r1 =>
  if r1.1 = 0 then
    j_X12_bidOf_31 r1.2
  else
    bd (f_X12_isLink v2 r1.2) (fun r4 =>
    if r4.1 = 0 then
      j_X12_bidOf_31 r4.2
    else
      bd (f_X12_of v2 (14 + v1) r4.2) (fun r6 =>
      bd (f_X12_tells r6.1 r6.2) (fun r7 =>
      some ((r7.1, r7.2))))))
set_option maxRecDepth 20000 in
set_option maxHeartbeats 4000000 in
theorem lj_X12_bidOf_31 (hfl : g.1.stackTraces = false) (hS : pS 128 137 S) {m0 : me} {r : (Int32 × me)} (h : j_X12_bidOf_31 m0 = some r) (hE : pm_End g mX12_bidOf X 0 0 (qI S r) qF) : pm_G g mX12_bidOf X 31 [some (.ref 128), none, none] [] (en S m0) 0 0 := by
  unfold j_X12_bidOf_31 at h
  refine pg_aload_n dX12_bidOf_31 rfl ?_
  refine pg_iconst 1 dX12_bidOf_32 rfl ?_
  obtain ⟨r3, h_r3, h⟩ := bd_at h
  refine eg_cVi (C := mX12_fails) (as := [(.int 1)]) dX12_bidOf_33 mw806 cv_X12_fails hS sp128 (Nat.le_of_ble_eq_true rfl) (Nat.le_of_ble_eq_true rfl) rfl rfl rfl (Nat.le_of_ble_eq_true rfl) rfl ⟨(Nat.le_of_ble_eq_true rfl), (Nat.le_of_ble_eq_true rfl)⟩ (ct_X12_fails hfl (hS.sub (Nat.le_of_ble_eq_true rfl) (Nat.le_of_ble_eq_true rfl)) h_r3) ?_
  obtain rfl := Option.some.inj h
  exact hE.2.1 _ _ _ _ _ _ .int dX12_bidOf_36 rfl rfl (Nat.zero_le _) (Nat.zero_le _) ⟨rfl, rfl⟩
set_option maxRecDepth 20000 in
set_option maxHeartbeats 4000000 in
theorem ct_X12_bidOf (hfl : g.1.stackTraces = false) (hS : pS 128 137 S) {v1 : Int32} {v2 : Int32} {m0 : me} {x : (Int32 × me)} (h : f_X12_bidOf v1 v2 m0 = some x) : pm_Ct g mX12_bidOf [.ref 128, .int v1, .int v2] (en S m0) 0 0 (qI S x) qF := by
  refine pm_of (by decide +kernel) rfl hfl (Nat.le_of_ble_eq_true rfl) (fun X hE => ?_)
  show pm_G g mX12_bidOf X 0 [some (.ref 128), some (.int v1), some (.int v2)] [] (en S m0) 0 0
  unfold f_X12_bidOf at h
  refine pg_iload_n dX12_bidOf_0 rfl ?_
  obtain ⟨r1, h_r1, h⟩ := bd_at h
  refine eg_cSi (C := mX12_isTenant) (as := [(.int v1)]) dX12_bidOf_1 mw887 cs_X12_isTenant rfl rfl (Nat.le_of_ble_eq_true rfl) rfl ⟨(Nat.le_of_ble_eq_true rfl), (Nat.le_of_ble_eq_true rfl)⟩ (ct_X12_isTenant hfl h_r1) ?_
  refine pg_if_eq 31 dX12_bidOf_4 (by decide) (fun c2 => ?_) (fun c2 => ?_)
  · rw [if_pos c2] at h
    refine eg_forget [some (.ref 128), none, none] (show pm_sub _ _ from ⟨rfl, trivial⟩) ?_
    exact lj_X12_bidOf_31 hfl hS h hE
  · rw [if_neg c2] at h
    refine pg_aload_n dX12_bidOf_7 rfl ?_
    refine pg_iload_n dX12_bidOf_8 rfl ?_
    obtain ⟨r4, h_r4, h⟩ := bd_at h
    refine eg_cVi (C := mX12_isLink) (as := [(.int v2)]) dX12_bidOf_9 mw858 cv_X12_isLink hS sp128 (Nat.le_of_ble_eq_true rfl) (Nat.le_of_ble_eq_true rfl) rfl rfl rfl (Nat.le_of_ble_eq_true rfl) rfl ⟨(Nat.le_of_ble_eq_true rfl), (Nat.le_of_ble_eq_true rfl)⟩ (ct_X12_isLink hfl (hS.sub (Nat.le_of_ble_eq_true rfl) (Nat.le_of_ble_eq_true rfl)) h_r4) ?_
    refine pg_if_eq 31 dX12_bidOf_12 (by decide) (fun c5 => ?_) (fun c5 => ?_)
    · rw [if_pos c5] at h
      refine eg_forget [some (.ref 128), none, none] (show pm_sub _ _ from ⟨rfl, trivial⟩) ?_
      exact lj_X12_bidOf_31 hfl hS h hE
    · rw [if_neg c5] at h
      refine pg_aload_n dX12_bidOf_15 rfl ?_
      refine pg_aload_n dX12_bidOf_16 rfl ?_
      refine pg_iload_n dX12_bidOf_17 rfl ?_
      refine pg_bipush 14 dX12_bidOf_18 rfl ?_
      refine pg_iload_n dX12_bidOf_20 rfl ?_
      refine pg_iadd dX12_bidOf_21 ?_
      obtain ⟨r6, h_r6, h⟩ := bd_at h
      refine eg_cVi (C := mX12_of) (as := [(.int v2), (.int (14 + v1))]) dX12_bidOf_22 mw863 cv_X12_of hS sp128 (Nat.le_of_ble_eq_true rfl) (Nat.le_of_ble_eq_true rfl) rfl rfl rfl (Nat.le_of_ble_eq_true rfl) rfl ⟨(Nat.le_of_ble_eq_true rfl), (Nat.le_of_ble_eq_true rfl)⟩ (ct_X12_of hfl (hS.sub (Nat.le_of_ble_eq_true rfl) (Nat.le_of_ble_eq_true rfl)) h_r6) ?_
      obtain ⟨r7, h_r7, h⟩ := bd_at h
      refine eg_cVi (C := mX12_tells) (as := [(.int r6.1)]) dX12_bidOf_25 mw822 cv_X12_tells hS sp128 (Nat.le_of_ble_eq_true rfl) (Nat.le_of_ble_eq_true rfl) rfl rfl rfl (Nat.le_of_ble_eq_true rfl) rfl ⟨(Nat.le_of_ble_eq_true rfl), (Nat.le_of_ble_eq_true rfl)⟩ (ct_X12_tells hfl (hS.sub (Nat.le_of_ble_eq_true rfl) (Nat.le_of_ble_eq_true rfl)) h_r7) ?_
      refine pg_goto 36 dX12_bidOf_28 (by decide) ?_
      obtain rfl := Option.some.inj h
      exact hE.2.1 _ _ _ _ _ _ .int dX12_bidOf_36 rfl rfl (Nat.zero_le _) (Nat.zero_le _) ⟨rfl, rfl⟩
def b_X12_pairs_25 (v2 : Int32) (v3 : Int32) (s : Int32 × Int32 × me) : Option ((Int32 × Int32 × me) ⊕ (Int32 × Int32 × me)) :=
  if (s.2.2.1 129 0) ≤ s.2.1 then
    some (.inr (s.1, s.2.1, s.2.2))
  else
    lt (s.1 + ((v3 >>> (s.2.1 &&& 31)) &&& 1)) (fun w5 =>
    lt (s.2.1 + 1) (fun w6 =>
    some (.inl (w5, w6, s.2.2))))
def b_X12_pairs_4 (s : Int32 × Int32 × me) : Option ((Int32 × Int32 × me) ⊕ (Int32 × Int32 × me)) :=
  if (s.2.2.1 129 0) ≤ s.2.1 then
    some (.inr (s.1, s.2.1, s.2.2))
  else
    bd (f_X12_reached s.2.1 s.2.2) (fun r2 =>
    lt (s.2.1 + 1) (fun w3 =>
    bd (lo (b_X12_pairs_25 s.2.1 r2.1) 2048 (s.1, w3, r2.2)) (fun s7 =>
    lt (s.2.1 + 1) (fun w8 =>
    some (.inl (s7.1, w8, s7.2.2))))))
def f_X12_pairs (m0 : me) : Option (Int32 × me) :=
  bd (lo (b_X12_pairs_4) 2048 (0, 0, m0)) (fun s9 =>
  some ((s9.1, s9.2.2)))
set_option maxRecDepth 20000 in
set_option maxHeartbeats 4000000 in
theorem lb_X12_pairs_25 (hfl : g.1.stackTraces = false) (hS : pS 128 137 S) {v2 : Int32} {v3 : Int32} {s : Int32 × Int32 × me} {r : (Int32 × Int32 × me) ⊕ (Int32 × Int32 × me)} (h : b_X12_pairs_25 v2 v3 s = some r) (hN : ∀ s', r = .inl s' → (fun z9 : Int32 × Int32 × me => pm_G g mX12_pairs X 25 [some (.ref 128), some (.int z9.1), some (.int v2), some (.int v3), some (.int z9.2.1)] [] (en S z9.2.2) 0 0) s') (hT : ∀ t, r = .inr t → (fun z9 : Int32 × Int32 × me => pm_G g mX12_pairs X 51 [some (.ref 128), some (.int z9.1), some (.int v2), some (.int v3), some (.int z9.2.1)] [] (en S z9.2.2) 0 0) t) : (fun z9 : Int32 × Int32 × me => pm_G g mX12_pairs X 25 [some (.ref 128), some (.int z9.1), some (.int v2), some (.int v3), some (.int z9.2.1)] [] (en S z9.2.2) 0 0) s := by
  unfold b_X12_pairs_25 at h
  show pm_G g mX12_pairs X 25 [some (.ref 128), some (.int s.1), some (.int v2), some (.int v3), some (.int s.2.1)] [] (en S s.2.2) 0 0
  refine pg_iload dX12_pairs_25 rfl ?_
  refine pg_aload_n dX12_pairs_27 rfl ?_
  refine eg_get dX12_pairs_28 fa_X12_7 hS sp128 (Nat.le_of_ble_eq_true rfl) (Nat.le_of_ble_eq_true rfl) rfl rfl ?_
  refine pg_iconst 0 dX12_pairs_31 rfl ?_
  refine eg_ialdJ 0 dX12_pairs_32 hS sp129 (Nat.le_of_ble_eq_true rfl) (Nat.le_of_ble_eq_true rfl) rfl (inR_vp rfl) rfl ?_
  refine pg_icmp_ge 51 dX12_pairs_33 (by decide) (fun c4 => ?_) (fun c4 => ?_)
  · rw [if_pos c4] at h
    obtain rfl := Option.some.inj h
    exact hT _ rfl
  · rw [if_neg c4] at h
    refine pg_iload_n dX12_pairs_36 rfl ?_
    refine pg_iload_n dX12_pairs_37 rfl ?_
    refine pg_iload dX12_pairs_38 rfl ?_
    refine pg_ishr dX12_pairs_40 ?_
    refine pg_iconst 1 dX12_pairs_41 rfl ?_
    refine pg_iand dX12_pairs_42 ?_
    refine pg_iadd dX12_pairs_43 ?_
    obtain ⟨w5, e_w5⟩ : ∃ z : Int32, z = s.1 + ((v3 >>> (s.2.1 &&& 31)) &&& 1) := ⟨_, rfl⟩
    replace h := lt_at h e_w5
    refine eg_istore_n [some (.ref 128), some (.int w5), some (.int v2), some (.int v3), some (.int s.2.1)] w5 dX12_pairs_44 e_w5 (Nat.le_of_ble_eq_true rfl) rfl ?_
    obtain ⟨w6, e_w6⟩ : ∃ z : Int32, z = s.2.1 + 1 := ⟨_, rfl⟩
    replace h := lt_at h e_w6
    refine eg_iinc [some (.ref 128), some (.int w5), some (.int v2), some (.int v3), some (.int w6)] w6 1 dX12_pairs_45 rfl rfl e_w6 rfl ?_
    refine pg_goto 25 dX12_pairs_48 (by decide) ?_
    obtain rfl := Option.some.inj h
    exact hN _ rfl
set_option maxRecDepth 20000 in
set_option maxHeartbeats 4000000 in
theorem lb_X12_pairs_4 (hfl : g.1.stackTraces = false) (hS : pS 128 137 S) {s : Int32 × Int32 × me} {r : (Int32 × Int32 × me) ⊕ (Int32 × Int32 × me)} (h : b_X12_pairs_4 s = some r) (hN : ∀ s', r = .inl s' → (fun z9 : Int32 × Int32 × me => pm_G g mX12_pairs X 4 [some (.ref 128), some (.int z9.1), some (.int z9.2.1), none, none] [] (en S z9.2.2) 0 0) s') (hT : ∀ t, r = .inr t → (fun z9 : Int32 × Int32 × me => pm_G g mX12_pairs X 57 [some (.ref 128), some (.int z9.1), some (.int z9.2.1), none, none] [] (en S z9.2.2) 0 0) t) : (fun z9 : Int32 × Int32 × me => pm_G g mX12_pairs X 4 [some (.ref 128), some (.int z9.1), some (.int z9.2.1), none, none] [] (en S z9.2.2) 0 0) s := by
  unfold b_X12_pairs_4 at h
  show pm_G g mX12_pairs X 4 [some (.ref 128), some (.int s.1), some (.int s.2.1), none, none] [] (en S s.2.2) 0 0
  refine pg_iload_n dX12_pairs_4 rfl ?_
  refine pg_aload_n dX12_pairs_5 rfl ?_
  refine eg_get dX12_pairs_6 fa_X12_7 hS sp128 (Nat.le_of_ble_eq_true rfl) (Nat.le_of_ble_eq_true rfl) rfl rfl ?_
  refine pg_iconst 0 dX12_pairs_9 rfl ?_
  refine eg_ialdJ 0 dX12_pairs_10 hS sp129 (Nat.le_of_ble_eq_true rfl) (Nat.le_of_ble_eq_true rfl) rfl (inR_vp rfl) rfl ?_
  refine pg_icmp_ge 57 dX12_pairs_11 (by decide) (fun c1 => ?_) (fun c1 => ?_)
  · rw [if_pos c1] at h
    obtain rfl := Option.some.inj h
    exact hT _ rfl
  · rw [if_neg c1] at h
    refine pg_aload_n dX12_pairs_14 rfl ?_
    refine pg_iload_n dX12_pairs_15 rfl ?_
    obtain ⟨r2, h_r2, h⟩ := bd_at h
    refine eg_cVi (C := mX12_reached) (as := [(.int s.2.1)]) dX12_pairs_16 mw952 cv_X12_reached hS sp128 (Nat.le_of_ble_eq_true rfl) (Nat.le_of_ble_eq_true rfl) rfl rfl rfl (Nat.le_of_ble_eq_true rfl) rfl ⟨(Nat.le_of_ble_eq_true rfl), (Nat.le_of_ble_eq_true rfl)⟩ (ct_X12_reached hfl (hS.sub (Nat.le_of_ble_eq_true rfl) (Nat.le_of_ble_eq_true rfl)) h_r2) ?_
    refine eg_istore_n [some (.ref 128), some (.int s.1), some (.int s.2.1), some (.int r2.1), none] r2.1 dX12_pairs_19 rfl (Nat.le_of_ble_eq_true rfl) rfl ?_
    refine pg_iload_n dX12_pairs_20 rfl ?_
    refine pg_iconst 1 dX12_pairs_21 rfl ?_
    refine pg_iadd dX12_pairs_22 ?_
    obtain ⟨w3, e_w3⟩ : ∃ z : Int32, z = s.2.1 + 1 := ⟨_, rfl⟩
    replace h := lt_at h e_w3
    refine eg_istore [some (.ref 128), some (.int s.1), some (.int s.2.1), some (.int r2.1), some (.int w3)] w3 dX12_pairs_23 e_w3 (Nat.le_of_ble_eq_true rfl) rfl ?_
    obtain ⟨s7, h_s7, h⟩ := bd_at h
    refine lo_at (b := b_X12_pairs_25 s.2.1 r2.1) (G := (fun z9 : Int32 × Int32 × me => pm_G g mX12_pairs X 25 [some (.ref 128), some (.int z9.1), some (.int s.2.1), some (.int r2.1), some (.int z9.2.1)] [] (en S z9.2.2) 0 0)) (T := (fun z9 : Int32 × Int32 × me => pm_G g mX12_pairs X 51 [some (.ref 128), some (.int z9.1), some (.int s.2.1), some (.int r2.1), some (.int z9.2.1)] [] (en S z9.2.2) 0 0)) (fun q9 r9 h1 h2 h3 => lb_X12_pairs_25 hfl hS h1 h2 h3) 2048 (s.1, w3, r2.2) s7 h_s7 ?_
    show pm_G g mX12_pairs X 51 [some (.ref 128), some (.int s7.1), some (.int s.2.1), some (.int r2.1), some (.int s7.2.1)] [] (en S s7.2.2) 0 0
    obtain ⟨w8, e_w8⟩ : ∃ z : Int32, z = s.2.1 + 1 := ⟨_, rfl⟩
    replace h := lt_at h e_w8
    refine eg_iinc [some (.ref 128), some (.int s7.1), some (.int w8), some (.int r2.1), some (.int s7.2.1)] w8 1 dX12_pairs_51 rfl rfl e_w8 rfl ?_
    refine pg_goto 4 dX12_pairs_54 (by decide) ?_
    obtain rfl := Option.some.inj h
    refine eg_forget [some (.ref 128), some (.int s7.1), some (.int w8), none, none] (show pm_sub _ _ from ⟨rfl, ⟨rfl, ⟨rfl, trivial⟩⟩⟩) ?_
    exact hN _ rfl
set_option maxRecDepth 20000 in
set_option maxHeartbeats 4000000 in
theorem ct_X12_pairs (hfl : g.1.stackTraces = false) (hS : pS 128 137 S) {m0 : me} {x : (Int32 × me)} (h : f_X12_pairs m0 = some x) : pm_Ct g mX12_pairs [.ref 128] (en S m0) 0 0 (qI S x) qF := by
  refine pm_of (by decide +kernel) rfl hfl (Nat.le_of_ble_eq_true rfl) (fun X hE => ?_)
  show pm_G g mX12_pairs X 0 [some (.ref 128), none, none, none, none] [] (en S m0) 0 0
  unfold f_X12_pairs at h
  refine pg_iconst 0 dX12_pairs_0 rfl ?_
  refine eg_istore_n [some (.ref 128), some (.int 0), none, none, none] 0 dX12_pairs_1 rfl (Nat.le_of_ble_eq_true rfl) rfl ?_
  refine pg_iconst 0 dX12_pairs_2 rfl ?_
  refine eg_istore_n [some (.ref 128), some (.int 0), some (.int 0), none, none] 0 dX12_pairs_3 rfl (Nat.le_of_ble_eq_true rfl) rfl ?_
  obtain ⟨s9, h_s9, h⟩ := bd_at h
  refine lo_at (b := b_X12_pairs_4) (G := (fun z9 : Int32 × Int32 × me => pm_G g mX12_pairs X 4 [some (.ref 128), some (.int z9.1), some (.int z9.2.1), none, none] [] (en S z9.2.2) 0 0)) (T := (fun z9 : Int32 × Int32 × me => pm_G g mX12_pairs X 57 [some (.ref 128), some (.int z9.1), some (.int z9.2.1), none, none] [] (en S z9.2.2) 0 0)) (fun q9 r9 h1 h2 h3 => lb_X12_pairs_4 hfl hS h1 h2 h3) 2048 (0, 0, m0) s9 h_s9 ?_
  show pm_G g mX12_pairs X 57 [some (.ref 128), some (.int s9.1), some (.int s9.2.1), none, none] [] (en S s9.2.2) 0 0
  refine pg_iload_n dX12_pairs_57 rfl ?_
  obtain rfl := Option.some.inj h
  exact hE.2.1 _ _ _ _ _ _ .int dX12_pairs_58 rfl rfl (Nat.zero_le _) (Nat.zero_le _) ⟨rfl, rfl⟩
end
