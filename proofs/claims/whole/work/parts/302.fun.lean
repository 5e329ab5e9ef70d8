section
variable {g : pm_Gl} {X : pm_X} {S : List sF}
def f_X12_isHost (v0 : Int32) (m0 : me) : Option (Int32 × me) :=
  bd (f_X12_in v0 0 7 m0) (fun r1 =>
  gd (isB r1.1) (
  some ((r1.1, r1.2))))
set_option maxRecDepth 20000 in
set_option maxHeartbeats 4000000 in
theorem ct_X12_isHost (hfl : g.1.stackTraces = false) {v0 : Int32} {m0 : me} {x : (Int32 × me)} (h : f_X12_isHost v0 m0 = some x) : pm_Ct g mX12_isHost [.int v0] (en S m0) 0 0 (qI S x) qF := by
  refine pm_of (by decide +kernel) rfl hfl (Nat.le_of_ble_eq_true rfl) (fun X hE => ?_)
  show pm_G g mX12_isHost X 0 [some (.int v0)] [] (en S m0) 0 0
  unfold f_X12_isHost at h
  refine pg_iload_n dX12_isHost_0 rfl ?_
  refine pg_iconst 0 dX12_isHost_1 rfl ?_
  refine pg_bipush 7 dX12_isHost_2 rfl ?_
  obtain ⟨r1, h_r1, h⟩ := bd_at h
  refine eg_cSi (C := mX12_in) (as := [(.int v0), (.int 0), (.int 7)]) dX12_isHost_4 mw786 cs_X12_in rfl rfl (Nat.le_of_ble_eq_true rfl) rfl ⟨(Nat.le_of_ble_eq_true rfl), (Nat.le_of_ble_eq_true rfl)⟩ (ct_X12_in hfl h_r1) ?_
  obtain ⟨g1, h⟩ := gd_at h
  obtain rfl := Option.some.inj h
  exact hE.2.1 _ _ _ _ _ _ .boolean dX12_isHost_7 rfl (isB_nar g1) (Nat.zero_le _) (Nat.zero_le _) ⟨rfl, rfl⟩
def f_X12_moves (v1 : Int32) (v2 : Int32) (m0 : me) : Option (Int32 × me) :=
  bd (f_X12_isHost v1 m0) (fun r1 =>
  if r1.1 = 0 then
    some ((1, r1.2))
  else
    bd (f_X12_isBridge v2 r1.2) (fun r3 =>
    if r3.1 = 0 then
      some ((1, r3.2))
    else
      gd (inR (179 + v1) 487) (
      lt (wI r3.2 128 7 (r3.2.1 129 ((179 + v1).toNatClampNeg))) (fun m5 =>
      gd (inR (179 + v1) 487) (
      lt (wI m5 129 ((179 + v1).toNatClampNeg) v2) (fun m6 =>
      some ((0, m6))))))))
set_option maxRecDepth 20000 in
set_option maxHeartbeats 4000000 in
theorem ct_X12_moves (hfl : g.1.stackTraces = false) (hS : pS 128 137 S) {v1 : Int32} {v2 : Int32} {m0 : me} {x : (Int32 × me)} (h : f_X12_moves v1 v2 m0 = some x) : pm_Ct g mX12_moves [.ref 128, .int v1, .int v2] (en S m0) 0 0 (qI S x) qF := by
  refine pm_of (by decide +kernel) rfl hfl (Nat.le_of_ble_eq_true rfl) (fun X hE => ?_)
  show pm_G g mX12_moves X 0 [some (.ref 128), some (.int v1), some (.int v2)] [] (en S m0) 0 0
  unfold f_X12_moves at h
  refine pg_iload_n dX12_moves_0 rfl ?_
  obtain ⟨r1, h_r1, h⟩ := bd_at h
  refine eg_cSi (C := mX12_isHost) (as := [(.int v1)]) dX12_moves_1 mw878 cs_X12_isHost rfl rfl (Nat.le_of_ble_eq_true rfl) rfl ⟨(Nat.le_of_ble_eq_true rfl), (Nat.le_of_ble_eq_true rfl)⟩ (ct_X12_isHost hfl h_r1) ?_
  refine pg_if_eq 15 dX12_moves_4 (by decide) (fun c2 => ?_) (fun c2 => ?_)
  · rw [if_pos c2] at h
    refine pg_iconst 1 dX12_moves_15 rfl ?_
    obtain rfl := Option.some.inj h
    exact hE.2.1 _ _ _ _ _ _ .int dX12_moves_16 rfl rfl (Nat.zero_le _) (Nat.zero_le _) ⟨rfl, rfl⟩
  · rw [if_neg c2] at h
    refine pg_aload_n dX12_moves_7 rfl ?_
    refine pg_iload_n dX12_moves_8 rfl ?_
    obtain ⟨r3, h_r3, h⟩ := bd_at h
    refine eg_cVi (C := mX12_isBridge) (as := [(.int v2)]) dX12_moves_9 mw837 cv_X12_isBridge hS sp128 (Nat.le_of_ble_eq_true rfl) (Nat.le_of_ble_eq_true rfl) rfl rfl rfl (Nat.le_of_ble_eq_true rfl) rfl ⟨(Nat.le_of_ble_eq_true rfl), (Nat.le_of_ble_eq_true rfl)⟩ (ct_X12_isBridge hfl (hS.sub (Nat.le_of_ble_eq_true rfl) (Nat.le_of_ble_eq_true rfl)) h_r3) ?_
    refine pg_if_ne 17 dX12_moves_12 (by decide) (fun c4 => ?_) (fun c4 => ?_)
    · rw [if_neg c4] at h
      refine pg_aload_n dX12_moves_17 rfl ?_
      refine pg_aload_n dX12_moves_18 rfl ?_
      refine eg_get dX12_moves_19 fa_X12_7 hS sp128 (Nat.le_of_ble_eq_true rfl) (Nat.le_of_ble_eq_true rfl) rfl rfl ?_
      refine pg_sipush 179 dX12_moves_22 rfl ?_
      refine pg_iload_n dX12_moves_25 rfl ?_
      refine pg_iadd dX12_moves_26 ?_
      obtain ⟨g1, h⟩ := gd_at h
      refine eg_ialdJ ((179 + v1).toNatClampNeg) dX12_moves_27 hS sp129 (Nat.le_of_ble_eq_true rfl) (Nat.le_of_ble_eq_true rfl) rfl (inR_vp g1) rfl ?_
      refine eg_put dX12_moves_28 fa_X12_82 hS sp128 (Nat.le_of_ble_eq_true rfl) (Nat.le_of_ble_eq_true rfl) rfl (Nat.le_of_ble_eq_true rfl) rfl (fun m5 e_m5 => ?_)
      replace h := lt_at h e_m5
      refine pg_aload_n dX12_moves_31 rfl ?_
      refine eg_get dX12_moves_32 fa_X12_7 hS sp128 (Nat.le_of_ble_eq_true rfl) (Nat.le_of_ble_eq_true rfl) rfl rfl ?_
      refine pg_sipush 179 dX12_moves_35 rfl ?_
      refine pg_iload_n dX12_moves_38 rfl ?_
      refine pg_iadd dX12_moves_39 ?_
      refine pg_iload_n dX12_moves_40 rfl ?_
      obtain ⟨g1, h⟩ := gd_at h
      refine eg_iastJ ((179 + v1).toNatClampNeg) dX12_moves_41 hS sp129 (Nat.le_of_ble_eq_true rfl) (Nat.le_of_ble_eq_true rfl) (fun _ _ _ => rfl) (inR_vp g1) rfl (fun m6 e_m6 => ?_)
      replace h := lt_at h e_m6
      refine pg_iconst 0 dX12_moves_42 rfl ?_
      obtain rfl := Option.some.inj h
      exact hE.2.1 _ _ _ _ _ _ .int dX12_moves_43 rfl rfl (Nat.zero_le _) (Nat.zero_le _) ⟨rfl, rfl⟩
    · rw [if_pos c4] at h
      refine pg_iconst 1 dX12_moves_15 rfl ?_
      obtain rfl := Option.some.inj h
      exact hE.2.1 _ _ _ _ _ _ .int dX12_moves_16 rfl rfl (Nat.zero_le _) (Nat.zero_le _) ⟨rfl, rfl⟩
def f_X12_moveHost (v1 : Int32) (v2 : Int32) (m0 : me) : Option (Int32 × me) :=
  bd (f_X12_hold m0) (fun r1 =>
  bd (f_X12_moves v1 v2 r1) (fun r2 =>
  bd (f_X12_done r2.1 r2.2) (fun r3 =>
  some ((r3.1, r3.2)))))
set_option maxRecDepth 20000 in
set_option maxHeartbeats 4000000 in
theorem ct_X12_moveHost (hfl : g.1.stackTraces = false) (hS : pS 128 137 S) {v1 : Int32} {v2 : Int32} {m0 : me} {x : (Int32 × me)} (h : f_X12_moveHost v1 v2 m0 = some x) : pm_Ct g mX12_moveHost [.ref 128, .int v1, .int v2] (en S m0) 0 0 (qI S x) qF := by
  refine pm_of (by decide +kernel) rfl hfl (Nat.le_of_ble_eq_true rfl) (fun X hE => ?_)
  show pm_G g mX12_moveHost X 0 [some (.ref 128), some (.int v1), some (.int v2)] [] (en S m0) 0 0
  unfold f_X12_moveHost at h
  refine pg_aload_n dX12_moveHost_0 rfl ?_
  obtain ⟨r1, h_r1, h⟩ := bd_at h
  refine eg_cVv (C := mX12_hold) (as := []) dX12_moveHost_1 mw811 cv_X12_hold hS sp128 (Nat.le_of_ble_eq_true rfl) (Nat.le_of_ble_eq_true rfl) rfl rfl rfl (Nat.le_of_ble_eq_true rfl) rfl ⟨(Nat.le_of_ble_eq_true rfl), (Nat.le_of_ble_eq_true rfl)⟩ (ct_X12_hold hfl (hS.sub (Nat.le_of_ble_eq_true rfl) (Nat.le_of_ble_eq_true rfl)) h_r1) ?_
  refine pg_aload_n dX12_moveHost_4 rfl ?_
  refine pg_aload_n dX12_moveHost_5 rfl ?_
  refine pg_iload_n dX12_moveHost_6 rfl ?_
  refine pg_iload_n dX12_moveHost_7 rfl ?_
  obtain ⟨r2, h_r2, h⟩ := bd_at h
  refine eg_cVi (C := mX12_moves) (as := [(.int v1), (.int v2)]) dX12_moveHost_8 mw873 cv_X12_moves hS sp128 (Nat.le_of_ble_eq_true rfl) (Nat.le_of_ble_eq_true rfl) rfl rfl rfl (Nat.le_of_ble_eq_true rfl) rfl ⟨(Nat.le_of_ble_eq_true rfl), (Nat.le_of_ble_eq_true rfl)⟩ (ct_X12_moves hfl (hS.sub (Nat.le_of_ble_eq_true rfl) (Nat.le_of_ble_eq_true rfl)) h_r2) ?_
  obtain ⟨r3, h_r3, h⟩ := bd_at h
  refine eg_cVi (C := mX12_done) (as := [(.int r2.1)]) dX12_moveHost_11 mw832 cv_X12_done hS sp128 (Nat.le_of_ble_eq_true rfl) (Nat.le_of_ble_eq_true rfl) rfl rfl rfl (Nat.le_of_ble_eq_true rfl) rfl ⟨(Nat.le_of_ble_eq_true rfl), (Nat.le_of_ble_eq_true rfl)⟩ (ct_X12_done hfl (hS.sub (Nat.le_of_ble_eq_true rfl) (Nat.le_of_ble_eq_true rfl)) h_r3) ?_
  obtain rfl := Option.some.inj h
  exact hE.2.1 _ _ _ _ _ _ .int dX12_moveHost_14 rfl rfl (Nat.zero_le _) (Nat.zero_le _) ⟨rfl, rfl⟩
def f_X12_isTenant (v0 : Int32) (m0 : me) : Option (Int32 × me) :=
  bd (f_X12_in v0 0 3 m0) (fun r1 =>
  gd (isB r1.1) (
  some ((r1.1, r1.2))))
set_option maxRecDepth 20000 in
set_option maxHeartbeats 4000000 in
theorem ct_X12_isTenant (hfl : g.1.stackTraces = false) {v0 : Int32} {m0 : me} {x : (Int32 × me)} (h : f_X12_isTenant v0 m0 = some x) : pm_Ct g mX12_isTenant [.int v0] (en S m0) 0 0 (qI S x) qF := by
  refine pm_of (by decide +kernel) rfl hfl (Nat.le_of_ble_eq_true rfl) (fun X hE => ?_)
  show pm_G g mX12_isTenant X 0 [some (.int v0)] [] (en S m0) 0 0
  unfold f_X12_isTenant at h
  refine pg_iload_n dX12_isTenant_0 rfl ?_
  refine pg_iconst 0 dX12_isTenant_1 rfl ?_
  refine pg_iconst 3 dX12_isTenant_2 rfl ?_
  obtain ⟨r1, h_r1, h⟩ := bd_at h
  refine eg_cSi (C := mX12_in) (as := [(.int v0), (.int 0), (.int 3)]) dX12_isTenant_3 mw786 cs_X12_in rfl rfl (Nat.le_of_ble_eq_true rfl) rfl ⟨(Nat.le_of_ble_eq_true rfl), (Nat.le_of_ble_eq_true rfl)⟩ (ct_X12_in hfl h_r1) ?_
  obtain ⟨g1, h⟩ := gd_at h
  obtain rfl := Option.some.inj h
  exact hE.2.1 _ _ _ _ _ _ .boolean dX12_isTenant_6 rfl (isB_nar g1) (Nat.zero_le _) (Nat.zero_le _) ⟨rfl, rfl⟩
def f_X12_bids (v1 : Int32) (v2 : Int32) (v3 : Int32) (m0 : me) : Option (Int32 × me) :=
  bd (f_X12_isTenant v1 m0) (fun r1 =>
  if r1.1 = 0 then
    some ((1, r1.2))
  else
    bd (f_X12_isLink v2 r1.2) (fun r3 =>
    if r3.1 = 0 then
      some ((1, r3.2))
    else
      bd (f_X12_in v3 0 1000 r3.2) (fun r5 =>
      if r5.1 = 0 then
        some ((2, r5.2))
      else
        bd (f_X12_of v2 (14 + v1) r5.2) (fun r7 =>
        lt (wI r7.2 128 7 r7.1) (fun m8 =>
        bd (f_X12_puts v2 (14 + v1) v3 m8) (fun r9 =>
        some ((0, r9))))))))
set_option maxRecDepth 20000 in
set_option maxHeartbeats 4000000 in
theorem ct_X12_bids (hfl : g.1.stackTraces = false) (hS : pS 128 137 S) {v1 : Int32} {v2 : Int32} {v3 : Int32} {m0 : me} {x : (Int32 × me)} (h : f_X12_bids v1 v2 v3 m0 = some x) : pm_Ct g mX12_bids [.ref 128, .int v1, .int v2, .int v3] (en S m0) 0 0 (qI S x) qF := by
  refine pm_of (by decide +kernel) rfl hfl (Nat.le_of_ble_eq_true rfl) (fun X hE => ?_)
  show pm_G g mX12_bids X 0 [some (.ref 128), some (.int v1), some (.int v2), some (.int v3)] [] (en S m0) 0 0
  unfold f_X12_bids at h
  refine pg_iload_n dX12_bids_0 rfl ?_
  obtain ⟨r1, h_r1, h⟩ := bd_at h
  refine eg_cSi (C := mX12_isTenant) (as := [(.int v1)]) dX12_bids_1 mw887 cs_X12_isTenant rfl rfl (Nat.le_of_ble_eq_true rfl) rfl ⟨(Nat.le_of_ble_eq_true rfl), (Nat.le_of_ble_eq_true rfl)⟩ (ct_X12_isTenant hfl h_r1) ?_
  refine pg_if_eq 15 dX12_bids_4 (by decide) (fun c2 => ?_) (fun c2 => ?_)
  · rw [if_pos c2] at h
    refine pg_iconst 1 dX12_bids_15 rfl ?_
    obtain rfl := Option.some.inj h
    exact hE.2.1 _ _ _ _ _ _ .int dX12_bids_16 rfl rfl (Nat.zero_le _) (Nat.zero_le _) ⟨rfl, rfl⟩
  · rw [if_neg c2] at h
    refine pg_aload_n dX12_bids_7 rfl ?_
    refine pg_iload_n dX12_bids_8 rfl ?_
    obtain ⟨r3, h_r3, h⟩ := bd_at h
    refine eg_cVi (C := mX12_isLink) (as := [(.int v2)]) dX12_bids_9 mw858 cv_X12_isLink hS sp128 (Nat.le_of_ble_eq_true rfl) (Nat.le_of_ble_eq_true rfl) rfl rfl rfl (Nat.le_of_ble_eq_true rfl) rfl ⟨(Nat.le_of_ble_eq_true rfl), (Nat.le_of_ble_eq_true rfl)⟩ (ct_X12_isLink hfl (hS.sub (Nat.le_of_ble_eq_true rfl) (Nat.le_of_ble_eq_true rfl)) h_r3) ?_
    refine pg_if_ne 17 dX12_bids_12 (by decide) (fun c4 => ?_) (fun c4 => ?_)
    · rw [if_neg c4] at h
      refine pg_iload_n dX12_bids_17 rfl ?_
      refine pg_iconst 0 dX12_bids_18 rfl ?_
      refine pg_sipush 1000 dX12_bids_19 rfl ?_
      obtain ⟨r5, h_r5, h⟩ := bd_at h
      refine eg_cSi (C := mX12_in) (as := [(.int v3), (.int 0), (.int 1000)]) dX12_bids_22 mw786 cs_X12_in rfl rfl (Nat.le_of_ble_eq_true rfl) rfl ⟨(Nat.le_of_ble_eq_true rfl), (Nat.le_of_ble_eq_true rfl)⟩ (ct_X12_in hfl h_r5) ?_
      refine pg_if_ne 30 dX12_bids_25 (by decide) (fun c6 => ?_) (fun c6 => ?_)
      · rw [if_neg c6] at h
        refine pg_aload_n dX12_bids_30 rfl ?_
        refine pg_aload_n dX12_bids_31 rfl ?_
        refine pg_iload_n dX12_bids_32 rfl ?_
        refine pg_bipush 14 dX12_bids_33 rfl ?_
        refine pg_iload_n dX12_bids_35 rfl ?_
        refine pg_iadd dX12_bids_36 ?_
        obtain ⟨r7, h_r7, h⟩ := bd_at h
        refine eg_cVi (C := mX12_of) (as := [(.int v2), (.int (14 + v1))]) dX12_bids_37 mw863 cv_X12_of hS sp128 (Nat.le_of_ble_eq_true rfl) (Nat.le_of_ble_eq_true rfl) rfl rfl rfl (Nat.le_of_ble_eq_true rfl) rfl ⟨(Nat.le_of_ble_eq_true rfl), (Nat.le_of_ble_eq_true rfl)⟩ (ct_X12_of hfl (hS.sub (Nat.le_of_ble_eq_true rfl) (Nat.le_of_ble_eq_true rfl)) h_r7) ?_
        refine eg_put dX12_bids_40 fa_X12_82 hS sp128 (Nat.le_of_ble_eq_true rfl) (Nat.le_of_ble_eq_true rfl) rfl (Nat.le_of_ble_eq_true rfl) rfl (fun m8 e_m8 => ?_)
        replace h := lt_at h e_m8
        refine pg_aload_n dX12_bids_43 rfl ?_
        refine pg_iload_n dX12_bids_44 rfl ?_
        refine pg_bipush 14 dX12_bids_45 rfl ?_
        refine pg_iload_n dX12_bids_47 rfl ?_
        refine pg_iadd dX12_bids_48 ?_
        refine pg_iload_n dX12_bids_49 rfl ?_
        obtain ⟨r9, h_r9, h⟩ := bd_at h
        refine eg_cVv (C := mX12_puts) (as := [(.int v2), (.int (14 + v1)), (.int v3)]) dX12_bids_50 mw848 cv_X12_puts hS sp128 (Nat.le_of_ble_eq_true rfl) (Nat.le_of_ble_eq_true rfl) rfl rfl rfl (Nat.le_of_ble_eq_true rfl) rfl ⟨(Nat.le_of_ble_eq_true rfl), (Nat.le_of_ble_eq_true rfl)⟩ (ct_X12_puts hfl (hS.sub (Nat.le_of_ble_eq_true rfl) (Nat.le_of_ble_eq_true rfl)) h_r9) ?_
        refine pg_iconst 0 dX12_bids_53 rfl ?_
        obtain rfl := Option.some.inj h
        exact hE.2.1 _ _ _ _ _ _ .int dX12_bids_54 rfl rfl (Nat.zero_le _) (Nat.zero_le _) ⟨rfl, rfl⟩
      · rw [if_pos c6] at h
        refine pg_iconst 2 dX12_bids_28 rfl ?_
        obtain rfl := Option.some.inj h
        exact hE.2.1 _ _ _ _ _ _ .int dX12_bids_29 rfl rfl (Nat.zero_le _) (Nat.zero_le _) ⟨rfl, rfl⟩
    · rw [if_pos c4] at h
      refine pg_iconst 1 dX12_bids_15 rfl ?_
      obtain rfl := Option.some.inj h
      exact hE.2.1 _ _ _ _ _ _ .int dX12_bids_16 rfl rfl (Nat.zero_le _) (Nat.zero_le _) ⟨rfl, rfl⟩
def f_X12_bid (v1 : Int32) (v2 : Int32) (v3 : Int32) (m0 : me) : Option (Int32 × me) :=
  bd (f_X12_hold m0) (fun r1 =>
  bd (f_X12_bids v1 v2 v3 r1) (fun r2 =>
  bd (f_X12_done r2.1 r2.2) (fun r3 =>
  some ((r3.1, r3.2)))))
set_option maxRecDepth 20000 in
set_option maxHeartbeats 4000000 in
theorem ct_X12_bid (hfl : g.1.stackTraces = false) (hS : pS 128 137 S) {v1 : Int32} {v2 : Int32} {v3 : Int32} {m0 : me} {x : (Int32 × me)} (h : f_X12_bid v1 v2 v3 m0 = some x) : pm_Ct g mX12_bid [.ref 128, .int v1, .int v2, .int v3] (en S m0) 0 0 (qI S x) qF := by
  refine pm_of (by decide +kernel) rfl hfl (Nat.le_of_ble_eq_true rfl) (fun X hE => ?_)
  show pm_G g mX12_bid X 0 [some (.ref 128), some (.int v1), some (.int v2), some (.int v3)] [] (en S m0) 0 0
  unfold f_X12_bid at h
  refine pg_aload_n dX12_bid_0 rfl ?_
  obtain ⟨r1, h_r1, h⟩ := bd_at h
  refine eg_cVv (C := mX12_hold) (as := []) dX12_bid_1 mw811 cv_X12_hold hS sp128 (Nat.le_of_ble_eq_true rfl) (Nat.le_of_ble_eq_true rfl) rfl rfl rfl (Nat.le_of_ble_eq_true rfl) rfl ⟨(Nat.le_of_ble_eq_true rfl), (Nat.le_of_ble_eq_true rfl)⟩ (ct_X12_hold hfl (hS.sub (Nat.le_of_ble_eq_true rfl) (Nat.le_of_ble_eq_true rfl)) h_r1) ?_
  refine pg_aload_n dX12_bid_4 rfl ?_
  refine pg_aload_n dX12_bid_5 rfl ?_
  refine pg_iload_n dX12_bid_6 rfl ?_
  refine pg_iload_n dX12_bid_7 rfl ?_
  refine pg_iload_n dX12_bid_8 rfl ?_
  obtain ⟨r2, h_r2, h⟩ := bd_at h
  refine eg_cVi (C := mX12_bids) (as := [(.int v1), (.int v2), (.int v3)]) dX12_bid_9 mw882 cv_X12_bids hS sp128 (Nat.le_of_ble_eq_true rfl) (Nat.le_of_ble_eq_true rfl) rfl rfl rfl (Nat.le_of_ble_eq_true rfl) rfl ⟨(Nat.le_of_ble_eq_true rfl), (Nat.le_of_ble_eq_true rfl)⟩ (ct_X12_bids hfl (hS.sub (Nat.le_of_ble_eq_true rfl) (Nat.le_of_ble_eq_true rfl)) h_r2) ?_
  obtain ⟨r3, h_r3, h⟩ := bd_at h
  refine eg_cVi (C := mX12_done) (as := [(.int r2.1)]) dX12_bid_12 mw832 cv_X12_done hS sp128 (Nat.le_of_ble_eq_true rfl) (Nat.le_of_ble_eq_true rfl) rfl rfl rfl (Nat.le_of_ble_eq_true rfl) rfl ⟨(Nat.le_of_ble_eq_true rfl), (Nat.le_of_ble_eq_true rfl)⟩ (ct_X12_done hfl (hS.sub (Nat.le_of_ble_eq_true rfl) (Nat.le_of_ble_eq_true rfl)) h_r3) ?_
  obtain rfl := Option.some.inj h
  exact hE.2.1 _ _ _ _ _ _ .int dX12_bid_15 rfl rfl (Nat.zero_le _) (Nat.zero_le _) ⟨rfl, rfl⟩
def f_X12_grant (v1 : Int32) (v2 : Int32) (m0 : me) : Option (Int32 × me) :=
  bd (f_X12_isTenant v1 m0) (fun r1 =>
  if r1.1 = 0 then
    bd (f_X12_fails 1 r1.2) (fun r11 =>
    some ((r11.1, r11.2)))
  else
    bd (f_X12_in v2 0 10000 r1.2) (fun r3 =>
    if r3.1 = 0 then
      bd (f_X12_fails 2 r3.2) (fun r10 =>
      some ((r10.1, r10.2)))
    else
      gd (inR (187 + (3 * v1)) 487) (
      if ((r3.2.1 129 ((187 + (3 * v1)).toNatClampNeg)) + v2) ≤ 1000000 then
        bd (f_X12_hold r3.2) (fun r6 =>
        gd (inR (187 + (3 * v1)) 487) (
        gd (inR (187 + (3 * v1)) 487) (
        lt (wI r6 129 ((187 + (3 * v1)).toNatClampNeg) ((r6.1 129 ((187 + (3 * v1)).toNatClampNeg)) + v2)) (fun m7 =>
        gd (inR (187 + (3 * v1)) 487) (
        bd (f_X12_ends (m7.1 129 ((187 + (3 * v1)).toNatClampNeg)) m7) (fun r8 =>
        some ((r8.1, r8.2))))))))
      else
        bd (f_X12_fails 3 r3.2) (fun r9 =>
        some ((r9.1, r9.2))))))
set_option maxRecDepth 20000 in
set_option maxHeartbeats 4000000 in
theorem ct_X12_grant (hfl : g.1.stackTraces = false) (hS : pS 128 137 S) {v1 : Int32} {v2 : Int32} {m0 : me} {x : (Int32 × me)} (h : f_X12_grant v1 v2 m0 = some x) : pm_Ct g mX12_grant [.ref 128, .int v1, .int v2] (en S m0) 0 0 (qI S x) qF := by
  refine pm_of (by decide +kernel) rfl hfl (Nat.le_of_ble_eq_true rfl) (fun X hE => ?_)
  show pm_G g mX12_grant X 0 [some (.ref 128), some (.int v1), some (.int v2)] [] (en S m0) 0 0
  unfold f_X12_grant at h
  refine pg_iload_n dX12_grant_0 rfl ?_
  obtain ⟨r1, h_r1, h⟩ := bd_at h
  refine eg_cSi (C := mX12_isTenant) (as := [(.int v1)]) dX12_grant_1 mw887 cs_X12_isTenant rfl rfl (Nat.le_of_ble_eq_true rfl) rfl ⟨(Nat.le_of_ble_eq_true rfl), (Nat.le_of_ble_eq_true rfl)⟩ (ct_X12_isTenant hfl h_r1) ?_
  refine pg_if_ne 13 dX12_grant_4 (by decide) (fun c2 => ?_) (fun c2 => ?_)
  · rw [if_neg c2] at h
    refine pg_iload_n dX12_grant_13 rfl ?_
    refine pg_iconst 0 dX12_grant_14 rfl ?_
    refine pg_sipush 10000 dX12_grant_15 rfl ?_
    obtain ⟨r3, h_r3, h⟩ := bd_at h
    refine eg_cSi (C := mX12_in) (as := [(.int v2), (.int 0), (.int 10000)]) dX12_grant_18 mw786 cs_X12_in rfl rfl (Nat.le_of_ble_eq_true rfl) rfl ⟨(Nat.le_of_ble_eq_true rfl), (Nat.le_of_ble_eq_true rfl)⟩ (ct_X12_in hfl h_r3) ?_
    refine pg_if_ne 30 dX12_grant_21 (by decide) (fun c4 => ?_) (fun c4 => ?_)
    · rw [if_neg c4] at h
      refine pg_aload_n dX12_grant_30 rfl ?_
      refine eg_get dX12_grant_31 fa_X12_7 hS sp128 (Nat.le_of_ble_eq_true rfl) (Nat.le_of_ble_eq_true rfl) rfl rfl ?_
      refine pg_sipush 187 dX12_grant_34 rfl ?_
      refine pg_iconst 3 dX12_grant_37 rfl ?_
      refine pg_iload_n dX12_grant_38 rfl ?_
      refine pg_imul dX12_grant_39 ?_
      refine pg_iadd dX12_grant_40 ?_
      obtain ⟨g1, h⟩ := gd_at h
      refine eg_ialdJ ((187 + (3 * v1)).toNatClampNeg) dX12_grant_41 hS sp129 (Nat.le_of_ble_eq_true rfl) (Nat.le_of_ble_eq_true rfl) rfl (inR_vp g1) rfl ?_
      refine pg_iload_n dX12_grant_42 rfl ?_
      refine pg_iadd dX12_grant_43 ?_
      refine pg_ldc dX12_grant_44 mw891 ?_
      refine pg_icmp_le 55 dX12_grant_46 (by decide) (fun c5 => ?_) (fun c5 => ?_)
      · rw [if_pos c5] at h
        refine pg_aload_n dX12_grant_55 rfl ?_
        obtain ⟨r6, h_r6, h⟩ := bd_at h
        refine eg_cVv (C := mX12_hold) (as := []) dX12_grant_56 mw811 cv_X12_hold hS sp128 (Nat.le_of_ble_eq_true rfl) (Nat.le_of_ble_eq_true rfl) rfl rfl rfl (Nat.le_of_ble_eq_true rfl) rfl ⟨(Nat.le_of_ble_eq_true rfl), (Nat.le_of_ble_eq_true rfl)⟩ (ct_X12_hold hfl (hS.sub (Nat.le_of_ble_eq_true rfl) (Nat.le_of_ble_eq_true rfl)) h_r6) ?_
        refine pg_aload_n dX12_grant_59 rfl ?_
        refine eg_get dX12_grant_60 fa_X12_7 hS sp128 (Nat.le_of_ble_eq_true rfl) (Nat.le_of_ble_eq_true rfl) rfl rfl ?_
        refine pg_sipush 187 dX12_grant_63 rfl ?_
        refine pg_iconst 3 dX12_grant_66 rfl ?_
        refine pg_iload_n dX12_grant_67 rfl ?_
        refine pg_imul dX12_grant_68 ?_
        refine pg_iadd dX12_grant_69 ?_
        refine pg_dup2 dX12_grant_70 rfl rfl ?_
        obtain ⟨g1, h⟩ := gd_at h
        refine eg_ialdJ ((187 + (3 * v1)).toNatClampNeg) dX12_grant_71 hS sp129 (Nat.le_of_ble_eq_true rfl) (Nat.le_of_ble_eq_true rfl) rfl (inR_vp g1) rfl ?_
        refine pg_iload_n dX12_grant_72 rfl ?_
        refine pg_iadd dX12_grant_73 ?_
        obtain ⟨g1, h⟩ := gd_at h
        refine eg_iastJ ((187 + (3 * v1)).toNatClampNeg) dX12_grant_74 hS sp129 (Nat.le_of_ble_eq_true rfl) (Nat.le_of_ble_eq_true rfl) (fun _ _ _ => rfl) (inR_vp g1) rfl (fun m7 e_m7 => ?_)
        replace h := lt_at h e_m7
        refine pg_aload_n dX12_grant_75 rfl ?_
        refine pg_aload_n dX12_grant_76 rfl ?_
        refine eg_get dX12_grant_77 fa_X12_7 hS sp128 (Nat.le_of_ble_eq_true rfl) (Nat.le_of_ble_eq_true rfl) rfl rfl ?_
        refine pg_sipush 187 dX12_grant_80 rfl ?_
        refine pg_iconst 3 dX12_grant_83 rfl ?_
        refine pg_iload_n dX12_grant_84 rfl ?_
        refine pg_imul dX12_grant_85 ?_
        refine pg_iadd dX12_grant_86 ?_
        obtain ⟨g1, h⟩ := gd_at h
        refine eg_ialdJ ((187 + (3 * v1)).toNatClampNeg) dX12_grant_87 hS sp129 (Nat.le_of_ble_eq_true rfl) (Nat.le_of_ble_eq_true rfl) rfl (inR_vp g1) rfl ?_
        obtain ⟨r8, h_r8, h⟩ := bd_at h
        refine eg_cVi (C := mX12_ends) (as := [(.int (m7.1 129 ((187 + (3 * v1)).toNatClampNeg)))]) dX12_grant_88 mw816 cv_X12_ends hS sp128 (Nat.le_of_ble_eq_true rfl) (Nat.le_of_ble_eq_true rfl) rfl rfl rfl (Nat.le_of_ble_eq_true rfl) rfl ⟨(Nat.le_of_ble_eq_true rfl), (Nat.le_of_ble_eq_true rfl)⟩ (ct_X12_ends hfl (hS.sub (Nat.le_of_ble_eq_true rfl) (Nat.le_of_ble_eq_true rfl)) h_r8) ?_
        obtain rfl := Option.some.inj h
        exact hE.2.1 _ _ _ _ _ _ .int dX12_grant_91 rfl rfl (Nat.zero_le _) (Nat.zero_le _) ⟨rfl, rfl⟩
      · rw [if_neg c5] at h
        refine pg_aload_n dX12_grant_49 rfl ?_
        refine pg_iconst 3 dX12_grant_50 rfl ?_
        obtain ⟨r9, h_r9, h⟩ := bd_at h
        refine eg_cVi (C := mX12_fails) (as := [(.int 3)]) dX12_grant_51 mw806 cv_X12_fails hS sp128 (Nat.le_of_ble_eq_true rfl) (Nat.le_of_ble_eq_true rfl) rfl rfl rfl (Nat.le_of_ble_eq_true rfl) rfl ⟨(Nat.le_of_ble_eq_true rfl), (Nat.le_of_ble_eq_true rfl)⟩ (ct_X12_fails hfl (hS.sub (Nat.le_of_ble_eq_true rfl) (Nat.le_of_ble_eq_true rfl)) h_r9) ?_
        obtain rfl := Option.some.inj h
        exact hE.2.1 _ _ _ _ _ _ .int dX12_grant_54 rfl rfl (Nat.zero_le _) (Nat.zero_le _) ⟨rfl, rfl⟩
    · rw [if_pos c4] at h
      refine pg_aload_n dX12_grant_24 rfl ?_
      refine pg_iconst 2 dX12_grant_25 rfl ?_
      obtain ⟨r10, h_r10, h⟩ := bd_at h
      refine eg_cVi (C := mX12_fails) (as := [(.int 2)]) dX12_grant_26 mw806 cv_X12_fails hS sp128 (Nat.le_of_ble_eq_true rfl) (Nat.le_of_ble_eq_true rfl) rfl rfl rfl (Nat.le_of_ble_eq_true rfl) rfl ⟨(Nat.le_of_ble_eq_true rfl), (Nat.le_of_ble_eq_true rfl)⟩ (ct_X12_fails hfl (hS.sub (Nat.le_of_ble_eq_true rfl) (Nat.le_of_ble_eq_true rfl)) h_r10) ?_
      obtain rfl := Option.some.inj h
      exact hE.2.1 _ _ _ _ _ _ .int dX12_grant_29 rfl rfl (Nat.zero_le _) (Nat.zero_le _) ⟨rfl, rfl⟩
  · rw [if_pos c2] at h
    refine pg_aload_n dX12_grant_7 rfl ?_
    refine pg_iconst 1 dX12_grant_8 rfl ?_
    obtain ⟨r11, h_r11, h⟩ := bd_at h
    refine eg_cVi (C := mX12_fails) (as := [(.int 1)]) dX12_grant_9 mw806 cv_X12_fails hS sp128 (Nat.le_of_ble_eq_true rfl) (Nat.le_of_ble_eq_true rfl) rfl rfl rfl (Nat.le_of_ble_eq_true rfl) rfl ⟨(Nat.le_of_ble_eq_true rfl), (Nat.le_of_ble_eq_true rfl)⟩ (ct_X12_fails hfl (hS.sub (Nat.le_of_ble_eq_true rfl) (Nat.le_of_ble_eq_true rfl)) h_r11) ?_
    obtain rfl := Option.some.inj h
    exact hE.2.1 _ _ _ _ _ _ .int dX12_grant_12 rfl rfl (Nat.zero_le _) (Nat.zero_le _) ⟨rfl, rfl⟩
def f_X12_other (v1 : Int32) (v2 : Int32) (m0 : me) : Option (Int32 × me) :=
  bd (f_X12_of v1 0 m0) (fun r1 =>
  if r1.1 = v2 then
    bd (f_X12_of v1 1 r1.2) (fun r4 =>
    some ((r4.1, r4.2)))
  else
    bd (f_X12_of v1 0 r1.2) (fun r3 =>
    some ((r3.1, r3.2))))
set_option maxRecDepth 20000 in
set_option maxHeartbeats 4000000 in
theorem ct_X12_other (hfl : g.1.stackTraces = false) (hS : pS 128 137 S) {v1 : Int32} {v2 : Int32} {m0 : me} {x : (Int32 × me)} (h : f_X12_other v1 v2 m0 = some x) : pm_Ct g mX12_other [.ref 128, .int v1, .int v2] (en S m0) 0 0 (qI S x) qF := by
  refine pm_of (by decide +kernel) rfl hfl (Nat.le_of_ble_eq_true rfl) (fun X hE => ?_)
  show pm_G g mX12_other X 0 [some (.ref 128), some (.int v1), some (.int v2)] [] (en S m0) 0 0
  unfold f_X12_other at h
  refine pg_aload_n dX12_other_0 rfl ?_
  refine pg_iload_n dX12_other_1 rfl ?_
  refine pg_iconst 0 dX12_other_2 rfl ?_
  obtain ⟨r1, h_r1, h⟩ := bd_at h
  refine eg_cVi (C := mX12_of) (as := [(.int v1), (.int 0)]) dX12_other_3 mw863 cv_X12_of hS sp128 (Nat.le_of_ble_eq_true rfl) (Nat.le_of_ble_eq_true rfl) rfl rfl rfl (Nat.le_of_ble_eq_true rfl) rfl ⟨(Nat.le_of_ble_eq_true rfl), (Nat.le_of_ble_eq_true rfl)⟩ (ct_X12_of hfl (hS.sub (Nat.le_of_ble_eq_true rfl) (Nat.le_of_ble_eq_true rfl)) h_r1) ?_
  refine pg_iload_n dX12_other_6 rfl ?_
  refine pg_icmp_ne 19 dX12_other_7 (by decide) (fun c2 => ?_) (fun c2 => ?_)
  · rw [if_neg c2] at h
    refine pg_aload_n dX12_other_19 rfl ?_
    refine pg_iload_n dX12_other_20 rfl ?_
    refine pg_iconst 0 dX12_other_21 rfl ?_
    obtain ⟨r3, h_r3, h⟩ := bd_at h
    refine eg_cVi (C := mX12_of) (as := [(.int v1), (.int 0)]) dX12_other_22 mw863 cv_X12_of hS sp128 (Nat.le_of_ble_eq_true rfl) (Nat.le_of_ble_eq_true rfl) rfl rfl rfl (Nat.le_of_ble_eq_true rfl) rfl ⟨(Nat.le_of_ble_eq_true rfl), (Nat.le_of_ble_eq_true rfl)⟩ (ct_X12_of hfl (hS.sub (Nat.le_of_ble_eq_true rfl) (Nat.le_of_ble_eq_true rfl)) h_r3) ?_
    obtain rfl := Option.some.inj h
    exact hE.2.1 _ _ _ _ _ _ .int dX12_other_25 rfl rfl (Nat.zero_le _) (Nat.zero_le _) ⟨rfl, rfl⟩
  · rw [if_pos c2] at h
    refine pg_aload_n dX12_other_10 rfl ?_
    refine pg_iload_n dX12_other_11 rfl ?_
    refine pg_iconst 1 dX12_other_12 rfl ?_
    obtain ⟨r4, h_r4, h⟩ := bd_at h
    refine eg_cVi (C := mX12_of) (as := [(.int v1), (.int 1)]) dX12_other_13 mw863 cv_X12_of hS sp128 (Nat.le_of_ble_eq_true rfl) (Nat.le_of_ble_eq_true rfl) rfl rfl rfl (Nat.le_of_ble_eq_true rfl) rfl ⟨(Nat.le_of_ble_eq_true rfl), (Nat.le_of_ble_eq_true rfl)⟩ (ct_X12_of hfl (hS.sub (Nat.le_of_ble_eq_true rfl) (Nat.le_of_ble_eq_true rfl)) h_r4) ?_
    refine pg_goto 25 dX12_other_16 (by decide) ?_
    obtain rfl := Option.some.inj h
    exact hE.2.1 _ _ _ _ _ _ .int dX12_other_25 rfl rfl (Nat.zero_le _) (Nat.zero_le _) ⟨rfl, rfl⟩
def f_X12_isAt (v1 : Int32) (v2 : Int32) (m0 : me) : Option (Int32 × me) :=
  bd (f_X12_of v1 0 m0) (fun r1 =>
  if r1.1 = v2 then
    some ((1, r1.2))
  else
    bd (f_X12_of v1 1 r1.2) (fun r3 =>
    if r3.1 = v2 then
      some ((1, r3.2))
    else
      some ((0, r3.2))))
set_option maxRecDepth 20000 in
set_option maxHeartbeats 4000000 in
theorem ct_X12_isAt (hfl : g.1.stackTraces = false) (hS : pS 128 137 S) {v1 : Int32} {v2 : Int32} {m0 : me} {x : (Int32 × me)} (h : f_X12_isAt v1 v2 m0 = some x) : pm_Ct g mX12_isAt [.ref 128, .int v1, .int v2] (en S m0) 0 0 (qI S x) qF := by
  refine pm_of (by decide +kernel) rfl hfl (Nat.le_of_ble_eq_true rfl) (fun X hE => ?_)
  show pm_G g mX12_isAt X 0 [some (.ref 128), some (.int v1), some (.int v2)] [] (en S m0) 0 0
  unfold f_X12_isAt at h
  refine pg_aload_n dX12_isAt_0 rfl ?_
  refine pg_iload_n dX12_isAt_1 rfl ?_
  refine pg_iconst 0 dX12_isAt_2 rfl ?_
  obtain ⟨r1, h_r1, h⟩ := bd_at h
  refine eg_cVi (C := mX12_of) (as := [(.int v1), (.int 0)]) dX12_isAt_3 mw863 cv_X12_of hS sp128 (Nat.le_of_ble_eq_true rfl) (Nat.le_of_ble_eq_true rfl) rfl rfl rfl (Nat.le_of_ble_eq_true rfl) rfl ⟨(Nat.le_of_ble_eq_true rfl), (Nat.le_of_ble_eq_true rfl)⟩ (ct_X12_of hfl (hS.sub (Nat.le_of_ble_eq_true rfl) (Nat.le_of_ble_eq_true rfl)) h_r1) ?_
  refine pg_iload_n dX12_isAt_6 rfl ?_
  refine pg_icmp_eq 20 dX12_isAt_7 (by decide) (fun c2 => ?_) (fun c2 => ?_)
  · rw [if_pos c2] at h
    refine pg_iconst 1 dX12_isAt_20 rfl ?_
    refine pg_goto 25 dX12_isAt_21 (by decide) ?_
    obtain rfl := Option.some.inj h
    exact hE.2.1 _ _ _ _ _ _ .boolean dX12_isAt_25 rfl rfl (Nat.zero_le _) (Nat.zero_le _) ⟨rfl, rfl⟩
  · rw [if_neg c2] at h
    refine pg_aload_n dX12_isAt_10 rfl ?_
    refine pg_iload_n dX12_isAt_11 rfl ?_
    refine pg_iconst 1 dX12_isAt_12 rfl ?_
    obtain ⟨r3, h_r3, h⟩ := bd_at h
    refine eg_cVi (C := mX12_of) (as := [(.int v1), (.int 1)]) dX12_isAt_13 mw863 cv_X12_of hS sp128 (Nat.le_of_ble_eq_true rfl) (Nat.le_of_ble_eq_true rfl) rfl rfl rfl (Nat.le_of_ble_eq_true rfl) rfl ⟨(Nat.le_of_ble_eq_true rfl), (Nat.le_of_ble_eq_true rfl)⟩ (ct_X12_of hfl (hS.sub (Nat.le_of_ble_eq_true rfl) (Nat.le_of_ble_eq_true rfl)) h_r3) ?_
    refine pg_iload_n dX12_isAt_16 rfl ?_
    refine pg_icmp_ne 24 dX12_isAt_17 (by decide) (fun c4 => ?_) (fun c4 => ?_)
    · rw [if_neg c4] at h
      refine pg_iconst 0 dX12_isAt_24 rfl ?_
      obtain rfl := Option.some.inj h
      exact hE.2.1 _ _ _ _ _ _ .boolean dX12_isAt_25 rfl rfl (Nat.zero_le _) (Nat.zero_le _) ⟨rfl, rfl⟩
    · rw [if_pos c4] at h
      refine pg_iconst 1 dX12_isAt_20 rfl ?_
      refine pg_goto 25 dX12_isAt_21 (by decide) ?_
      obtain rfl := Option.some.inj h
      exact hE.2.1 _ _ _ _ _ _ .boolean dX12_isAt_25 rfl rfl (Nat.zero_le _) (Nat.zero_le _) ⟨rfl, rfl⟩
end
