section
variable {g : pm_Gl} {X : pm_X} {S : List sF}
def j_X4_faultOfMove_29 (u0 : Int32) (m0 : me) : Option (Int32 × me) :=
  if u0 = 0 then
    some ((1, m0))
  else
    some ((0, m0))
def j_X4_faultOfMove_28 (m0 : me) : Option (Int32 × me) :=
  j_X4_faultOfMove_29 0 m0
def f_X4_faultOfMove (v1 : Int32) (v2 : Int32) (m0 : me) : Option (Int32 × me) :=
  bd (f_X11_isOutside v1 0 7 m0) (fun r1 =>
  if r1.1 = 0 then
    bd (f_X11_isOutside v2 0 ((r1.2.1 1 0) - 1) r1.2) (fun r4 =>
    if r4.1 = 0 then
      j_X4_faultOfMove_29 1 r4.2
    else
      j_X4_faultOfMove_28 r4.2)
  else
    j_X4_faultOfMove_28 r1.2)
set_option maxRecDepth 20000 in
set_option maxHeartbeats 4000000 in
theorem lj_X4_faultOfMove_29 (hfl : g.1.stackTraces = false) (hS : pS 1 28 S) {u0 : Int32} {m0 : me} {r : (Int32 × me)} (h : j_X4_faultOfMove_29 u0 m0 = some r) (hE : pm_End g mX4_faultOfMove X 0 0 (qI S r) qF) : pm_G g mX4_faultOfMove X 29 [some (.ref 1), none, none, none] [(.int u0)] (en S m0) 0 0 := by
  unfold j_X4_faultOfMove_29 at h
  refine eg_istore_n [some (.ref 1), none, none, some (.int u0)] u0 dX4_faultOfMove_29 rfl (Nat.le_of_ble_eq_true rfl) rfl ?_
  refine pg_iload_n dX4_faultOfMove_30 rfl ?_
  refine pg_if_eq 38 dX4_faultOfMove_31 (by decide) (fun c3 => ?_) (fun c3 => ?_)
  · rw [if_pos c3] at h
    refine pg_iconst 1 dX4_faultOfMove_38 rfl ?_
    obtain rfl := Option.some.inj h
    exact hE.2.1 _ _ _ _ _ _ .int dX4_faultOfMove_39 rfl rfl (Nat.zero_le _) (Nat.zero_le _) ⟨rfl, rfl⟩
  · rw [if_neg c3] at h
    refine pg_iconst 0 dX4_faultOfMove_34 rfl ?_
    refine pg_goto 39 dX4_faultOfMove_35 (by decide) ?_
    obtain rfl := Option.some.inj h
    exact hE.2.1 _ _ _ _ _ _ .int dX4_faultOfMove_39 rfl rfl (Nat.zero_le _) (Nat.zero_le _) ⟨rfl, rfl⟩
set_option maxRecDepth 20000 in
set_option maxHeartbeats 4000000 in
theorem lj_X4_faultOfMove_28 (hfl : g.1.stackTraces = false) (hS : pS 1 28 S) {m0 : me} {r : (Int32 × me)} (h : j_X4_faultOfMove_28 m0 = some r) (hE : pm_End g mX4_faultOfMove X 0 0 (qI S r) qF) : pm_G g mX4_faultOfMove X 28 [some (.ref 1), none, none, none] [] (en S m0) 0 0 := by
  unfold j_X4_faultOfMove_28 at h
  refine pg_iconst 0 dX4_faultOfMove_28 rfl ?_
  exact lj_X4_faultOfMove_29 hfl hS h hE
set_option maxRecDepth 20000 in
set_option maxHeartbeats 4000000 in
theorem ct_X4_faultOfMove (hfl : g.1.stackTraces = false) (hS : pS 1 28 S) {v1 : Int32} {v2 : Int32} {m0 : me} {x : (Int32 × me)} (h : f_X4_faultOfMove v1 v2 m0 = some x) : pm_Ct g mX4_faultOfMove [.ref 1, .int v1, .int v2] (en S m0) 0 0 (qI S x) qF := by
  refine pm_of (by decide +kernel) rfl hfl (Nat.le_of_ble_eq_true rfl) (fun X hE => ?_)
  show pm_G g mX4_faultOfMove X 0 [some (.ref 1), some (.int v1), some (.int v2), none] [] (en S m0) 0 0
  unfold f_X4_faultOfMove at h
  refine pg_iload_n dX4_faultOfMove_0 rfl ?_
  refine pg_iconst 0 dX4_faultOfMove_1 rfl ?_
  refine pg_bipush 7 dX4_faultOfMove_2 rfl ?_
  obtain ⟨r1, h_r1, h⟩ := bd_at h
  refine eg_cNi (C := mX11_isOutside) (as := [(.int v1), (.int 0), (.int 7)]) dX4_faultOfMove_4 rfl rfl cs_X11_isOutside rfl rfl (Nat.le_of_ble_eq_true rfl) rfl ⟨(Nat.le_of_ble_eq_true rfl), (Nat.le_of_ble_eq_true rfl)⟩ (ct_X11_isOutside hfl h_r1) ?_
  refine pg_if_ne 28 dX4_faultOfMove_7 (by decide) (fun c2 => ?_) (fun c2 => ?_)
  · rw [if_neg c2] at h
    refine eg_forget [some (.ref 1), none, none, none] (show pm_sub _ _ from ⟨rfl, trivial⟩) ?_
    exact lj_X4_faultOfMove_28 hfl hS h hE
  · rw [if_pos c2] at h
    refine pg_iload_n dX4_faultOfMove_10 rfl ?_
    refine pg_iconst 0 dX4_faultOfMove_11 rfl ?_
    refine pg_aload_n dX4_faultOfMove_12 rfl ?_
    refine eg_get dX4_faultOfMove_13 fa_X4_42 hS sp1 (Nat.le_of_ble_eq_true rfl) (Nat.le_of_ble_eq_true rfl) rfl rfl ?_
    refine pg_iconst 1 dX4_faultOfMove_16 rfl ?_
    refine pg_isub dX4_faultOfMove_17 ?_
    obtain ⟨r4, h_r4, h⟩ := bd_at h
    refine eg_cNi (C := mX11_isOutside) (as := [(.int v2), (.int 0), (.int ((r1.2.1 1 0) - 1))]) dX4_faultOfMove_18 rfl rfl cs_X11_isOutside rfl rfl (Nat.le_of_ble_eq_true rfl) rfl ⟨(Nat.le_of_ble_eq_true rfl), (Nat.le_of_ble_eq_true rfl)⟩ (ct_X11_isOutside hfl h_r4) ?_
    refine pg_if_ne 28 dX4_faultOfMove_21 (by decide) (fun c5 => ?_) (fun c5 => ?_)
    · rw [if_neg c5] at h
      refine eg_forget [some (.ref 1), none, none, none] (show pm_sub _ _ from ⟨rfl, trivial⟩) ?_
      exact lj_X4_faultOfMove_28 hfl hS h hE
    · rw [if_pos c5] at h
      refine pg_iconst 1 dX4_faultOfMove_24 rfl ?_
      refine pg_goto 29 dX4_faultOfMove_25 (by decide) ?_
      refine eg_forget [some (.ref 1), none, none, none] (show pm_sub _ _ from ⟨rfl, trivial⟩) ?_
      exact lj_X4_faultOfMove_29 hfl hS h hE
def f_X11_faultOfTicks (v0 : Int32) (m0 : me) : Option (Int32 × me) :=
  bd (f_X11_isOutside v0 1 200 m0) (fun r1 =>
  if r1.1 = 0 then
    some ((0, r1.2))
  else
    some ((2, r1.2)))
set_option maxRecDepth 20000 in
set_option maxHeartbeats 4000000 in
theorem ct_X11_faultOfTicks (hfl : g.1.stackTraces = false) {v0 : Int32} {m0 : me} {x : (Int32 × me)} (h : f_X11_faultOfTicks v0 m0 = some x) : pm_Ct g mX11_faultOfTicks [.int v0] (en S m0) 0 0 (qI S x) qF := by
  refine pm_of (by decide +kernel) rfl hfl (Nat.le_of_ble_eq_true rfl) (fun X hE => ?_)
  show pm_G g mX11_faultOfTicks X 0 [some (.int v0)] [] (en S m0) 0 0
  unfold f_X11_faultOfTicks at h
  refine pg_iload_n dX11_faultOfTicks_0 rfl ?_
  refine pg_iconst 1 dX11_faultOfTicks_1 rfl ?_
  refine pg_sipush 200 dX11_faultOfTicks_2 rfl ?_
  obtain ⟨r1, h_r1, h⟩ := bd_at h
  refine eg_cSi (C := mX11_isOutside) (as := [(.int v0), (.int 1), (.int 200)]) dX11_faultOfTicks_5 mw390 cs_X11_isOutside rfl rfl (Nat.le_of_ble_eq_true rfl) rfl ⟨(Nat.le_of_ble_eq_true rfl), (Nat.le_of_ble_eq_true rfl)⟩ (ct_X11_isOutside hfl h_r1) ?_
  refine pg_if_eq 15 dX11_faultOfTicks_8 (by decide) (fun c2 => ?_) (fun c2 => ?_)
  · rw [if_pos c2] at h
    refine pg_iconst 0 dX11_faultOfTicks_15 rfl ?_
    obtain rfl := Option.some.inj h
    exact hE.2.1 _ _ _ _ _ _ .int dX11_faultOfTicks_16 rfl rfl (Nat.zero_le _) (Nat.zero_le _) ⟨rfl, rfl⟩
  · rw [if_neg c2] at h
    refine pg_iconst 2 dX11_faultOfTicks_11 rfl ?_
    refine pg_goto 16 dX11_faultOfTicks_12 (by decide) ?_
    obtain rfl := Option.some.inj h
    exact hE.2.1 _ _ _ _ _ _ .int dX11_faultOfTicks_16 rfl rfl (Nat.zero_le _) (Nat.zero_le _) ⟨rfl, rfl⟩
def f_X11_faultOfCommand (v1 : Int32) (v2 : Int32) (v3 : Int32) (m0 : me) : Option (Int32 × me) :=
  if m0.1 111 1 = 0 then
    bd (f_X4_faultOfNewLink v1 v2 v3 m0) (fun r2 =>
    some ((r2.1, r2.2)))
  else
    if m0.1 111 1 = 1 then
      bd (f_X4_faultOfBid v1 v2 v3 m0) (fun r4 =>
      some ((r4.1, r4.2)))
    else
      if m0.1 111 1 = 2 then
        bd (f_X4_faultOfSwitch v1 1 m0) (fun r6 =>
        some ((r6.1, r6.2)))
      else
        if m0.1 111 1 = 3 then
          bd (f_X4_faultOfSwitch v1 0 m0) (fun r8 =>
          some ((r8.1, r8.2)))
        else
          if m0.1 111 1 = 4 then
            bd (f_X4_faultOfPriority v1 v2 m0) (fun r10 =>
            some ((r10.1, r10.2)))
          else
            if m0.1 111 1 = 5 then
              bd (f_X4_faultOfMove v1 v2 m0) (fun r12 =>
              some ((r12.1, r12.2)))
            else
              bd (f_X11_faultOfTicks v1 m0) (fun r13 =>
              some ((r13.1, r13.2)))
set_option maxRecDepth 20000 in
set_option maxHeartbeats 4000000 in
theorem ct_X11_faultOfCommand (hfl : g.1.stackTraces = false) (hS : pS 0 138 S) {v1 : Int32} {v2 : Int32} {v3 : Int32} {m0 : me} {x : (Int32 × me)} (h : f_X11_faultOfCommand v1 v2 v3 m0 = some x) : pm_Ct g mX11_faultOfCommand [.ref 0, .int v1, .int v2, .int v3] (en S m0) 0 0 (qI S x) qF := by
  refine pm_of (by decide +kernel) rfl hfl (Nat.le_of_ble_eq_true rfl) (fun X hE => ?_)
  show pm_G g mX11_faultOfCommand X 0 [some (.ref 0), some (.int v1), some (.int v2), some (.int v3)] [] (en S m0) 0 0
  unfold f_X11_faultOfCommand at h
  refine pg_aload_n dX11_faultOfCommand_0 rfl ?_
  refine eg_get dX11_faultOfCommand_1 fa_X11_30 hS sp0 (Nat.le_of_ble_eq_true rfl) (Nat.le_of_ble_eq_true rfl) rfl rfl ?_
  refine eg_get dX11_faultOfCommand_4 fa_X11_354 hS sp111 (Nat.le_of_ble_eq_true rfl) (Nat.le_of_ble_eq_true rfl) rfl rfl ?_
  by_cases c1 : m0.1 111 1 = 0
  · rw [if_pos c1] at h
    refine pg_tabIn (off := 37) 44 dX11_faultOfCommand_7 (by rw [c1]; decide) (by rw [c1]; decide) (by rw [c1]; decide) (by decide) ?_
    refine pg_aload_n dX11_faultOfCommand_44 rfl ?_
    refine eg_get dX11_faultOfCommand_45 fa_X11_12 hS sp0 (Nat.le_of_ble_eq_true rfl) (Nat.le_of_ble_eq_true rfl) rfl rfl ?_
    refine pg_iload_n dX11_faultOfCommand_48 rfl ?_
    refine pg_iload_n dX11_faultOfCommand_49 rfl ?_
    refine pg_iload_n dX11_faultOfCommand_50 rfl ?_
    obtain ⟨r2, h_r2, h⟩ := bd_at h
    refine eg_cVi (C := mX4_faultOfNewLink) (as := [(.int v1), (.int v2), (.int v3)]) dX11_faultOfCommand_51 mw356 cv_X4_faultOfNewLink hS sp1 (Nat.le_of_ble_eq_true rfl) (Nat.le_of_ble_eq_true rfl) rfl rfl rfl (Nat.le_of_ble_eq_true rfl) rfl ⟨(Nat.le_of_ble_eq_true rfl), (Nat.le_of_ble_eq_true rfl)⟩ (ct_X4_faultOfNewLink hfl (hS.sub (Nat.le_of_ble_eq_true rfl) (Nat.le_of_ble_eq_true rfl)) h_r2) ?_
    obtain rfl := Option.some.inj h
    exact hE.2.1 _ _ _ _ _ _ .int dX11_faultOfCommand_54 rfl rfl (Nat.zero_le _) (Nat.zero_le _) ⟨rfl, rfl⟩
  · rw [if_neg c1] at h
    by_cases c3 : m0.1 111 1 = 1
    · rw [if_pos c3] at h
      refine pg_tabIn (off := 48) 55 dX11_faultOfCommand_7 (by rw [c3]; decide) (by rw [c3]; decide) (by rw [c3]; decide) (by decide) ?_
      refine pg_aload_n dX11_faultOfCommand_55 rfl ?_
      refine eg_get dX11_faultOfCommand_56 fa_X11_12 hS sp0 (Nat.le_of_ble_eq_true rfl) (Nat.le_of_ble_eq_true rfl) rfl rfl ?_
      refine pg_iload_n dX11_faultOfCommand_59 rfl ?_
      refine pg_iload_n dX11_faultOfCommand_60 rfl ?_
      refine pg_iload_n dX11_faultOfCommand_61 rfl ?_
      obtain ⟨r4, h_r4, h⟩ := bd_at h
      refine eg_cVi (C := mX4_faultOfBid) (as := [(.int v1), (.int v2), (.int v3)]) dX11_faultOfCommand_62 mw361 cv_X4_faultOfBid hS sp1 (Nat.le_of_ble_eq_true rfl) (Nat.le_of_ble_eq_true rfl) rfl rfl rfl (Nat.le_of_ble_eq_true rfl) rfl ⟨(Nat.le_of_ble_eq_true rfl), (Nat.le_of_ble_eq_true rfl)⟩ (ct_X4_faultOfBid hfl (hS.sub (Nat.le_of_ble_eq_true rfl) (Nat.le_of_ble_eq_true rfl)) h_r4) ?_
      obtain rfl := Option.some.inj h
      exact hE.2.1 _ _ _ _ _ _ .int dX11_faultOfCommand_65 rfl rfl (Nat.zero_le _) (Nat.zero_le _) ⟨rfl, rfl⟩
    · rw [if_neg c3] at h
      by_cases c5 : m0.1 111 1 = 2
      · rw [if_pos c5] at h
        refine pg_tabIn (off := 59) 66 dX11_faultOfCommand_7 (by rw [c5]; decide) (by rw [c5]; decide) (by rw [c5]; decide) (by decide) ?_
        refine pg_aload_n dX11_faultOfCommand_66 rfl ?_
        refine eg_get dX11_faultOfCommand_67 fa_X11_12 hS sp0 (Nat.le_of_ble_eq_true rfl) (Nat.le_of_ble_eq_true rfl) rfl rfl ?_
        refine pg_iload_n dX11_faultOfCommand_70 rfl ?_
        refine pg_iconst 1 dX11_faultOfCommand_71 rfl ?_
        obtain ⟨r6, h_r6, h⟩ := bd_at h
        refine eg_cVi (C := mX4_faultOfSwitch) (as := [(.int v1), (.int 1)]) dX11_faultOfCommand_72 mw366 cv_X4_faultOfSwitch hS sp1 (Nat.le_of_ble_eq_true rfl) (Nat.le_of_ble_eq_true rfl) rfl rfl rfl (Nat.le_of_ble_eq_true rfl) rfl ⟨(Nat.le_of_ble_eq_true rfl), (Nat.le_of_ble_eq_true rfl)⟩ (ct_X4_faultOfSwitch hfl (hS.sub (Nat.le_of_ble_eq_true rfl) (Nat.le_of_ble_eq_true rfl)) h_r6) ?_
        obtain rfl := Option.some.inj h
        exact hE.2.1 _ _ _ _ _ _ .int dX11_faultOfCommand_75 rfl rfl (Nat.zero_le _) (Nat.zero_le _) ⟨rfl, rfl⟩
      · rw [if_neg c5] at h
        by_cases c7 : m0.1 111 1 = 3
        · rw [if_pos c7] at h
          refine pg_tabIn (off := 69) 76 dX11_faultOfCommand_7 (by rw [c7]; decide) (by rw [c7]; decide) (by rw [c7]; decide) (by decide) ?_
          refine pg_aload_n dX11_faultOfCommand_76 rfl ?_
          refine eg_get dX11_faultOfCommand_77 fa_X11_12 hS sp0 (Nat.le_of_ble_eq_true rfl) (Nat.le_of_ble_eq_true rfl) rfl rfl ?_
          refine pg_iload_n dX11_faultOfCommand_80 rfl ?_
          refine pg_iconst 0 dX11_faultOfCommand_81 rfl ?_
          obtain ⟨r8, h_r8, h⟩ := bd_at h
          refine eg_cVi (C := mX4_faultOfSwitch) (as := [(.int v1), (.int 0)]) dX11_faultOfCommand_82 mw366 cv_X4_faultOfSwitch hS sp1 (Nat.le_of_ble_eq_true rfl) (Nat.le_of_ble_eq_true rfl) rfl rfl rfl (Nat.le_of_ble_eq_true rfl) rfl ⟨(Nat.le_of_ble_eq_true rfl), (Nat.le_of_ble_eq_true rfl)⟩ (ct_X4_faultOfSwitch hfl (hS.sub (Nat.le_of_ble_eq_true rfl) (Nat.le_of_ble_eq_true rfl)) h_r8) ?_
          obtain rfl := Option.some.inj h
          exact hE.2.1 _ _ _ _ _ _ .int dX11_faultOfCommand_85 rfl rfl (Nat.zero_le _) (Nat.zero_le _) ⟨rfl, rfl⟩
        · rw [if_neg c7] at h
          by_cases c9 : m0.1 111 1 = 4
          · rw [if_pos c9] at h
            refine pg_tabIn (off := 79) 86 dX11_faultOfCommand_7 (by rw [c9]; decide) (by rw [c9]; decide) (by rw [c9]; decide) (by decide) ?_
            refine pg_aload_n dX11_faultOfCommand_86 rfl ?_
            refine eg_get dX11_faultOfCommand_87 fa_X11_12 hS sp0 (Nat.le_of_ble_eq_true rfl) (Nat.le_of_ble_eq_true rfl) rfl rfl ?_
            refine pg_iload_n dX11_faultOfCommand_90 rfl ?_
            refine pg_iload_n dX11_faultOfCommand_91 rfl ?_
            obtain ⟨r10, h_r10, h⟩ := bd_at h
            refine eg_cVi (C := mX4_faultOfPriority) (as := [(.int v1), (.int v2)]) dX11_faultOfCommand_92 mw371 cv_X4_faultOfPriority hS sp1 (Nat.le_of_ble_eq_true rfl) (Nat.le_of_ble_eq_true rfl) rfl rfl rfl (Nat.le_of_ble_eq_true rfl) rfl ⟨(Nat.le_of_ble_eq_true rfl), (Nat.le_of_ble_eq_true rfl)⟩ (ct_X4_faultOfPriority hfl (hS.sub (Nat.le_of_ble_eq_true rfl) (Nat.le_of_ble_eq_true rfl)) h_r10) ?_
            obtain rfl := Option.some.inj h
            exact hE.2.1 _ _ _ _ _ _ .int dX11_faultOfCommand_95 rfl rfl (Nat.zero_le _) (Nat.zero_le _) ⟨rfl, rfl⟩
          · rw [if_neg c9] at h
            by_cases c11 : m0.1 111 1 = 5
            · rw [if_pos c11] at h
              refine pg_tabIn (off := 89) 96 dX11_faultOfCommand_7 (by rw [c11]; decide) (by rw [c11]; decide) (by rw [c11]; decide) (by decide) ?_
              refine pg_aload_n dX11_faultOfCommand_96 rfl ?_
              refine eg_get dX11_faultOfCommand_97 fa_X11_12 hS sp0 (Nat.le_of_ble_eq_true rfl) (Nat.le_of_ble_eq_true rfl) rfl rfl ?_
              refine pg_iload_n dX11_faultOfCommand_100 rfl ?_
              refine pg_iload_n dX11_faultOfCommand_101 rfl ?_
              obtain ⟨r12, h_r12, h⟩ := bd_at h
              refine eg_cVi (C := mX4_faultOfMove) (as := [(.int v1), (.int v2)]) dX11_faultOfCommand_102 mw376 cv_X4_faultOfMove hS sp1 (Nat.le_of_ble_eq_true rfl) (Nat.le_of_ble_eq_true rfl) rfl rfl rfl (Nat.le_of_ble_eq_true rfl) rfl ⟨(Nat.le_of_ble_eq_true rfl), (Nat.le_of_ble_eq_true rfl)⟩ (ct_X4_faultOfMove hfl (hS.sub (Nat.le_of_ble_eq_true rfl) (Nat.le_of_ble_eq_true rfl)) h_r12) ?_
              obtain rfl := Option.some.inj h
              exact hE.2.1 _ _ _ _ _ _ .int dX11_faultOfCommand_105 rfl rfl (Nat.zero_le _) (Nat.zero_le _) ⟨rfl, rfl⟩
            · rw [if_neg c11] at h
              have k_c1 := lv_neT c1 (show (0 : Int32).toInt = 0 from rfl)
              have k_c3 := lv_neT c3 (show (1 : Int32).toInt = 1 from rfl)
              have k_c5 := lv_neT c5 (show (2 : Int32).toInt = 2 from rfl)
              have k_c7 := lv_neT c7 (show (3 : Int32).toInt = 3 from rfl)
              have k_c9 := lv_neT c9 (show (4 : Int32).toInt = 4 from rfl)
              have k_c11 := lv_neT c11 (show (5 : Int32).toInt = 5 from rfl)
              refine pg_tabOut 106 dX11_faultOfCommand_7 (by omega) (by decide) ?_
              refine pg_iload_n dX11_faultOfCommand_106 rfl ?_
              obtain ⟨r13, h_r13, h⟩ := bd_at h
              refine eg_cSi (C := mX11_faultOfTicks) (as := [(.int v1)]) dX11_faultOfCommand_107 mw381 cs_X11_faultOfTicks rfl rfl (Nat.le_of_ble_eq_true rfl) rfl ⟨(Nat.le_of_ble_eq_true rfl), (Nat.le_of_ble_eq_true rfl)⟩ (ct_X11_faultOfTicks hfl h_r13) ?_
              obtain rfl := Option.some.inj h
              exact hE.2.1 _ _ _ _ _ _ .int dX11_faultOfCommand_110 rfl rfl (Nat.zero_le _) (Nat.zero_le _) ⟨rfl, rfl⟩
def b_X3_append_106 (v1 : Int32) (v2 : Int32) (v3 : Int32) (v4 : Int32) (s : Int32 × me) : Option ((Int32 × me) ⊕ (Int32 × me)) :=
  if ((2 * v4) + 1) < s.1 then
    some (.inr (s.1, s.2))
  else
    gd (inR s.1 32) (
    lt (wI s.2 20 s.1.toNatClampNeg 2) (fun m15 =>
    gd (inR s.1 32) (
    lt (wI m15 21 s.1.toNatClampNeg 0) (fun m16 =>
    gd (inR s.1 32) (
    lt (wI m16 22 s.1.toNatClampNeg 0) (fun m17 =>
    lt (s.1 + 1) (fun w18 =>
    some (.inl (w18, m17)))))))))
def f_X3_append (v1 : Int32) (v2 : Int32) (v3 : Int32) (m0 : me) : Option (Int32 × me) :=
  lt (m0.1 11 0) (fun w1 =>
  if w1 < 0 then
    some (((-1), m0))
  else
    if w1 < 16 then
      lt (wI m0 11 0 (w1 + 1)) (fun m4 =>
      gd (inR w1 16) (
      lt (wI m4 12 w1.toNatClampNeg (if v2 < v1 then v2 else v1)) (fun m5 =>
      gd (inR w1 16) (
      lt (wI m5 13 w1.toNatClampNeg (if v1 < v2 then v2 else v1)) (fun m6 =>
      gd (inR w1 16) (
      lt (wI m6 14 w1.toNatClampNeg v3) (fun m7 =>
      gd (inR w1 16) (
      lt (wI m7 15 w1.toNatClampNeg v3) (fun m8 =>
      gd (inR w1 16) (
      lt (wI m8 16 w1.toNatClampNeg 1) (fun m9 =>
      gd (inR w1 16) (
      lt (wI m9 17 w1.toNatClampNeg (-1)) (fun m10 =>
      gd (inR w1 16) (
      lt (wI m10 18 w1.toNatClampNeg 0) (fun m11 =>
      gd (inR w1 16) (
      lt (wI m11 19 w1.toNatClampNeg 0) (fun m12 =>
      lt (2 * w1) (fun w13 =>
      bd (lo (b_X3_append_106 v1 v2 v3 w1) 2048 (w13, m12)) (fun s19 =>
      some ((w1, s19.2)))))))))))))))))))))
    else
      some (((-1), m0)))
set_option maxRecDepth 20000 in
set_option maxHeartbeats 4000000 in
theorem lb_X3_append_106 (hfl : g.1.stackTraces = false) (hS : pS 1 28 S) {v1 : Int32} {v2 : Int32} {v3 : Int32} {v4 : Int32} {s : Int32 × me} {r : (Int32 × me) ⊕ (Int32 × me)} (h : b_X3_append_106 v1 v2 v3 v4 s = some r) (hN : ∀ s', r = .inl s' → (fun z9 : Int32 × me => pm_G g mX3_append X 106 [some (.ref 11), some (.int v1), some (.int v2), some (.int v3), some (.int v4), some (.int z9.1)] [] (en S z9.2) 0 0) s') (hT : ∀ t, r = .inr t → (fun z9 : Int32 × me => pm_G g mX3_append X 147 [some (.ref 11), some (.int v1), some (.int v2), some (.int v3), some (.int v4), some (.int z9.1)] [] (en S z9.2) 0 0) t) : (fun z9 : Int32 × me => pm_G g mX3_append X 106 [some (.ref 11), some (.int v1), some (.int v2), some (.int v3), some (.int v4), some (.int z9.1)] [] (en S z9.2) 0 0) s := by
  unfold b_X3_append_106 at h
  show pm_G g mX3_append X 106 [some (.ref 11), some (.int v1), some (.int v2), some (.int v3), some (.int v4), some (.int s.1)] [] (en S s.2) 0 0
  refine pg_iload dX3_append_106 rfl ?_
  refine pg_iconst 2 dX3_append_108 rfl ?_
  refine pg_iload dX3_append_109 rfl ?_
  refine pg_imul dX3_append_111 ?_
  refine pg_iconst 1 dX3_append_112 rfl ?_
  refine pg_iadd dX3_append_113 ?_
  refine pg_icmp_gt 147 dX3_append_114 (by decide) (fun c14 => ?_) (fun c14 => ?_)
  · rw [if_pos c14] at h
    obtain rfl := Option.some.inj h
    exact hT _ rfl
  · rw [if_neg c14] at h
    refine pg_aload_n dX3_append_117 rfl ?_
    refine eg_get dX3_append_118 fa_X3_37 hS sp11 (Nat.le_of_ble_eq_true rfl) (Nat.le_of_ble_eq_true rfl) rfl rfl ?_
    refine pg_iload dX3_append_121 rfl ?_
    refine pg_iconst 2 dX3_append_123 rfl ?_
    obtain ⟨g1, h⟩ := gd_at h
    refine eg_iastJ s.1.toNatClampNeg dX3_append_124 hS sp20 (Nat.le_of_ble_eq_true rfl) (Nat.le_of_ble_eq_true rfl) (fun _ _ _ => rfl) (inR_vp g1) rfl (fun m15 e_m15 => ?_)
    replace h := lt_at h e_m15
    refine pg_aload_n dX3_append_125 rfl ?_
    refine eg_get dX3_append_126 fa_X3_40 hS sp11 (Nat.le_of_ble_eq_true rfl) (Nat.le_of_ble_eq_true rfl) rfl rfl ?_
    refine pg_iload dX3_append_129 rfl ?_
    refine pg_iconst 0 dX3_append_131 rfl ?_
    obtain ⟨g1, h⟩ := gd_at h
    refine eg_iastJ s.1.toNatClampNeg dX3_append_132 hS sp21 (Nat.le_of_ble_eq_true rfl) (Nat.le_of_ble_eq_true rfl) (fun _ _ _ => rfl) (inR_vp g1) rfl (fun m16 e_m16 => ?_)
    replace h := lt_at h e_m16
    refine pg_aload_n dX3_append_133 rfl ?_
    refine eg_get dX3_append_134 fa_X3_43 hS sp11 (Nat.le_of_ble_eq_true rfl) (Nat.le_of_ble_eq_true rfl) rfl rfl ?_
    refine pg_iload dX3_append_137 rfl ?_
    refine pg_iconst 0 dX3_append_139 rfl ?_
    obtain ⟨g1, h⟩ := gd_at h
    refine eg_iastJ s.1.toNatClampNeg dX3_append_140 hS sp22 (Nat.le_of_ble_eq_true rfl) (Nat.le_of_ble_eq_true rfl) (fun _ _ _ => rfl) (inR_vp g1) rfl (fun m17 e_m17 => ?_)
    replace h := lt_at h e_m17
    obtain ⟨w18, e_w18⟩ : ∃ z : Int32, z = s.1 + 1 := ⟨_, rfl⟩
    replace h := lt_at h e_w18
    refine eg_iinc [some (.ref 11), some (.int v1), some (.int v2), some (.int v3), some (.int v4), some (.int w18)] w18 1 dX3_append_141 rfl rfl e_w18 rfl ?_
    refine pg_goto 106 dX3_append_144 (by decide) ?_
    obtain rfl := Option.some.inj h
    exact hN _ rfl
set_option maxRecDepth 20000 in
set_option maxHeartbeats 4000000 in
theorem ct_X3_append (hfl : g.1.stackTraces = false) (hS : pS 1 28 S) {v1 : Int32} {v2 : Int32} {v3 : Int32} {m0 : me} {x : (Int32 × me)} (h : f_X3_append v1 v2 v3 m0 = some x) : pm_Ct g mX3_append [.ref 11, .int v1, .int v2, .int v3] (en S m0) 0 0 (qI S x) qF := by
  refine pm_of (by decide +kernel) rfl hfl (Nat.le_of_ble_eq_true rfl) (fun X hE => ?_)
  show pm_G g mX3_append X 0 [some (.ref 11), some (.int v1), some (.int v2), some (.int v3), none, none] [] (en S m0) 0 0
  unfold f_X3_append at h
  refine pg_aload_n dX3_append_0 rfl ?_
  refine eg_get dX3_append_1 fa_X3_46 hS sp11 (Nat.le_of_ble_eq_true rfl) (Nat.le_of_ble_eq_true rfl) rfl rfl ?_
  obtain ⟨w1, e_w1⟩ : ∃ z : Int32, z = m0.1 11 0 := ⟨_, rfl⟩
  replace h := lt_at h e_w1
  refine eg_istore [some (.ref 11), some (.int v1), some (.int v2), some (.int v3), some (.int w1), none] w1 dX3_append_4 e_w1 (Nat.le_of_ble_eq_true rfl) rfl ?_
  refine pg_iload dX3_append_6 rfl ?_
  refine pg_if_lt 18 dX3_append_8 (by decide) (fun c2 => ?_) (fun c2 => ?_)
  · rw [if_pos c2] at h
    refine pg_iconst (-1) dX3_append_18 rfl ?_
    obtain rfl := Option.some.inj h
    exact hE.2.1 _ _ _ _ _ _ .int dX3_append_19 rfl rfl (Nat.zero_le _) (Nat.zero_le _) ⟨rfl, rfl⟩
  · rw [if_neg c2] at h
    refine pg_iload dX3_append_11 rfl ?_
    refine pg_bipush 16 dX3_append_13 rfl ?_
    refine pg_icmp_lt 20 dX3_append_15 (by decide) (fun c3 => ?_) (fun c3 => ?_)
    · rw [if_pos c3] at h
      refine pg_aload_n dX3_append_20 rfl ?_
      refine pg_iload dX3_append_21 rfl ?_
      refine pg_iconst 1 dX3_append_23 rfl ?_
      refine pg_iadd dX3_append_24 ?_
      refine eg_put dX3_append_25 fa_X3_46 hS sp11 (Nat.le_of_ble_eq_true rfl) (Nat.le_of_ble_eq_true rfl) rfl (Nat.le_of_ble_eq_true rfl) rfl (fun m4 e_m4 => ?_)
      replace h := lt_at h e_m4
      refine pg_aload_n dX3_append_28 rfl ?_
      refine eg_get dX3_append_29 fa_X3_9 hS sp11 (Nat.le_of_ble_eq_true rfl) (Nat.le_of_ble_eq_true rfl) rfl rfl ?_
      refine pg_iload dX3_append_32 rfl ?_
      refine pg_iload_n dX3_append_34 rfl ?_
      refine pg_iload_n dX3_append_35 rfl ?_
      refine pg_min dX3_append_36 mw391 mw392 mw393 mw394 rfl (Nat.le_of_ble_eq_true rfl) (Nat.le_of_ble_eq_true rfl) (Nat.zero_le _) (Nat.zero_le _) ?_
      obtain ⟨g1, h⟩ := gd_at h
      refine eg_iastJ w1.toNatClampNeg dX3_append_39 hS sp12 (Nat.le_of_ble_eq_true rfl) (Nat.le_of_ble_eq_true rfl) (fun _ _ _ => rfl) (inR_vp g1) rfl (fun m5 e_m5 => ?_)
      replace h := lt_at h e_m5
      refine pg_aload_n dX3_append_40 rfl ?_
      refine eg_get dX3_append_41 fa_X3_15 hS sp11 (Nat.le_of_ble_eq_true rfl) (Nat.le_of_ble_eq_true rfl) rfl rfl ?_
      refine pg_iload dX3_append_44 rfl ?_
      refine pg_iload_n dX3_append_46 rfl ?_
      refine pg_iload_n dX3_append_47 rfl ?_
      refine pg_max dX3_append_48 mw395 mw396 mw393 mw397 rfl (Nat.le_of_ble_eq_true rfl) (Nat.le_of_ble_eq_true rfl) (Nat.zero_le _) (Nat.zero_le _) ?_
      obtain ⟨g1, h⟩ := gd_at h
      refine eg_iastJ w1.toNatClampNeg dX3_append_51 hS sp13 (Nat.le_of_ble_eq_true rfl) (Nat.le_of_ble_eq_true rfl) (fun _ _ _ => rfl) (inR_vp g1) rfl (fun m6 e_m6 => ?_)
      replace h := lt_at h e_m6
      refine pg_aload_n dX3_append_52 rfl ?_
      refine eg_get dX3_append_53 fa_X3_18 hS sp11 (Nat.le_of_ble_eq_true rfl) (Nat.le_of_ble_eq_true rfl) rfl rfl ?_
      refine pg_iload dX3_append_56 rfl ?_
      refine pg_iload_n dX3_append_58 rfl ?_
      obtain ⟨g1, h⟩ := gd_at h
      refine eg_iastJ w1.toNatClampNeg dX3_append_59 hS sp14 (Nat.le_of_ble_eq_true rfl) (Nat.le_of_ble_eq_true rfl) (fun _ _ _ => rfl) (inR_vp g1) rfl (fun m7 e_m7 => ?_)
      replace h := lt_at h e_m7
      refine pg_aload_n dX3_append_60 rfl ?_
      refine eg_get dX3_append_61 fa_X3_21 hS sp11 (Nat.le_of_ble_eq_true rfl) (Nat.le_of_ble_eq_true rfl) rfl rfl ?_
      refine pg_iload dX3_append_64 rfl ?_
      refine pg_iload_n dX3_append_66 rfl ?_
      obtain ⟨g1, h⟩ := gd_at h
      refine eg_iastJ w1.toNatClampNeg dX3_append_67 hS sp15 (Nat.le_of_ble_eq_true rfl) (Nat.le_of_ble_eq_true rfl) (fun _ _ _ => rfl) (inR_vp g1) rfl (fun m8 e_m8 => ?_)
      replace h := lt_at h e_m8
      refine pg_aload_n dX3_append_68 rfl ?_
      refine eg_get dX3_append_69 fa_X3_24 hS sp11 (Nat.le_of_ble_eq_true rfl) (Nat.le_of_ble_eq_true rfl) rfl rfl ?_
      refine pg_iload dX3_append_72 rfl ?_
      refine pg_iconst 1 dX3_append_74 rfl ?_
      obtain ⟨g1, h⟩ := gd_at h
      refine eg_zastJ w1.toNatClampNeg dX3_append_75 hS sp16 (Nat.le_of_ble_eq_true rfl) (Nat.le_of_ble_eq_true rfl) (fun _ _ _ => rfl) (inR_vp g1) rfl rfl (fun m9 e_m9 => ?_)
      replace h := lt_at h e_m9
      refine pg_aload_n dX3_append_76 rfl ?_
      refine eg_get dX3_append_77 fa_X3_28 hS sp11 (Nat.le_of_ble_eq_true rfl) (Nat.le_of_ble_eq_true rfl) rfl rfl ?_
      refine pg_iload dX3_append_80 rfl ?_
      refine pg_iconst (-1) dX3_append_82 rfl ?_
      obtain ⟨g1, h⟩ := gd_at h
      refine eg_iastJ w1.toNatClampNeg dX3_append_83 hS sp17 (Nat.le_of_ble_eq_true rfl) (Nat.le_of_ble_eq_true rfl) (fun _ _ _ => rfl) (inR_vp g1) rfl (fun m10 e_m10 => ?_)
      replace h := lt_at h e_m10
      refine pg_aload_n dX3_append_84 rfl ?_
      refine eg_get dX3_append_85 fa_X3_31 hS sp11 (Nat.le_of_ble_eq_true rfl) (Nat.le_of_ble_eq_true rfl) rfl rfl ?_
      refine pg_iload dX3_append_88 rfl ?_
      refine pg_iconst 0 dX3_append_90 rfl ?_
      obtain ⟨g1, h⟩ := gd_at h
      refine eg_iastJ w1.toNatClampNeg dX3_append_91 hS sp18 (Nat.le_of_ble_eq_true rfl) (Nat.le_of_ble_eq_true rfl) (fun _ _ _ => rfl) (inR_vp g1) rfl (fun m11 e_m11 => ?_)
      replace h := lt_at h e_m11
      refine pg_aload_n dX3_append_92 rfl ?_
      refine eg_get dX3_append_93 fa_X3_34 hS sp11 (Nat.le_of_ble_eq_true rfl) (Nat.le_of_ble_eq_true rfl) rfl rfl ?_
      refine pg_iload dX3_append_96 rfl ?_
      refine pg_iconst 0 dX3_append_98 rfl ?_
      obtain ⟨g1, h⟩ := gd_at h
      refine eg_iastJ w1.toNatClampNeg dX3_append_99 hS sp19 (Nat.le_of_ble_eq_true rfl) (Nat.le_of_ble_eq_true rfl) (fun _ _ _ => rfl) (inR_vp g1) rfl (fun m12 e_m12 => ?_)
      replace h := lt_at h e_m12
      refine pg_iconst 2 dX3_append_100 rfl ?_
      refine pg_iload dX3_append_101 rfl ?_
      refine pg_imul dX3_append_103 ?_
      obtain ⟨w13, e_w13⟩ : ∃ z : Int32, z = 2 * w1 := ⟨_, rfl⟩
      replace h := lt_at h e_w13
      refine eg_istore [some (.ref 11), some (.int v1), some (.int v2), some (.int v3), some (.int w1), some (.int w13)] w13 dX3_append_104 e_w13 (Nat.le_of_ble_eq_true rfl) rfl ?_
      obtain ⟨s19, h_s19, h⟩ := bd_at h
      refine lo_at (b := b_X3_append_106 v1 v2 v3 w1) (G := (fun z9 : Int32 × me => pm_G g mX3_append X 106 [some (.ref 11), some (.int v1), some (.int v2), some (.int v3), some (.int w1), some (.int z9.1)] [] (en S z9.2) 0 0)) (T := (fun z9 : Int32 × me => pm_G g mX3_append X 147 [some (.ref 11), some (.int v1), some (.int v2), some (.int v3), some (.int w1), some (.int z9.1)] [] (en S z9.2) 0 0)) (fun q9 r9 h1 h2 h3 => lb_X3_append_106 hfl hS h1 h2 h3) 2048 (w13, m12) s19 h_s19 ?_
      show pm_G g mX3_append X 147 [some (.ref 11), some (.int v1), some (.int v2), some (.int v3), some (.int w1), some (.int s19.1)] [] (en S s19.2) 0 0
      refine pg_iload dX3_append_147 rfl ?_
      obtain rfl := Option.some.inj h
      exact hE.2.1 _ _ _ _ _ _ .int dX3_append_149 rfl rfl (Nat.zero_le _) (Nat.zero_le _) ⟨rfl, rfl⟩
    · rw [if_neg c3] at h
      refine pg_iconst (-1) dX3_append_18 rfl ?_
      obtain rfl := Option.some.inj h
      exact hE.2.1 _ _ _ _ _ _ .int dX3_append_19 rfl rfl (Nat.zero_le _) (Nat.zero_le _) ⟨rfl, rfl⟩
def f_X8_changeBid (v1 : Int32) (v2 : Int32) (v3 : Int32) (m0 : me) : Option (Int32 × me) :=
  lt ((v1 * 16) + v2) (fun w1 =>
  gd (inR w1 64) (
  lt (m0.1 27 w1.toNatClampNeg) (fun w2 =>
  gd (inR w1 64) (
  lt (wI m0 27 w1.toNatClampNeg v3) (fun m3 =>
  some ((w2, m3)))))))
set_option maxRecDepth 20000 in
set_option maxHeartbeats 4000000 in
theorem ct_X8_changeBid (hfl : g.1.stackTraces = false) (hS : pS 1 28 S) {v1 : Int32} {v2 : Int32} {v3 : Int32} {m0 : me} {x : (Int32 × me)} (h : f_X8_changeBid v1 v2 v3 m0 = some x) : pm_Ct g mX8_changeBid [.ref 23, .int v1, .int v2, .int v3] (en S m0) 0 0 (qI S x) qF := by
  refine pm_of (by decide +kernel) rfl hfl (Nat.le_of_ble_eq_true rfl) (fun X hE => ?_)
  show pm_G g mX8_changeBid X 0 [some (.ref 23), some (.int v1), some (.int v2), some (.int v3), none, none] [] (en S m0) 0 0
  unfold f_X8_changeBid at h
  refine pg_iload_n dX8_changeBid_0 rfl ?_
  refine pg_bipush 16 dX8_changeBid_1 rfl ?_
  refine pg_imul dX8_changeBid_3 ?_
  refine pg_iload_n dX8_changeBid_4 rfl ?_
  refine pg_iadd dX8_changeBid_5 ?_
  obtain ⟨w1, e_w1⟩ : ∃ z : Int32, z = (v1 * 16) + v2 := ⟨_, rfl⟩
  replace h := lt_at h e_w1
  refine eg_istore [some (.ref 23), some (.int v1), some (.int v2), some (.int v3), some (.int w1), none] w1 dX8_changeBid_6 e_w1 (Nat.le_of_ble_eq_true rfl) rfl ?_
  refine pg_aload_n dX8_changeBid_8 rfl ?_
  refine eg_get dX8_changeBid_9 fa_X8_21 hS sp23 (Nat.le_of_ble_eq_true rfl) (Nat.le_of_ble_eq_true rfl) rfl rfl ?_
  refine pg_iload dX8_changeBid_12 rfl ?_
  obtain ⟨g1, h⟩ := gd_at h
  refine eg_ialdJ w1.toNatClampNeg dX8_changeBid_14 hS sp27 (Nat.le_of_ble_eq_true rfl) (Nat.le_of_ble_eq_true rfl) rfl (inR_vp g1) rfl ?_
  obtain ⟨w2, e_w2⟩ : ∃ z : Int32, z = m0.1 27 w1.toNatClampNeg := ⟨_, rfl⟩
  replace h := lt_at h e_w2
  refine eg_istore [some (.ref 23), some (.int v1), some (.int v2), some (.int v3), some (.int w1), some (.int w2)] w2 dX8_changeBid_15 e_w2 (Nat.le_of_ble_eq_true rfl) rfl ?_
  refine pg_aload_n dX8_changeBid_17 rfl ?_
  refine eg_get dX8_changeBid_18 fa_X8_21 hS sp23 (Nat.le_of_ble_eq_true rfl) (Nat.le_of_ble_eq_true rfl) rfl rfl ?_
  refine pg_iload dX8_changeBid_21 rfl ?_
  refine pg_iload_n dX8_changeBid_23 rfl ?_
  obtain ⟨g1, h⟩ := gd_at h
  refine eg_iastJ w1.toNatClampNeg dX8_changeBid_24 hS sp27 (Nat.le_of_ble_eq_true rfl) (Nat.le_of_ble_eq_true rfl) (fun _ _ _ => rfl) (inR_vp g1) rfl (fun m3 e_m3 => ?_)
  replace h := lt_at h e_m3
  refine pg_iload dX8_changeBid_25 rfl ?_
  obtain rfl := Option.some.inj h
  exact hE.2.1 _ _ _ _ _ _ .int dX8_changeBid_27 rfl rfl (Nat.zero_le _) (Nat.zero_le _) ⟨rfl, rfl⟩
def j_X4_takeDown_84 (v1 : Int32) (m0 : me) : Option (Int32 × me) :=
  gd (inR v1 16) (
  lt (wI m0 16 v1.toNatClampNeg 0) (fun m3 =>
  gd (inR v1 16) (
  lt (wI m3 17 v1.toNatClampNeg (-1)) (fun m4 =>
  gd (inR v1 16) (
  lt (wI m4 18 v1.toNatClampNeg 0) (fun m5 =>
  some ((0, m5))))))))
def j_X4_takeDown_84_1 (v1 : Int32) (v2 : Int32) (m0 : me) : Option (Int32 × me) :=
  gd (inR v1 16) (
  lt (wI m0 16 v1.toNatClampNeg 0) (fun m11 =>
  gd (inR v1 16) (
  lt (wI m11 17 v1.toNatClampNeg (-1)) (fun m12 =>
  gd (inR v1 16) (
  lt (wI m12 18 v1.toNatClampNeg 0) (fun m13 =>
  some ((v2, m13))))))))
def f_X4_takeDown (v1 : Int32) (m0 : me) : Option (Int32 × me) :=
  gd (inR v1 16) (
  lt (m0.1 17 v1.toNatClampNeg) (fun w1 =>
  if w1 = (-1) then
    j_X4_takeDown_84 v1 m0
  else
    if (m0.1 1 3) ≤ 0 then
      j_X4_takeDown_84 v1 m0
    else
      gd (nz (m0.1 1 3)) (
      lt ((m0.1 1 3) - ((m0.1 1 1) - (m0.1 1 1) / (m0.1 1 3) * (m0.1 1 3))) (fun w7 =>
      gd (inR v1 16) (
      gd (nz (m0.1 1 3)) (
      lt (((m0.1 18 v1.toNatClampNeg) * w7) / (m0.1 1 3)) (fun w8 =>
      gd (inR w1 4) (
      gd (inR w1 4) (
      lt (wI m0 24 w1.toNatClampNeg ((m0.1 24 w1.toNatClampNeg) + w8)) (fun m9 =>
      gd (inR w1 4) (
      gd (inR w1 4) (
      lt (wI m9 26 w1.toNatClampNeg ((m9.1 26 w1.toNatClampNeg) + w8)) (fun m10 =>
      j_X4_takeDown_84_1 v1 w8 m10)))))))))))))
set_option maxRecDepth 20000 in
set_option maxHeartbeats 4000000 in
theorem lj_X4_takeDown_84 (hfl : g.1.stackTraces = false) (hS : pS 1 28 S) {v1 : Int32} {m0 : me} {r : (Int32 × me)} (h : j_X4_takeDown_84 v1 m0 = some r) (hE : pm_End g mX4_takeDown X 0 0 (qI S r) qF) : pm_G g mX4_takeDown X 84 [some (.ref 1), some (.int v1), some (.int 0), none, none] [] (en S m0) 0 0 := by
  unfold j_X4_takeDown_84 at h
  refine pg_aload_n dX4_takeDown_84 rfl ?_
  refine eg_get dX4_takeDown_85 fa_X4_31 hS sp1 (Nat.le_of_ble_eq_true rfl) (Nat.le_of_ble_eq_true rfl) rfl rfl ?_
  refine eg_get dX4_takeDown_88 fa_X4_90 hS sp11 (Nat.le_of_ble_eq_true rfl) (Nat.le_of_ble_eq_true rfl) rfl rfl ?_
  refine pg_iload_n dX4_takeDown_91 rfl ?_
  refine pg_iconst 0 dX4_takeDown_92 rfl ?_
  obtain ⟨g1, h⟩ := gd_at h
  refine eg_zastJ v1.toNatClampNeg dX4_takeDown_93 hS sp16 (Nat.le_of_ble_eq_true rfl) (Nat.le_of_ble_eq_true rfl) (fun _ _ _ => rfl) (inR_vp g1) rfl rfl (fun m3 e_m3 => ?_)
  replace h := lt_at h e_m3
  refine pg_aload_n dX4_takeDown_94 rfl ?_
  refine eg_get dX4_takeDown_95 fa_X4_31 hS sp1 (Nat.le_of_ble_eq_true rfl) (Nat.le_of_ble_eq_true rfl) rfl rfl ?_
  refine eg_get dX4_takeDown_98 fa_X4_94 hS sp11 (Nat.le_of_ble_eq_true rfl) (Nat.le_of_ble_eq_true rfl) rfl rfl ?_
  refine pg_iload_n dX4_takeDown_101 rfl ?_
  refine pg_iconst (-1) dX4_takeDown_102 rfl ?_
  obtain ⟨g1, h⟩ := gd_at h
  refine eg_iastJ v1.toNatClampNeg dX4_takeDown_103 hS sp17 (Nat.le_of_ble_eq_true rfl) (Nat.le_of_ble_eq_true rfl) (fun _ _ _ => rfl) (inR_vp g1) rfl (fun m4 e_m4 => ?_)
  replace h := lt_at h e_m4
  refine pg_aload_n dX4_takeDown_104 rfl ?_
  refine eg_get dX4_takeDown_105 fa_X4_31 hS sp1 (Nat.le_of_ble_eq_true rfl) (Nat.le_of_ble_eq_true rfl) rfl rfl ?_
  refine eg_get dX4_takeDown_108 fa_X4_98 hS sp11 (Nat.le_of_ble_eq_true rfl) (Nat.le_of_ble_eq_true rfl) rfl rfl ?_
  refine pg_iload_n dX4_takeDown_111 rfl ?_
  refine pg_iconst 0 dX4_takeDown_112 rfl ?_
  obtain ⟨g1, h⟩ := gd_at h
  refine eg_iastJ v1.toNatClampNeg dX4_takeDown_113 hS sp18 (Nat.le_of_ble_eq_true rfl) (Nat.le_of_ble_eq_true rfl) (fun _ _ _ => rfl) (inR_vp g1) rfl (fun m5 e_m5 => ?_)
  replace h := lt_at h e_m5
  refine pg_iload_n dX4_takeDown_114 rfl ?_
  obtain rfl := Option.some.inj h
  exact hE.2.1 _ _ _ _ _ _ .int dX4_takeDown_115 rfl rfl (Nat.zero_le _) (Nat.zero_le _) ⟨rfl, rfl⟩
set_option maxRecDepth 20000 in
set_option maxHeartbeats 4000000 in
theorem lj_X4_takeDown_84_1 (hfl : g.1.stackTraces = false) (hS : pS 1 28 S) {v1 : Int32} {v2 : Int32} {m0 : me} {r : (Int32 × me)} (h : j_X4_takeDown_84_1 v1 v2 m0 = some r) (hE : pm_End g mX4_takeDown X 0 0 (qI S r) qF) : pm_G g mX4_takeDown X 84 [some (.ref 1), some (.int v1), some (.int v2), none, none] [] (en S m0) 0 0 := by
  unfold j_X4_takeDown_84_1 at h
  refine pg_aload_n dX4_takeDown_84 rfl ?_
  refine eg_get dX4_takeDown_85 fa_X4_31 hS sp1 (Nat.le_of_ble_eq_true rfl) (Nat.le_of_ble_eq_true rfl) rfl rfl ?_
  refine eg_get dX4_takeDown_88 fa_X4_90 hS sp11 (Nat.le_of_ble_eq_true rfl) (Nat.le_of_ble_eq_true rfl) rfl rfl ?_
  refine pg_iload_n dX4_takeDown_91 rfl ?_
  refine pg_iconst 0 dX4_takeDown_92 rfl ?_
  obtain ⟨g1, h⟩ := gd_at h
  refine eg_zastJ v1.toNatClampNeg dX4_takeDown_93 hS sp16 (Nat.le_of_ble_eq_true rfl) (Nat.le_of_ble_eq_true rfl) (fun _ _ _ => rfl) (inR_vp g1) rfl rfl (fun m11 e_m11 => ?_)
  replace h := lt_at h e_m11
  refine pg_aload_n dX4_takeDown_94 rfl ?_
  refine eg_get dX4_takeDown_95 fa_X4_31 hS sp1 (Nat.le_of_ble_eq_true rfl) (Nat.le_of_ble_eq_true rfl) rfl rfl ?_
  refine eg_get dX4_takeDown_98 fa_X4_94 hS sp11 (Nat.le_of_ble_eq_true rfl) (Nat.le_of_ble_eq_true rfl) rfl rfl ?_
  refine pg_iload_n dX4_takeDown_101 rfl ?_
  refine pg_iconst (-1) dX4_takeDown_102 rfl ?_
  obtain ⟨g1, h⟩ := gd_at h
  refine eg_iastJ v1.toNatClampNeg dX4_takeDown_103 hS sp17 (Nat.le_of_ble_eq_true rfl) (Nat.le_of_ble_eq_true rfl) (fun _ _ _ => rfl) (inR_vp g1) rfl (fun m12 e_m12 => ?_)
  replace h := lt_at h e_m12
  refine pg_aload_n dX4_takeDown_104 rfl ?_
  refine eg_get dX4_takeDown_105 fa_X4_31 hS sp1 (Nat.le_of_ble_eq_true rfl) (Nat.le_of_ble_eq_true rfl) rfl rfl ?_
  refine eg_get dX4_takeDown_108 fa_X4_98 hS sp11 (Nat.le_of_ble_eq_true rfl) (Nat.le_of_ble_eq_true rfl) rfl rfl ?_
  refine pg_iload_n dX4_takeDown_111 rfl ?_
  refine pg_iconst 0 dX4_takeDown_112 rfl ?_
  obtain ⟨g1, h⟩ := gd_at h
  refine eg_iastJ v1.toNatClampNeg dX4_takeDown_113 hS sp18 (Nat.le_of_ble_eq_true rfl) (Nat.le_of_ble_eq_true rfl) (fun _ _ _ => rfl) (inR_vp g1) rfl (fun m13 e_m13 => ?_)
  replace h := lt_at h e_m13
  refine pg_iload_n dX4_takeDown_114 rfl ?_
  obtain rfl := Option.some.inj h
  exact hE.2.1 _ _ _ _ _ _ .int dX4_takeDown_115 rfl rfl (Nat.zero_le _) (Nat.zero_le _) ⟨rfl, rfl⟩
set_option maxRecDepth 20000 in
set_option maxHeartbeats 4000000 in
theorem ct_X4_takeDown (hfl : g.1.stackTraces = false) (hS : pS 1 28 S) {v1 : Int32} {m0 : me} {x : (Int32 × me)} (h : f_X4_takeDown v1 m0 = some x) : pm_Ct g mX4_takeDown [.ref 1, .int v1] (en S m0) 0 0 (qI S x) qF := by
  refine pm_of (by decide +kernel) rfl hfl (Nat.le_of_ble_eq_true rfl) (fun X hE => ?_)
  show pm_G g mX4_takeDown X 0 [some (.ref 1), some (.int v1), none, none, none] [] (en S m0) 0 0
  unfold f_X4_takeDown at h
  refine pg_iconst 0 dX4_takeDown_0 rfl ?_
  refine eg_istore_n [some (.ref 1), some (.int v1), some (.int 0), none, none] 0 dX4_takeDown_1 rfl (Nat.le_of_ble_eq_true rfl) rfl ?_
  refine pg_aload_n dX4_takeDown_2 rfl ?_
  refine eg_get dX4_takeDown_3 fa_X4_31 hS sp1 (Nat.le_of_ble_eq_true rfl) (Nat.le_of_ble_eq_true rfl) rfl rfl ?_
  refine eg_get dX4_takeDown_6 fa_X4_94 hS sp11 (Nat.le_of_ble_eq_true rfl) (Nat.le_of_ble_eq_true rfl) rfl rfl ?_
  refine pg_iload_n dX4_takeDown_9 rfl ?_
  obtain ⟨g1, h⟩ := gd_at h
  refine eg_ialdJ v1.toNatClampNeg dX4_takeDown_10 hS sp17 (Nat.le_of_ble_eq_true rfl) (Nat.le_of_ble_eq_true rfl) rfl (inR_vp g1) rfl ?_
  obtain ⟨w1, e_w1⟩ : ∃ z : Int32, z = m0.1 17 v1.toNatClampNeg := ⟨_, rfl⟩
  replace h := lt_at h e_w1
  refine eg_istore_n [some (.ref 1), some (.int v1), some (.int 0), some (.int w1), none] w1 dX4_takeDown_11 e_w1 (Nat.le_of_ble_eq_true rfl) rfl ?_
  refine pg_iload_n dX4_takeDown_12 rfl ?_
  refine pg_iconst (-1) dX4_takeDown_13 rfl ?_
  refine pg_icmp_eq 84 dX4_takeDown_14 (by decide) (fun c2 => ?_) (fun c2 => ?_)
  · rw [if_pos c2] at h
    refine eg_forget [some (.ref 1), some (.int v1), some (.int 0), none, none] (show pm_sub _ _ from ⟨rfl, ⟨rfl, ⟨rfl, trivial⟩⟩⟩) ?_
    exact lj_X4_takeDown_84 hfl hS h hE
  · rw [if_neg c2] at h
    refine pg_aload_n dX4_takeDown_17 rfl ?_
    refine eg_get dX4_takeDown_18 fa_X4_15 hS sp1 (Nat.le_of_ble_eq_true rfl) (Nat.le_of_ble_eq_true rfl) rfl rfl ?_
    refine pg_if_le 84 dX4_takeDown_21 (by decide) (fun c6 => ?_) (fun c6 => ?_)
    · rw [if_pos c6] at h
      refine eg_forget [some (.ref 1), some (.int v1), some (.int 0), none, none] (show pm_sub _ _ from ⟨rfl, ⟨rfl, ⟨rfl, trivial⟩⟩⟩) ?_
      exact lj_X4_takeDown_84 hfl hS h hE
    · rw [if_neg c6] at h
      refine pg_aload_n dX4_takeDown_24 rfl ?_
      refine eg_get dX4_takeDown_25 fa_X4_15 hS sp1 (Nat.le_of_ble_eq_true rfl) (Nat.le_of_ble_eq_true rfl) rfl rfl ?_
      refine pg_aload_n dX4_takeDown_28 rfl ?_
      refine eg_get dX4_takeDown_29 fa_X4_45 hS sp1 (Nat.le_of_ble_eq_true rfl) (Nat.le_of_ble_eq_true rfl) rfl rfl ?_
      refine pg_aload_n dX4_takeDown_32 rfl ?_
      refine eg_get dX4_takeDown_33 fa_X4_15 hS sp1 (Nat.le_of_ble_eq_true rfl) (Nat.le_of_ble_eq_true rfl) rfl rfl ?_
      obtain ⟨g1, h⟩ := gd_at h
      refine pg_irem dX4_takeDown_36 (nz_ne g1) ?_
      refine pg_isub dX4_takeDown_37 ?_
      obtain ⟨w7, e_w7⟩ : ∃ z : Int32, z = (m0.1 1 3) - ((m0.1 1 1) - (m0.1 1 1) / (m0.1 1 3) * (m0.1 1 3)) := ⟨_, rfl⟩
      replace h := lt_at h e_w7
      refine eg_istore [some (.ref 1), some (.int v1), some (.int 0), some (.int w1), some (.int w7)] w7 dX4_takeDown_38 e_w7 (Nat.le_of_ble_eq_true rfl) rfl ?_
      refine pg_aload_n dX4_takeDown_40 rfl ?_
      refine eg_get dX4_takeDown_41 fa_X4_31 hS sp1 (Nat.le_of_ble_eq_true rfl) (Nat.le_of_ble_eq_true rfl) rfl rfl ?_
      refine eg_get dX4_takeDown_44 fa_X4_98 hS sp11 (Nat.le_of_ble_eq_true rfl) (Nat.le_of_ble_eq_true rfl) rfl rfl ?_
      refine pg_iload_n dX4_takeDown_47 rfl ?_
      obtain ⟨g1, h⟩ := gd_at h
      refine eg_ialdJ v1.toNatClampNeg dX4_takeDown_48 hS sp18 (Nat.le_of_ble_eq_true rfl) (Nat.le_of_ble_eq_true rfl) rfl (inR_vp g1) rfl ?_
      refine pg_iload dX4_takeDown_49 rfl ?_
      refine pg_imul dX4_takeDown_51 ?_
      refine pg_aload_n dX4_takeDown_52 rfl ?_
      refine eg_get dX4_takeDown_53 fa_X4_15 hS sp1 (Nat.le_of_ble_eq_true rfl) (Nat.le_of_ble_eq_true rfl) rfl rfl ?_
      obtain ⟨g1, h⟩ := gd_at h
      refine pg_idiv dX4_takeDown_56 (nz_ne g1) ?_
      obtain ⟨w8, e_w8⟩ : ∃ z : Int32, z = ((m0.1 18 v1.toNatClampNeg) * w7) / (m0.1 1 3) := ⟨_, rfl⟩
      replace h := lt_at h e_w8
      refine eg_istore_n [some (.ref 1), some (.int v1), some (.int w8), some (.int w1), some (.int w7)] w8 dX4_takeDown_57 e_w8 (Nat.le_of_ble_eq_true rfl) rfl ?_
      refine pg_aload_n dX4_takeDown_58 rfl ?_
      refine eg_get dX4_takeDown_59 fa_X4_38 hS sp1 (Nat.le_of_ble_eq_true rfl) (Nat.le_of_ble_eq_true rfl) rfl rfl ?_
      refine eg_get dX4_takeDown_62 fa_X4_101 hS sp23 (Nat.le_of_ble_eq_true rfl) (Nat.le_of_ble_eq_true rfl) rfl rfl ?_
      refine pg_iload_n dX4_takeDown_65 rfl ?_
      refine pg_dup2 dX4_takeDown_66 rfl rfl ?_
      obtain ⟨g1, h⟩ := gd_at h
      refine eg_ialdJ w1.toNatClampNeg dX4_takeDown_67 hS sp24 (Nat.le_of_ble_eq_true rfl) (Nat.le_of_ble_eq_true rfl) rfl (inR_vp g1) rfl ?_
      refine pg_iload_n dX4_takeDown_68 rfl ?_
      refine pg_iadd dX4_takeDown_69 ?_
      obtain ⟨g1, h⟩ := gd_at h
      refine eg_iastJ w1.toNatClampNeg dX4_takeDown_70 hS sp24 (Nat.le_of_ble_eq_true rfl) (Nat.le_of_ble_eq_true rfl) (fun _ _ _ => rfl) (inR_vp g1) rfl (fun m9 e_m9 => ?_)
      replace h := lt_at h e_m9
      refine pg_aload_n dX4_takeDown_71 rfl ?_
      refine eg_get dX4_takeDown_72 fa_X4_38 hS sp1 (Nat.le_of_ble_eq_true rfl) (Nat.le_of_ble_eq_true rfl) rfl rfl ?_
      refine eg_get dX4_takeDown_75 fa_X4_104 hS sp23 (Nat.le_of_ble_eq_true rfl) (Nat.le_of_ble_eq_true rfl) rfl rfl ?_
      refine pg_iload_n dX4_takeDown_78 rfl ?_
      refine pg_dup2 dX4_takeDown_79 rfl rfl ?_
      obtain ⟨g1, h⟩ := gd_at h
      refine eg_ialdJ w1.toNatClampNeg dX4_takeDown_80 hS sp26 (Nat.le_of_ble_eq_true rfl) (Nat.le_of_ble_eq_true rfl) rfl (inR_vp g1) rfl ?_
      refine pg_iload_n dX4_takeDown_81 rfl ?_
      refine pg_iadd dX4_takeDown_82 ?_
      obtain ⟨g1, h⟩ := gd_at h
      refine eg_iastJ w1.toNatClampNeg dX4_takeDown_83 hS sp26 (Nat.le_of_ble_eq_true rfl) (Nat.le_of_ble_eq_true rfl) (fun _ _ _ => rfl) (inR_vp g1) rfl (fun m10 e_m10 => ?_)
      replace h := lt_at h e_m10
      refine eg_forget [some (.ref 1), some (.int v1), some (.int w8), none, none] (show pm_sub _ _ from ⟨rfl, ⟨rfl, ⟨rfl, trivial⟩⟩⟩) ?_
      exact lj_X4_takeDown_84_1 hfl hS h hE
def b_X3_bringUp_11 (v1 : Int32) (s : Int32 × Int32 × me) : Option ((Int32 × Int32 × me) ⊕ (Int32 × Int32 × me)) :=
  if (s.2.2.1 11 0) ≤ s.2.1 then
    some (.inr (s.1, s.2.1, s.2.2))
  else
    gd (inR s.2.1 16) (
    if (s.2.2.1 16 s.2.1.toNatClampNeg) = 0 then
      lt (s.2.1 + 1) (fun w4 =>
      some (.inl (s.1, w4, s.2.2)))
    else
      lt (s.1 + 1) (fun w5 =>
      lt (s.2.1 + 1) (fun w6 =>
      some (.inl (w5, w6, s.2.2)))))
def f_X3_bringUp (v1 : Int32) (m0 : me) : Option (Int32 × me) :=
  gd (inR v1 16) (
  lt (wI m0 16 v1.toNatClampNeg 1) (fun m1 =>
  bd (lo (b_X3_bringUp_11 v1) 2048 (0, 0, m1)) (fun s7 =>
  some ((s7.1, s7.2.2)))))
set_option maxRecDepth 20000 in
set_option maxHeartbeats 4000000 in
theorem lb_X3_bringUp_11 (hfl : g.1.stackTraces = false) (hS : pS 1 28 S) {v1 : Int32} {s : Int32 × Int32 × me} {r : (Int32 × Int32 × me) ⊕ (Int32 × Int32 × me)} (h : b_X3_bringUp_11 v1 s = some r) (hN : ∀ s', r = .inl s' → (fun z9 : Int32 × Int32 × me => pm_G g mX3_bringUp X 11 [some (.ref 11), some (.int v1), some (.int z9.1), some (.int z9.2.1)] [] (en S z9.2.2) 0 0) s') (hT : ∀ t, r = .inr t → (fun z9 : Int32 × Int32 × me => pm_G g mX3_bringUp X 37 [some (.ref 11), some (.int v1), some (.int z9.1), some (.int z9.2.1)] [] (en S z9.2.2) 0 0) t) : (fun z9 : Int32 × Int32 × me => pm_G g mX3_bringUp X 11 [some (.ref 11), some (.int v1), some (.int z9.1), some (.int z9.2.1)] [] (en S z9.2.2) 0 0) s := by
  unfold b_X3_bringUp_11 at h
  show pm_G g mX3_bringUp X 11 [some (.ref 11), some (.int v1), some (.int s.1), some (.int s.2.1)] [] (en S s.2.2) 0 0
  refine pg_iload_n dX3_bringUp_11 rfl ?_
  refine pg_aload_n dX3_bringUp_12 rfl ?_
  refine eg_get dX3_bringUp_13 fa_X3_46 hS sp11 (Nat.le_of_ble_eq_true rfl) (Nat.le_of_ble_eq_true rfl) rfl rfl ?_
  refine pg_icmp_ge 37 dX3_bringUp_16 (by decide) (fun c2 => ?_) (fun c2 => ?_)
  · rw [if_pos c2] at h
    obtain rfl := Option.some.inj h
    exact hT _ rfl
  · rw [if_neg c2] at h
    refine pg_aload_n dX3_bringUp_19 rfl ?_
    refine eg_get dX3_bringUp_20 fa_X3_24 hS sp11 (Nat.le_of_ble_eq_true rfl) (Nat.le_of_ble_eq_true rfl) rfl rfl ?_
    refine pg_iload_n dX3_bringUp_23 rfl ?_
    obtain ⟨g1, h⟩ := gd_at h
    refine eg_zaldJ s.2.1.toNatClampNeg dX3_bringUp_24 hS sp16 (Nat.le_of_ble_eq_true rfl) (Nat.le_of_ble_eq_true rfl) rfl (inR_vp g1) rfl ?_
    refine pg_if_eq 31 dX3_bringUp_25 (by decide) (fun c3 => ?_) (fun c3 => ?_)
    · rw [if_pos c3] at h
      obtain ⟨w4, e_w4⟩ : ∃ z : Int32, z = s.2.1 + 1 := ⟨_, rfl⟩
      replace h := lt_at h e_w4
      refine eg_iinc [some (.ref 11), some (.int v1), some (.int s.1), some (.int w4)] w4 1 dX3_bringUp_31 rfl rfl e_w4 rfl ?_
      refine pg_goto 11 dX3_bringUp_34 (by decide) ?_
      obtain rfl := Option.some.inj h
      exact hN _ rfl
    · rw [if_neg c3] at h
      obtain ⟨w5, e_w5⟩ : ∃ z : Int32, z = s.1 + 1 := ⟨_, rfl⟩
      replace h := lt_at h e_w5
      refine eg_iinc [some (.ref 11), some (.int v1), some (.int w5), some (.int s.2.1)] w5 1 dX3_bringUp_28 rfl rfl e_w5 rfl ?_
      obtain ⟨w6, e_w6⟩ : ∃ z : Int32, z = s.2.1 + 1 := ⟨_, rfl⟩
      replace h := lt_at h e_w6
      refine eg_iinc [some (.ref 11), some (.int v1), some (.int w5), some (.int w6)] w6 1 dX3_bringUp_31 rfl rfl e_w6 rfl ?_
      refine pg_goto 11 dX3_bringUp_34 (by decide) ?_
      obtain rfl := Option.some.inj h
      exact hN _ rfl
set_option maxRecDepth 20000 in
set_option maxHeartbeats 4000000 in
theorem ct_X3_bringUp (hfl : g.1.stackTraces = false) (hS : pS 1 28 S) {v1 : Int32} {m0 : me} {x : (Int32 × me)} (h : f_X3_bringUp v1 m0 = some x) : pm_Ct g mX3_bringUp [.ref 11, .int v1] (en S m0) 0 0 (qI S x) qF := by
  refine pm_of (by decide +kernel) rfl hfl (Nat.le_of_ble_eq_true rfl) (fun X hE => ?_)
  show pm_G g mX3_bringUp X 0 [some (.ref 11), some (.int v1), none, none] [] (en S m0) 0 0
  unfold f_X3_bringUp at h
  refine pg_aload_n dX3_bringUp_0 rfl ?_
  refine eg_get dX3_bringUp_1 fa_X3_24 hS sp11 (Nat.le_of_ble_eq_true rfl) (Nat.le_of_ble_eq_true rfl) rfl rfl ?_
  refine pg_iload_n dX3_bringUp_4 rfl ?_
  refine pg_iconst 1 dX3_bringUp_5 rfl ?_
  obtain ⟨g1, h⟩ := gd_at h
  refine eg_zastJ v1.toNatClampNeg dX3_bringUp_6 hS sp16 (Nat.le_of_ble_eq_true rfl) (Nat.le_of_ble_eq_true rfl) (fun _ _ _ => rfl) (inR_vp g1) rfl rfl (fun m1 e_m1 => ?_)
  replace h := lt_at h e_m1
  refine pg_iconst 0 dX3_bringUp_7 rfl ?_
  refine eg_istore_n [some (.ref 11), some (.int v1), some (.int 0), none] 0 dX3_bringUp_8 rfl (Nat.le_of_ble_eq_true rfl) rfl ?_
  refine pg_iconst 0 dX3_bringUp_9 rfl ?_
  refine eg_istore_n [some (.ref 11), some (.int v1), some (.int 0), some (.int 0)] 0 dX3_bringUp_10 rfl (Nat.le_of_ble_eq_true rfl) rfl ?_
  obtain ⟨s7, h_s7, h⟩ := bd_at h
  refine lo_at (b := b_X3_bringUp_11 v1) (G := (fun z9 : Int32 × Int32 × me => pm_G g mX3_bringUp X 11 [some (.ref 11), some (.int v1), some (.int z9.1), some (.int z9.2.1)] [] (en S z9.2.2) 0 0)) (T := (fun z9 : Int32 × Int32 × me => pm_G g mX3_bringUp X 37 [some (.ref 11), some (.int v1), some (.int z9.1), some (.int z9.2.1)] [] (en S z9.2.2) 0 0)) (fun q9 r9 h1 h2 h3 => lb_X3_bringUp_11 hfl hS h1 h2 h3) 2048 (0, 0, m1) s7 h_s7 ?_
  show pm_G g mX3_bringUp X 37 [some (.ref 11), some (.int v1), some (.int s7.1), some (.int s7.2.1)] [] (en S s7.2.2) 0 0
  refine pg_iload_n dX3_bringUp_37 rfl ?_
  obtain rfl := Option.some.inj h
  exact hE.2.1 _ _ _ _ _ _ .int dX3_bringUp_38 rfl rfl (Nat.zero_le _) (Nat.zero_le _) ⟨rfl, rfl⟩
def f_X1_idOf (v1 : Int32) (m0 : me) : Option (Int32 × me) :=
  gd (inR v1 8) (
  some (((10 * (m0.1 3 v1.toNatClampNeg)) + v1, m0)))
set_option maxRecDepth 20000 in
set_option maxHeartbeats 4000000 in
theorem ct_X1_idOf (hfl : g.1.stackTraces = false) (hS : pS 1 28 S) {v1 : Int32} {m0 : me} {x : (Int32 × me)} (h : f_X1_idOf v1 m0 = some x) : pm_Ct g mX1_idOf [.ref 2, .int v1] (en S m0) 0 0 (qI S x) qF := by
  refine pm_of (by decide +kernel) rfl hfl (Nat.le_of_ble_eq_true rfl) (fun X hE => ?_)
  show pm_G g mX1_idOf X 0 [some (.ref 2), some (.int v1)] [] (en S m0) 0 0
  unfold f_X1_idOf at h
  refine pg_bipush 10 dX1_idOf_0 rfl ?_
  refine pg_aload_n dX1_idOf_2 rfl ?_
  refine eg_get dX1_idOf_3 fa_X1_9 hS sp2 (Nat.le_of_ble_eq_true rfl) (Nat.le_of_ble_eq_true rfl) rfl rfl ?_
  refine pg_iload_n dX1_idOf_6 rfl ?_
  obtain ⟨g1, h⟩ := gd_at h
  refine eg_ialdJ v1.toNatClampNeg dX1_idOf_7 hS sp3 (Nat.le_of_ble_eq_true rfl) (Nat.le_of_ble_eq_true rfl) rfl (inR_vp g1) rfl ?_
  refine pg_imul dX1_idOf_8 ?_
  refine pg_iload_n dX1_idOf_9 rfl ?_
  refine pg_iadd dX1_idOf_10 ?_
  obtain rfl := Option.some.inj h
  exact hE.2.1 _ _ _ _ _ _ .int dX1_idOf_11 rfl rfl (Nat.zero_le _) (Nat.zero_le _) ⟨rfl, rfl⟩
def f_X1_startVector (v1 : Int32) (m0 : me) : Option me :=
  bd (f_X1_idOf v1 m0) (fun r1 =>
  gd (inR v1 8) (
  lt (wI r1.2 4 v1.toNatClampNeg r1.1) (fun m2 =>
  gd (inR v1 8) (
  lt (wI m2 5 v1.toNatClampNeg 0) (fun m3 =>
  gd (inR v1 8) (
  lt (wI m3 6 v1.toNatClampNeg 0) (fun m4 =>
  gd (inR v1 8) (
  lt (wI m4 7 v1.toNatClampNeg (-1)) (fun m5 =>
  some (m5))))))))))
set_option maxRecDepth 20000 in
set_option maxHeartbeats 4000000 in
theorem ct_X1_startVector (hfl : g.1.stackTraces = false) (hS : pS 1 28 S) {v1 : Int32} {m0 : me} {x : me} (h : f_X1_startVector v1 m0 = some x) : pm_Ct g mX1_startVector [.ref 2, .int v1] (en S m0) 0 0 (qV S x) qF := by
  refine pm_of (by decide +kernel) rfl hfl (Nat.le_of_ble_eq_true rfl) (fun X hE => ?_)
  show pm_G g mX1_startVector X 0 [some (.ref 2), some (.int v1)] [] (en S m0) 0 0
  unfold f_X1_startVector at h
  refine pg_aload_n dX1_startVector_0 rfl ?_
  refine eg_get dX1_startVector_1 fa_X1_15 hS sp2 (Nat.le_of_ble_eq_true rfl) (Nat.le_of_ble_eq_true rfl) rfl rfl ?_
  refine pg_iload_n dX1_startVector_4 rfl ?_
  refine pg_aload_n dX1_startVector_5 rfl ?_
  refine pg_iload_n dX1_startVector_6 rfl ?_
  obtain ⟨r1, h_r1, h⟩ := bd_at h
  refine eg_cVi (C := mX1_idOf) (as := [(.int v1)]) dX1_startVector_7 mw148 cv_X1_idOf hS sp2 (Nat.le_of_ble_eq_true rfl) (Nat.le_of_ble_eq_true rfl) rfl rfl rfl (Nat.le_of_ble_eq_true rfl) rfl ⟨(Nat.le_of_ble_eq_true rfl), (Nat.le_of_ble_eq_true rfl)⟩ (ct_X1_idOf hfl (hS.sub (Nat.le_of_ble_eq_true rfl) (Nat.le_of_ble_eq_true rfl)) h_r1) ?_
  obtain ⟨g1, h⟩ := gd_at h
  refine eg_iastJ v1.toNatClampNeg dX1_startVector_10 hS sp4 (Nat.le_of_ble_eq_true rfl) (Nat.le_of_ble_eq_true rfl) (fun _ _ _ => rfl) (inR_vp g1) rfl (fun m2 e_m2 => ?_)
  replace h := lt_at h e_m2
  refine pg_aload_n dX1_startVector_11 rfl ?_
  refine eg_get dX1_startVector_12 fa_X1_18 hS sp2 (Nat.le_of_ble_eq_true rfl) (Nat.le_of_ble_eq_true rfl) rfl rfl ?_
  refine pg_iload_n dX1_startVector_15 rfl ?_
  refine pg_iconst 0 dX1_startVector_16 rfl ?_
  obtain ⟨g1, h⟩ := gd_at h
  refine eg_iastJ v1.toNatClampNeg dX1_startVector_17 hS sp5 (Nat.le_of_ble_eq_true rfl) (Nat.le_of_ble_eq_true rfl) (fun _ _ _ => rfl) (inR_vp g1) rfl (fun m3 e_m3 => ?_)
  replace h := lt_at h e_m3
  refine pg_aload_n dX1_startVector_18 rfl ?_
  refine eg_get dX1_startVector_19 fa_X1_21 hS sp2 (Nat.le_of_ble_eq_true rfl) (Nat.le_of_ble_eq_true rfl) rfl rfl ?_
  refine pg_iload_n dX1_startVector_22 rfl ?_
  refine pg_iconst 0 dX1_startVector_23 rfl ?_
  obtain ⟨g1, h⟩ := gd_at h
  refine eg_iastJ v1.toNatClampNeg dX1_startVector_24 hS sp6 (Nat.le_of_ble_eq_true rfl) (Nat.le_of_ble_eq_true rfl) (fun _ _ _ => rfl) (inR_vp g1) rfl (fun m4 e_m4 => ?_)
  replace h := lt_at h e_m4
  refine pg_aload_n dX1_startVector_25 rfl ?_
  refine eg_get dX1_startVector_26 fa_X1_24 hS sp2 (Nat.le_of_ble_eq_true rfl) (Nat.le_of_ble_eq_true rfl) rfl rfl ?_
  refine pg_iload_n dX1_startVector_29 rfl ?_
  refine pg_iconst (-1) dX1_startVector_30 rfl ?_
  obtain ⟨g1, h⟩ := gd_at h
  refine eg_iastJ v1.toNatClampNeg dX1_startVector_31 hS sp7 (Nat.le_of_ble_eq_true rfl) (Nat.le_of_ble_eq_true rfl) (fun _ _ _ => rfl) (inR_vp g1) rfl (fun m5 e_m5 => ?_)
  replace h := lt_at h e_m5
  obtain rfl := Option.some.inj h
  exact hE.2.2.1 _ _ _ _ _ dX1_startVector_32 rfl (Nat.zero_le _) (Nat.zero_le _) ⟨rfl, rfl⟩
def f_X1_changePriority (v1 : Int32) (v2 : Int32) (m0 : me) : Option (Int32 × me) :=
  gd (inR v1 8) (
  lt (m0.1 3 v1.toNatClampNeg) (fun w1 =>
  gd (inR v1 8) (
  lt (wI m0 3 v1.toNatClampNeg v2) (fun m2 =>
  bd (f_X1_startVector v1 m2) (fun r3 =>
  some ((w1, r3)))))))
set_option maxRecDepth 20000 in
set_option maxHeartbeats 4000000 in
theorem ct_X1_changePriority (hfl : g.1.stackTraces = false) (hS : pS 1 28 S) {v1 : Int32} {v2 : Int32} {m0 : me} {x : (Int32 × me)} (h : f_X1_changePriority v1 v2 m0 = some x) : pm_Ct g mX1_changePriority [.ref 2, .int v1, .int v2] (en S m0) 0 0 (qI S x) qF := by
  refine pm_of (by decide +kernel) rfl hfl (Nat.le_of_ble_eq_true rfl) (fun X hE => ?_)
  show pm_G g mX1_changePriority X 0 [some (.ref 2), some (.int v1), some (.int v2), none] [] (en S m0) 0 0
  unfold f_X1_changePriority at h
  refine pg_aload_n dX1_changePriority_0 rfl ?_
  refine eg_get dX1_changePriority_1 fa_X1_9 hS sp2 (Nat.le_of_ble_eq_true rfl) (Nat.le_of_ble_eq_true rfl) rfl rfl ?_
  refine pg_iload_n dX1_changePriority_4 rfl ?_
  obtain ⟨g1, h⟩ := gd_at h
  refine eg_ialdJ v1.toNatClampNeg dX1_changePriority_5 hS sp3 (Nat.le_of_ble_eq_true rfl) (Nat.le_of_ble_eq_true rfl) rfl (inR_vp g1) rfl ?_
  obtain ⟨w1, e_w1⟩ : ∃ z : Int32, z = m0.1 3 v1.toNatClampNeg := ⟨_, rfl⟩
  replace h := lt_at h e_w1
  refine eg_istore_n [some (.ref 2), some (.int v1), some (.int v2), some (.int w1)] w1 dX1_changePriority_6 e_w1 (Nat.le_of_ble_eq_true rfl) rfl ?_
  refine pg_aload_n dX1_changePriority_7 rfl ?_
  refine eg_get dX1_changePriority_8 fa_X1_9 hS sp2 (Nat.le_of_ble_eq_true rfl) (Nat.le_of_ble_eq_true rfl) rfl rfl ?_
  refine pg_iload_n dX1_changePriority_11 rfl ?_
  refine pg_iload_n dX1_changePriority_12 rfl ?_
  obtain ⟨g1, h⟩ := gd_at h
  refine eg_iastJ v1.toNatClampNeg dX1_changePriority_13 hS sp3 (Nat.le_of_ble_eq_true rfl) (Nat.le_of_ble_eq_true rfl) (fun _ _ _ => rfl) (inR_vp g1) rfl (fun m2 e_m2 => ?_)
  replace h := lt_at h e_m2
  refine pg_aload_n dX1_changePriority_14 rfl ?_
  refine pg_iload_n dX1_changePriority_15 rfl ?_
  obtain ⟨r3, h_r3, h⟩ := bd_at h
  refine eg_cVv (C := mX1_startVector) (as := [(.int v1)]) dX1_changePriority_16 mw138 cv_X1_startVector hS sp2 (Nat.le_of_ble_eq_true rfl) (Nat.le_of_ble_eq_true rfl) rfl rfl rfl (Nat.le_of_ble_eq_true rfl) rfl ⟨(Nat.le_of_ble_eq_true rfl), (Nat.le_of_ble_eq_true rfl)⟩ (ct_X1_startVector hfl (hS.sub (Nat.le_of_ble_eq_true rfl) (Nat.le_of_ble_eq_true rfl)) h_r3) ?_
  refine pg_iload_n dX1_changePriority_19 rfl ?_
  obtain rfl := Option.some.inj h
  exact hE.2.1 _ _ _ _ _ _ .int dX1_changePriority_20 rfl rfl (Nat.zero_le _) (Nat.zero_le _) ⟨rfl, rfl⟩
def f_X1_placeHost (v1 : Int32) (v2 : Int32) (m0 : me) : Option (Int32 × me) :=
  gd (inR v1 8) (
  lt (m0.1 8 v1.toNatClampNeg) (fun w1 =>
  gd (inR v1 8) (
  lt (wI m0 8 v1.toNatClampNeg v2) (fun m2 =>
  some ((w1, m2))))))
set_option maxRecDepth 20000 in
set_option maxHeartbeats 4000000 in
theorem ct_X1_placeHost (hfl : g.1.stackTraces = false) (hS : pS 1 28 S) {v1 : Int32} {v2 : Int32} {m0 : me} {x : (Int32 × me)} (h : f_X1_placeHost v1 v2 m0 = some x) : pm_Ct g mX1_placeHost [.ref 2, .int v1, .int v2] (en S m0) 0 0 (qI S x) qF := by
  refine pm_of (by decide +kernel) rfl hfl (Nat.le_of_ble_eq_true rfl) (fun X hE => ?_)
  show pm_G g mX1_placeHost X 0 [some (.ref 2), some (.int v1), some (.int v2), none] [] (en S m0) 0 0
  unfold f_X1_placeHost at h
  refine pg_aload_n dX1_placeHost_0 rfl ?_
  refine eg_get dX1_placeHost_1 fa_X1_27 hS sp2 (Nat.le_of_ble_eq_true rfl) (Nat.le_of_ble_eq_true rfl) rfl rfl ?_
  refine pg_iload_n dX1_placeHost_4 rfl ?_
  obtain ⟨g1, h⟩ := gd_at h
  refine eg_ialdJ v1.toNatClampNeg dX1_placeHost_5 hS sp8 (Nat.le_of_ble_eq_true rfl) (Nat.le_of_ble_eq_true rfl) rfl (inR_vp g1) rfl ?_
  obtain ⟨w1, e_w1⟩ : ∃ z : Int32, z = m0.1 8 v1.toNatClampNeg := ⟨_, rfl⟩
  replace h := lt_at h e_w1
  refine eg_istore_n [some (.ref 2), some (.int v1), some (.int v2), some (.int w1)] w1 dX1_placeHost_6 e_w1 (Nat.le_of_ble_eq_true rfl) rfl ?_
  refine pg_aload_n dX1_placeHost_7 rfl ?_
  refine eg_get dX1_placeHost_8 fa_X1_27 hS sp2 (Nat.le_of_ble_eq_true rfl) (Nat.le_of_ble_eq_true rfl) rfl rfl ?_
  refine pg_iload_n dX1_placeHost_11 rfl ?_
  refine pg_iload_n dX1_placeHost_12 rfl ?_
  obtain ⟨g1, h⟩ := gd_at h
  refine eg_iastJ v1.toNatClampNeg dX1_placeHost_13 hS sp8 (Nat.le_of_ble_eq_true rfl) (Nat.le_of_ble_eq_true rfl) (fun _ _ _ => rfl) (inR_vp g1) rfl (fun m2 e_m2 => ?_)
  replace h := lt_at h e_m2
  refine pg_iload_n dX1_placeHost_14 rfl ?_
  obtain rfl := Option.some.inj h
  exact hE.2.1 _ _ _ _ _ _ .int dX1_placeHost_15 rfl rfl (Nat.zero_le _) (Nat.zero_le _) ⟨rfl, rfl⟩
end
