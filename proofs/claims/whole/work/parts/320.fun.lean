section
variable {g : pm_Gl} {X : pm_X} {S : List sF}
def j_X11_port_58 (v3 : Int32) (u0 : Int32) (m0 : me) : Option ((Int32 ⊕ Nat) × me) :=
  if v3 = 0 then
    gd (inR u0 32) (
    some ((.inl (m0.1 20 u0.toNatClampNeg), m0)))
  else
    if v3 = 1 then
      gd (inR u0 32) (
      some ((.inl (m0.1 21 u0.toNatClampNeg), m0)))
    else
      gd (inR u0 32) (
      some ((.inl (m0.1 22 u0.toNatClampNeg), m0)))
def f_X11_port (v1 : Int32) (v2 : Int32) (v3 : Int32) (m0 : me) : Option ((Int32 ⊕ Nat) × me) :=
  bd (f_X3_has v1 m0) (fun r1 =>
  if r1.1 = 0 then
    some ((.inr 0, r1.2))
  else
    bd (f_X11_isOutside v3 0 2 r1.2) (fun r3 =>
    if r3.1 = 0 then
      if v2 = 0 then
        j_X11_port_58 v3 (2 * v1) r3.2
      else
        j_X11_port_58 v3 ((2 * v1) + 1) r3.2
    else
      some ((.inr 1, r3.2))))
set_option maxRecDepth 20000 in
set_option maxHeartbeats 4000000 in
theorem lj_X11_port_58 (hfl : g.1.stackTraces = false) (hS : pS 0 138 S) {v3 : Int32} {u0 : Int32} {m0 : me} {r : ((Int32 ⊕ Nat) × me)} (h : j_X11_port_58 v3 u0 m0 = some r) (hE : pm_End g mX11_port X (kC r) (nC r) (qTI S r) (qX S r)) : pm_G g mX11_port X 58 [some (.ref 0), none, none, some (.int v3), none] [(.int u0)] (en S m0) 0 0 := by
  unfold j_X11_port_58 at h
  refine eg_istore [some (.ref 0), none, none, some (.int v3), some (.int u0)] u0 dX11_port_58 rfl (Nat.le_of_ble_eq_true rfl) rfl ?_
  refine pg_iload_n dX11_port_60 rfl ?_
  refine pg_if_ne 78 dX11_port_61 (by decide) (fun c6 => ?_) (fun c6 => ?_)
  · rw [if_neg c6] at h
    refine pg_iload_n dX11_port_78 rfl ?_
    refine pg_iconst 1 dX11_port_79 rfl ?_
    refine pg_icmp_ne 99 dX11_port_80 (by decide) (fun c7 => ?_) (fun c7 => ?_)
    · rw [if_neg c7] at h
      refine pg_aload_n dX11_port_99 rfl ?_
      refine eg_get dX11_port_100 fa_X11_12 hS sp0 (Nat.le_of_ble_eq_true rfl) (Nat.le_of_ble_eq_true rfl) rfl rfl ?_
      refine eg_get dX11_port_103 fa_X11_112 hS sp1 (Nat.le_of_ble_eq_true rfl) (Nat.le_of_ble_eq_true rfl) rfl rfl ?_
      refine eg_get dX11_port_106 fa_X11_207 hS sp11 (Nat.le_of_ble_eq_true rfl) (Nat.le_of_ble_eq_true rfl) rfl rfl ?_
      refine pg_iload dX11_port_109 rfl ?_
      obtain ⟨g1, h⟩ := gd_at h
      refine eg_ialdJ u0.toNatClampNeg dX11_port_111 hS sp22 (Nat.le_of_ble_eq_true rfl) (Nat.le_of_ble_eq_true rfl) rfl (inR_vp g1) rfl ?_
      obtain rfl := Option.some.inj h
      exact hE.2.1 _ _ _ _ _ _ .int dX11_port_112 rfl rfl (Nat.zero_le _) (Nat.zero_le _) ⟨_, rfl, rfl, rfl⟩
    · rw [if_pos c7] at h
      refine pg_aload_n dX11_port_83 rfl ?_
      refine eg_get dX11_port_84 fa_X11_12 hS sp0 (Nat.le_of_ble_eq_true rfl) (Nat.le_of_ble_eq_true rfl) rfl rfl ?_
      refine eg_get dX11_port_87 fa_X11_112 hS sp1 (Nat.le_of_ble_eq_true rfl) (Nat.le_of_ble_eq_true rfl) rfl rfl ?_
      refine eg_get dX11_port_90 fa_X11_204 hS sp11 (Nat.le_of_ble_eq_true rfl) (Nat.le_of_ble_eq_true rfl) rfl rfl ?_
      refine pg_iload dX11_port_93 rfl ?_
      obtain ⟨g1, h⟩ := gd_at h
      refine eg_ialdJ u0.toNatClampNeg dX11_port_95 hS sp21 (Nat.le_of_ble_eq_true rfl) (Nat.le_of_ble_eq_true rfl) rfl (inR_vp g1) rfl ?_
      refine pg_goto 112 dX11_port_96 (by decide) ?_
      obtain rfl := Option.some.inj h
      exact hE.2.1 _ _ _ _ _ _ .int dX11_port_112 rfl rfl (Nat.zero_le _) (Nat.zero_le _) ⟨_, rfl, rfl, rfl⟩
  · rw [if_pos c6] at h
    refine pg_aload_n dX11_port_64 rfl ?_
    refine eg_get dX11_port_65 fa_X11_12 hS sp0 (Nat.le_of_ble_eq_true rfl) (Nat.le_of_ble_eq_true rfl) rfl rfl ?_
    refine eg_get dX11_port_68 fa_X11_112 hS sp1 (Nat.le_of_ble_eq_true rfl) (Nat.le_of_ble_eq_true rfl) rfl rfl ?_
    refine eg_get dX11_port_71 fa_X11_201 hS sp11 (Nat.le_of_ble_eq_true rfl) (Nat.le_of_ble_eq_true rfl) rfl rfl ?_
    refine pg_iload dX11_port_74 rfl ?_
    obtain ⟨g1, h⟩ := gd_at h
    refine eg_ialdJ u0.toNatClampNeg dX11_port_76 hS sp20 (Nat.le_of_ble_eq_true rfl) (Nat.le_of_ble_eq_true rfl) rfl (inR_vp g1) rfl ?_
    obtain rfl := Option.some.inj h
    exact hE.2.1 _ _ _ _ _ _ .int dX11_port_77 rfl rfl (Nat.zero_le _) (Nat.zero_le _) ⟨_, rfl, rfl, rfl⟩
set_option maxRecDepth 20000 in
set_option maxHeartbeats 4000000 in
theorem ct_X11_port (hfl : g.1.stackTraces = false) (hS : pS 0 138 S) {v1 : Int32} {v2 : Int32} {v3 : Int32} {m0 : me} {x : ((Int32 ⊕ Nat) × me)} (h : f_X11_port v1 v2 v3 m0 = some x) : pm_Ct g mX11_port [.ref 0, .int v1, .int v2, .int v3] (en S m0) (kC x) (nC x) (qTI S x) (qX S x) := by
  refine pm_of (by decide +kernel) rfl hfl (Nat.le_of_ble_eq_true rfl) (fun X hE => ?_)
  show pm_G g mX11_port X 0 [some (.ref 0), some (.int v1), some (.int v2), some (.int v3), none] [] (en S m0) 0 0
  unfold f_X11_port at h
  refine pg_aload_n dX11_port_0 rfl ?_
  refine eg_get dX11_port_1 fa_X11_12 hS sp0 (Nat.le_of_ble_eq_true rfl) (Nat.le_of_ble_eq_true rfl) rfl rfl ?_
  refine eg_get dX11_port_4 fa_X11_112 hS sp1 (Nat.le_of_ble_eq_true rfl) (Nat.le_of_ble_eq_true rfl) rfl rfl ?_
  refine pg_iload_n dX11_port_7 rfl ?_
  obtain ⟨r1, h_r1, h⟩ := bd_at h
  refine eg_cVi (C := mX3_has) (as := [(.int v1)]) dX11_port_8 mw603 cv_X3_has hS sp11 (Nat.le_of_ble_eq_true rfl) (Nat.le_of_ble_eq_true rfl) rfl rfl rfl (Nat.le_of_ble_eq_true rfl) rfl ⟨(Nat.le_of_ble_eq_true rfl), (Nat.le_of_ble_eq_true rfl)⟩ (ct_X3_has hfl (hS.sub (Nat.le_of_ble_eq_true rfl) (Nat.le_of_ble_eq_true rfl)) h_r1) ?_
  refine pg_if_ne 24 dX11_port_11 (by decide) (fun c2 => ?_) (fun c2 => ?_)
  · rw [if_neg c2] at h
    refine pg_iload_n dX11_port_24 rfl ?_
    refine pg_iconst 0 dX11_port_25 rfl ?_
    refine pg_iconst 2 dX11_port_26 rfl ?_
    obtain ⟨r3, h_r3, h⟩ := bd_at h
    refine eg_cSi (C := mX11_isOutside) (as := [(.int v3), (.int 0), (.int 2)]) dX11_port_27 mw390 cs_X11_isOutside rfl rfl (Nat.le_of_ble_eq_true rfl) rfl ⟨(Nat.le_of_ble_eq_true rfl), (Nat.le_of_ble_eq_true rfl)⟩ (ct_X11_isOutside hfl h_r3) ?_
    refine pg_if_eq 43 dX11_port_30 (by decide) (fun c4 => ?_) (fun c4 => ?_)
    · rw [if_pos c4] at h
      refine pg_iload_n dX11_port_43 rfl ?_
      refine pg_if_eq 55 dX11_port_44 (by decide) (fun c5 => ?_) (fun c5 => ?_)
      · rw [if_pos c5] at h
        refine pg_iconst 2 dX11_port_55 rfl ?_
        refine pg_iload_n dX11_port_56 rfl ?_
        refine pg_imul dX11_port_57 ?_
        refine eg_forget [some (.ref 0), none, none, some (.int v3), none] (show pm_sub _ _ from ⟨rfl, ⟨rfl, trivial⟩⟩) ?_
        exact lj_X11_port_58 hfl hS h hE
      · rw [if_neg c5] at h
        refine pg_iconst 2 dX11_port_47 rfl ?_
        refine pg_iload_n dX11_port_48 rfl ?_
        refine pg_imul dX11_port_49 ?_
        refine pg_iconst 1 dX11_port_50 rfl ?_
        refine pg_iadd dX11_port_51 ?_
        refine pg_goto 58 dX11_port_52 (by decide) ?_
        refine eg_forget [some (.ref 0), none, none, some (.int v3), none] (show pm_sub _ _ from ⟨rfl, ⟨rfl, trivial⟩⟩) ?_
        exact lj_X11_port_58 hfl hS h hE
    · rw [if_neg c4] at h
      obtain rfl := Option.some.inj h
      exact hE.2.2.2.2.2.1 _ _ _ _ _ _ _ _ _ _ _ th0 rfl rfl dX11_port_33 dX11_port_36 dX11_port_37 dX11_port_39 dX11_port_42 rfl (Nat.le_of_ble_eq_true rfl) (Nat.le_of_ble_eq_true rfl) (Nat.le_of_ble_eq_true rfl) (Nat.le_of_ble_eq_true rfl) ⟨_, rfl, rfl, rfl⟩
  · rw [if_pos c2] at h
    obtain rfl := Option.some.inj h
    exact hE.2.2.2.2.2.1 _ _ _ _ _ _ _ _ _ _ _ th5 rfl rfl dX11_port_14 dX11_port_17 dX11_port_18 dX11_port_20 dX11_port_23 rfl (Nat.le_of_ble_eq_true rfl) (Nat.le_of_ble_eq_true rfl) (Nat.le_of_ble_eq_true rfl) (Nat.le_of_ble_eq_true rfl) ⟨_, rfl, rfl, rfl⟩
def f_X11_bidOf (v1 : Int32) (v2 : Int32) (m0 : me) : Option ((Int32 ⊕ Nat) × me) :=
  bd (f_X4_faultOfBid v1 v2 0 m0) (fun r1 =>
  bd (f_X11_throwFor r1.1 r1.2) (fun r2 =>
  tr r2.1 (fun _ =>
    gd (inR ((v1 * 16) + v2) 64) (
    some ((.inl (r2.2.1 27 (((v1 * 16) + v2).toNatClampNeg)), r2.2)))) (fun e4 => some ((.inr e4, r2.2)))))
set_option maxRecDepth 20000 in
set_option maxHeartbeats 4000000 in
theorem ct_X11_bidOf (hfl : g.1.stackTraces = false) (hS : pS 0 138 S) {v1 : Int32} {v2 : Int32} {m0 : me} {x : ((Int32 ⊕ Nat) × me)} (h : f_X11_bidOf v1 v2 m0 = some x) : pm_Ct g mX11_bidOf [.ref 0, .int v1, .int v2] (en S m0) (kC x) (nC x) (qTI S x) (qX S x) := by
  refine pm_of (by decide +kernel) rfl hfl (Nat.le_of_ble_eq_true rfl) (fun X hE => ?_)
  show pm_G g mX11_bidOf X 0 [some (.ref 0), some (.int v1), some (.int v2)] [] (en S m0) 0 0
  unfold f_X11_bidOf at h
  refine pg_aload_n dX11_bidOf_0 rfl ?_
  refine eg_get dX11_bidOf_1 fa_X11_12 hS sp0 (Nat.le_of_ble_eq_true rfl) (Nat.le_of_ble_eq_true rfl) rfl rfl ?_
  refine pg_iload_n dX11_bidOf_4 rfl ?_
  refine pg_iload_n dX11_bidOf_5 rfl ?_
  refine pg_iconst 0 dX11_bidOf_6 rfl ?_
  obtain ⟨r1, h_r1, h⟩ := bd_at h
  refine eg_cVi (C := mX4_faultOfBid) (as := [(.int v1), (.int v2), (.int 0)]) dX11_bidOf_7 mw361 cv_X4_faultOfBid hS sp1 (Nat.le_of_ble_eq_true rfl) (Nat.le_of_ble_eq_true rfl) rfl rfl rfl (Nat.le_of_ble_eq_true rfl) rfl ⟨(Nat.le_of_ble_eq_true rfl), (Nat.le_of_ble_eq_true rfl)⟩ (ct_X4_faultOfBid hfl (hS.sub (Nat.le_of_ble_eq_true rfl) (Nat.le_of_ble_eq_true rfl)) h_r1) ?_
  obtain ⟨r2, h_r2, h⟩ := bd_at h
  refine eg_tSv (C := mX11_throwFor) (as := [(.int r1.1)]) dX11_bidOf_10 mw578 cs_X11_throwFor rfl rfl (Nat.le_of_ble_eq_true rfl) rfl ⟨(Nat.le_of_ble_eq_true rfl), (Nat.le_of_ble_eq_true rfl)⟩ (ct_X11_throwFor hfl h_r2) (fun w3 k_w3 => ?_) (fun e4 k_e4 => ?_)
  · rw [k_w3] at h
    replace h := tr_l h
    refine pg_aload_n dX11_bidOf_13 rfl ?_
    refine eg_get dX11_bidOf_14 fa_X11_12 hS sp0 (Nat.le_of_ble_eq_true rfl) (Nat.le_of_ble_eq_true rfl) rfl rfl ?_
    refine eg_get dX11_bidOf_17 fa_X11_141 hS sp1 (Nat.le_of_ble_eq_true rfl) (Nat.le_of_ble_eq_true rfl) rfl rfl ?_
    refine eg_get dX11_bidOf_20 fa_X11_222 hS sp23 (Nat.le_of_ble_eq_true rfl) (Nat.le_of_ble_eq_true rfl) rfl rfl ?_
    refine pg_iload_n dX11_bidOf_23 rfl ?_
    refine pg_bipush 16 dX11_bidOf_24 rfl ?_
    refine pg_imul dX11_bidOf_26 ?_
    refine pg_iload_n dX11_bidOf_27 rfl ?_
    refine pg_iadd dX11_bidOf_28 ?_
    obtain ⟨g1, h⟩ := gd_at h
    refine eg_ialdJ (((v1 * 16) + v2).toNatClampNeg) dX11_bidOf_29 hS sp27 (Nat.le_of_ble_eq_true rfl) (Nat.le_of_ble_eq_true rfl) rfl (inR_vp g1) rfl ?_
    obtain rfl := Option.some.inj h
    exact hE.2.1 _ _ _ _ _ _ .int dX11_bidOf_30 rfl rfl (Nat.zero_le _) (Nat.zero_le _) ⟨_, rfl, rfl, rfl⟩
  · rw [k_e4] at h
    replace h := tr_r h
    obtain rfl := Option.some.inj h
    exact ⟨by rw [hE.1.1, hE.1.2]; exact ⟨(Nat.le_of_ble_eq_true rfl), (Nat.le_of_ble_eq_true rfl)⟩, hE.2.2.2.2.1 _ _ _ _ _ _ _ rfl (Nat.le_of_ble_eq_true rfl) (Nat.le_of_ble_eq_true rfl) ⟨_, rfl, rfl, rfl⟩⟩
def b_X11_mixLinks_37 (v1 : Int64) (v5 : Int32) (s : Int64 × Int32 × me) : Option ((Int64 × Int32 × me) ⊕ ((Int64 × Int32 × me) ⊕ ((Int64 ⊕ Nat) × me))) :=
  if 9 ≤ s.2.1 then
    some (.inr (.inl (s.1, s.2.1, s.2.2)))
  else
    bd (f_X11_link v5 s.2.1 s.2.2) (fun r4 =>
    tr r4.1 (fun w5 =>
      bd (f_X11_mix s.1 w5.toInt64 r4.2) (fun r7 =>
      lt (s.2.1 + 1) (fun w8 =>
      some (.inl (r7.1, w8, r7.2))))) (fun e6 => some (.inr (.inr ((.inr e6, r4.2))))))
def b_X11_mixLinks_67 (v1 : Int64) (v5 : Int32) (s : Int64 × Int32 × me) : Option ((Int64 × Int32 × me) ⊕ ((Int64 × Int32 × me) ⊕ ((Int64 ⊕ Nat) × me))) :=
  if 3 ≤ s.2.1 then
    some (.inr (.inl (s.1, s.2.1, s.2.2)))
  else
    bd (f_X11_port v5 0 s.2.1 s.2.2) (fun r13 =>
    tr r13.1 (fun w14 =>
      bd (f_X11_mix s.1 w14.toInt64 r13.2) (fun r16 =>
      lt (s.2.1 + 1) (fun w17 =>
      some (.inl (r16.1, w17, r16.2))))) (fun e15 => some (.inr (.inr ((.inr e15, r13.2))))))
def b_X11_mixLinks_97 (v1 : Int64) (v5 : Int32) (s : Int64 × Int32 × me) : Option ((Int64 × Int32 × me) ⊕ ((Int64 × Int32 × me) ⊕ ((Int64 ⊕ Nat) × me))) :=
  if 3 ≤ s.2.1 then
    some (.inr (.inl (s.1, s.2.1, s.2.2)))
  else
    bd (f_X11_port v5 1 s.2.1 s.2.2) (fun r22 =>
    tr r22.1 (fun w23 =>
      bd (f_X11_mix s.1 w23.toInt64 r22.2) (fun r25 =>
      lt (s.2.1 + 1) (fun w26 =>
      some (.inl (r25.1, w26, r25.2))))) (fun e24 => some (.inr (.inr ((.inr e24, r22.2))))))
def b_X11_mixLinks_127 (v1 : Int64) (v5 : Int32) (s : Int64 × Int32 × me) : Option ((Int64 × Int32 × me) ⊕ ((Int64 × Int32 × me) ⊕ ((Int64 ⊕ Nat) × me))) :=
  if 4 ≤ s.2.1 then
    some (.inr (.inl (s.1, s.2.1, s.2.2)))
  else
    bd (f_X11_bidOf s.2.1 v5 s.2.2) (fun r31 =>
    tr r31.1 (fun w32 =>
      bd (f_X11_mix s.1 w32.toInt64 r31.2) (fun r34 =>
      lt (s.2.1 + 1) (fun w35 =>
      some (.inl (r34.1, w35, r34.2))))) (fun e33 => some (.inr (.inr ((.inr e33, r31.2))))))
def b_X11_mixLinks_19 (v1 : Int64) (s : Int64 × Int32 × me) : Option ((Int64 × Int32 × me) ⊕ ((Int64 × Int32 × me) ⊕ ((Int64 ⊕ Nat) × me))) :=
  if (s.2.2.1 11 0) ≤ s.2.1 then
    some (.inr (.inl (s.1, s.2.1, s.2.2)))
  else
    bd (lo (b_X11_mixLinks_37 v1 s.2.1) 2048 (s.1, 0, s.2.2)) (fun s9 =>
    sm s9 (fun s10 =>
      bd (lo (b_X11_mixLinks_67 v1 s.2.1) 2048 (s10.1, 0, s10.2.2)) (fun s18 =>
      sm s18 (fun s19 =>
        bd (lo (b_X11_mixLinks_97 v1 s.2.1) 2048 (s19.1, 0, s19.2.2)) (fun s27 =>
        sm s27 (fun s28 =>
          bd (lo (b_X11_mixLinks_127 v1 s.2.1) 2048 (s28.1, 0, s28.2.2)) (fun s36 =>
          sm s36 (fun s37 =>
            lt (s.2.1 + 1) (fun w39 =>
            some (.inl (s37.1, w39, s37.2.2)))) (fun x38 => some (.inr (.inr x38))))) (fun x29 => some (.inr (.inr x29))))) (fun x20 => some (.inr (.inr x20))))) (fun x11 => some (.inr (.inr x11))))
def f_X11_mixLinks (v1 : Int64) (m0 : me) : Option ((Int64 ⊕ Nat) × me) :=
  bd (f_X11_mix v1 ((m0.1 11 0).toInt64) m0) (fun r1 =>
  bd (lo (b_X11_mixLinks_19 v1) 2048 (r1.1, 0, r1.2)) (fun s40 =>
  sm s40 (fun s41 =>
    some ((.inl s41.1, s41.2.2))) (fun x42 => some x42)))
set_option maxRecDepth 20000 in
set_option maxHeartbeats 4000000 in
theorem lb_X11_mixLinks_37 (hfl : g.1.stackTraces = false) (hS : pS 0 138 S) {v1 : Int64} {v5 : Int32} {s : Int64 × Int32 × me} {r : (Int64 × Int32 × me) ⊕ ((Int64 × Int32 × me) ⊕ ((Int64 ⊕ Nat) × me))} (h : b_X11_mixLinks_37 v1 v5 s = some r) (hN : ∀ s', r = .inl s' → (fun z9 : Int64 × Int32 × me => pm_G g mX11_mixLinks X 37 [some (.ref 0), some (.long v1), none, some (.long z9.1), none, some (.int v5), some (.int z9.2.1)] [] (en S z9.2.2) 0 0) s') (hT : ∀ t, r = .inr t → (fun z8 : ((Int64 × Int32 × me) ⊕ ((Int64 ⊕ Nat) × me)) => (∀ z9, z8 = .inl z9 → pm_G g mX11_mixLinks X 64 [some (.ref 0), some (.long v1), none, some (.long z9.1), none, some (.int v5), some (.int z9.2.1)] [] (en S z9.2.2) 0 0) ∧ (∀ x9, z8 = .inr x9 → pm_End g mX11_mixLinks X (kC x9) (nC x9) (qTJ S x9) (qX S x9))) t) : (fun z9 : Int64 × Int32 × me => pm_G g mX11_mixLinks X 37 [some (.ref 0), some (.long v1), none, some (.long z9.1), none, some (.int v5), some (.int z9.2.1)] [] (en S z9.2.2) 0 0) s := by
  unfold b_X11_mixLinks_37 at h
  show pm_G g mX11_mixLinks X 37 [some (.ref 0), some (.long v1), none, some (.long s.1), none, some (.int v5), some (.int s.2.1)] [] (en S s.2.2) 0 0
  refine pg_iload dX11_mixLinks_37 rfl ?_
  refine pg_bipush 9 dX11_mixLinks_39 rfl ?_
  refine pg_icmp_ge 64 dX11_mixLinks_41 (by decide) (fun c3 => ?_) (fun c3 => ?_)
  · rw [if_pos c3] at h
    obtain rfl := Option.some.inj h
    exact (hT _ rfl).1 _ rfl
  · rw [if_neg c3] at h
    refine pg_lload_n dX11_mixLinks_44 rfl ?_
    refine pg_aload_n dX11_mixLinks_45 rfl ?_
    refine pg_iload dX11_mixLinks_46 rfl ?_
    refine pg_iload dX11_mixLinks_48 rfl ?_
    obtain ⟨r4, h_r4, h⟩ := bd_at h
    refine eg_tVi (C := mX11_link) (as := [(.int v5), (.int s.2.1)]) dX11_mixLinks_50 mw588 cv_X11_link hS sp0 (Nat.le_of_ble_eq_true rfl) (Nat.le_of_ble_eq_true rfl) rfl rfl rfl (Nat.le_of_ble_eq_true rfl) rfl ⟨(Nat.le_of_ble_eq_true rfl), (Nat.le_of_ble_eq_true rfl)⟩ (ct_X11_link hfl (hS.sub (Nat.le_of_ble_eq_true rfl) (Nat.le_of_ble_eq_true rfl)) h_r4) (fun w5 k_w5 => ?_) (fun e6 k_e6 => ?_)
    · rw [k_w5] at h
      replace h := tr_l h
      refine pg_i2l dX11_mixLinks_53 ?_
      obtain ⟨r7, h_r7, h⟩ := bd_at h
      refine eg_cSj (C := mX11_mix) (as := [(.long s.1), (.long w5.toInt64)]) dX11_mixLinks_54 mw521 cs_X11_mix rfl rfl (Nat.le_of_ble_eq_true rfl) rfl ⟨(Nat.le_of_ble_eq_true rfl), (Nat.le_of_ble_eq_true rfl)⟩ (ct_X11_mix hfl h_r7) ?_
      refine eg_lstore_n [some (.ref 0), some (.long v1), none, some (.long r7.1), none, some (.int v5), some (.int s.2.1)] r7.1 dX11_mixLinks_57 rfl (Nat.le_of_ble_eq_true rfl) rfl ?_
      obtain ⟨w8, e_w8⟩ : ∃ z : Int32, z = s.2.1 + 1 := ⟨_, rfl⟩
      replace h := lt_at h e_w8
      refine eg_iinc [some (.ref 0), some (.long v1), none, some (.long r7.1), none, some (.int v5), some (.int w8)] w8 1 dX11_mixLinks_58 rfl rfl e_w8 rfl ?_
      refine pg_goto 37 dX11_mixLinks_61 (by decide) ?_
      obtain rfl := Option.some.inj h
      exact hN _ rfl
    · rw [k_e6] at h
      replace h := tr_r h
      obtain rfl := Option.some.inj h
      exact ⟨by rw [((hT _ rfl).2 _ rfl).1.1, ((hT _ rfl).2 _ rfl).1.2]; exact ⟨(Nat.le_of_ble_eq_true rfl), (Nat.le_of_ble_eq_true rfl)⟩, ((hT _ rfl).2 _ rfl).2.2.2.2.1 _ _ _ _ _ _ _ rfl (Nat.le_of_ble_eq_true rfl) (Nat.le_of_ble_eq_true rfl) ⟨_, rfl, rfl, rfl⟩⟩
set_option maxRecDepth 20000 in
set_option maxHeartbeats 4000000 in
theorem lb_X11_mixLinks_67 (hfl : g.1.stackTraces = false) (hS : pS 0 138 S) {v1 : Int64} {v5 : Int32} {s : Int64 × Int32 × me} {r : (Int64 × Int32 × me) ⊕ ((Int64 × Int32 × me) ⊕ ((Int64 ⊕ Nat) × me))} (h : b_X11_mixLinks_67 v1 v5 s = some r) (hN : ∀ s', r = .inl s' → (fun z9 : Int64 × Int32 × me => pm_G g mX11_mixLinks X 67 [some (.ref 0), some (.long v1), none, some (.long z9.1), none, some (.int v5), some (.int z9.2.1)] [] (en S z9.2.2) 0 0) s') (hT : ∀ t, r = .inr t → (fun z8 : ((Int64 × Int32 × me) ⊕ ((Int64 ⊕ Nat) × me)) => (∀ z9, z8 = .inl z9 → pm_G g mX11_mixLinks X 94 [some (.ref 0), some (.long v1), none, some (.long z9.1), none, some (.int v5), some (.int z9.2.1)] [] (en S z9.2.2) 0 0) ∧ (∀ x9, z8 = .inr x9 → pm_End g mX11_mixLinks X (kC x9) (nC x9) (qTJ S x9) (qX S x9))) t) : (fun z9 : Int64 × Int32 × me => pm_G g mX11_mixLinks X 67 [some (.ref 0), some (.long v1), none, some (.long z9.1), none, some (.int v5), some (.int z9.2.1)] [] (en S z9.2.2) 0 0) s := by
  unfold b_X11_mixLinks_67 at h
  show pm_G g mX11_mixLinks X 67 [some (.ref 0), some (.long v1), none, some (.long s.1), none, some (.int v5), some (.int s.2.1)] [] (en S s.2.2) 0 0
  refine pg_iload dX11_mixLinks_67 rfl ?_
  refine pg_iconst 3 dX11_mixLinks_69 rfl ?_
  refine pg_icmp_ge 94 dX11_mixLinks_70 (by decide) (fun c12 => ?_) (fun c12 => ?_)
  · rw [if_pos c12] at h
    obtain rfl := Option.some.inj h
    exact (hT _ rfl).1 _ rfl
  · rw [if_neg c12] at h
    refine pg_lload_n dX11_mixLinks_73 rfl ?_
    refine pg_aload_n dX11_mixLinks_74 rfl ?_
    refine pg_iload dX11_mixLinks_75 rfl ?_
    refine pg_iconst 0 dX11_mixLinks_77 rfl ?_
    refine pg_iload dX11_mixLinks_78 rfl ?_
    obtain ⟨r13, h_r13, h⟩ := bd_at h
    refine eg_tVi (C := mX11_port) (as := [(.int v5), (.int 0), (.int s.2.1)]) dX11_mixLinks_80 mw593 cv_X11_port hS sp0 (Nat.le_of_ble_eq_true rfl) (Nat.le_of_ble_eq_true rfl) rfl rfl rfl (Nat.le_of_ble_eq_true rfl) rfl ⟨(Nat.le_of_ble_eq_true rfl), (Nat.le_of_ble_eq_true rfl)⟩ (ct_X11_port hfl (hS.sub (Nat.le_of_ble_eq_true rfl) (Nat.le_of_ble_eq_true rfl)) h_r13) (fun w14 k_w14 => ?_) (fun e15 k_e15 => ?_)
    · rw [k_w14] at h
      replace h := tr_l h
      refine pg_i2l dX11_mixLinks_83 ?_
      obtain ⟨r16, h_r16, h⟩ := bd_at h
      refine eg_cSj (C := mX11_mix) (as := [(.long s.1), (.long w14.toInt64)]) dX11_mixLinks_84 mw521 cs_X11_mix rfl rfl (Nat.le_of_ble_eq_true rfl) rfl ⟨(Nat.le_of_ble_eq_true rfl), (Nat.le_of_ble_eq_true rfl)⟩ (ct_X11_mix hfl h_r16) ?_
      refine eg_lstore_n [some (.ref 0), some (.long v1), none, some (.long r16.1), none, some (.int v5), some (.int s.2.1)] r16.1 dX11_mixLinks_87 rfl (Nat.le_of_ble_eq_true rfl) rfl ?_
      obtain ⟨w17, e_w17⟩ : ∃ z : Int32, z = s.2.1 + 1 := ⟨_, rfl⟩
      replace h := lt_at h e_w17
      refine eg_iinc [some (.ref 0), some (.long v1), none, some (.long r16.1), none, some (.int v5), some (.int w17)] w17 1 dX11_mixLinks_88 rfl rfl e_w17 rfl ?_
      refine pg_goto 67 dX11_mixLinks_91 (by decide) ?_
      obtain rfl := Option.some.inj h
      exact hN _ rfl
    · rw [k_e15] at h
      replace h := tr_r h
      obtain rfl := Option.some.inj h
      exact ⟨by rw [((hT _ rfl).2 _ rfl).1.1, ((hT _ rfl).2 _ rfl).1.2]; exact ⟨(Nat.le_of_ble_eq_true rfl), (Nat.le_of_ble_eq_true rfl)⟩, ((hT _ rfl).2 _ rfl).2.2.2.2.1 _ _ _ _ _ _ _ rfl (Nat.le_of_ble_eq_true rfl) (Nat.le_of_ble_eq_true rfl) ⟨_, rfl, rfl, rfl⟩⟩
set_option maxRecDepth 20000 in
set_option maxHeartbeats 4000000 in
theorem lb_X11_mixLinks_97 (hfl : g.1.stackTraces = false) (hS : pS 0 138 S) {v1 : Int64} {v5 : Int32} {s : Int64 × Int32 × me} {r : (Int64 × Int32 × me) ⊕ ((Int64 × Int32 × me) ⊕ ((Int64 ⊕ Nat) × me))} (h : b_X11_mixLinks_97 v1 v5 s = some r) (hN : ∀ s', r = .inl s' → (fun z9 : Int64 × Int32 × me => pm_G g mX11_mixLinks X 97 [some (.ref 0), some (.long v1), none, some (.long z9.1), none, some (.int v5), some (.int z9.2.1)] [] (en S z9.2.2) 0 0) s') (hT : ∀ t, r = .inr t → (fun z8 : ((Int64 × Int32 × me) ⊕ ((Int64 ⊕ Nat) × me)) => (∀ z9, z8 = .inl z9 → pm_G g mX11_mixLinks X 124 [some (.ref 0), some (.long v1), none, some (.long z9.1), none, some (.int v5), some (.int z9.2.1)] [] (en S z9.2.2) 0 0) ∧ (∀ x9, z8 = .inr x9 → pm_End g mX11_mixLinks X (kC x9) (nC x9) (qTJ S x9) (qX S x9))) t) : (fun z9 : Int64 × Int32 × me => pm_G g mX11_mixLinks X 97 [some (.ref 0), some (.long v1), none, some (.long z9.1), none, some (.int v5), some (.int z9.2.1)] [] (en S z9.2.2) 0 0) s := by
  unfold b_X11_mixLinks_97 at h
  show pm_G g mX11_mixLinks X 97 [some (.ref 0), some (.long v1), none, some (.long s.1), none, some (.int v5), some (.int s.2.1)] [] (en S s.2.2) 0 0
  refine pg_iload dX11_mixLinks_97 rfl ?_
  refine pg_iconst 3 dX11_mixLinks_99 rfl ?_
  refine pg_icmp_ge 124 dX11_mixLinks_100 (by decide) (fun c21 => ?_) (fun c21 => ?_)
  · rw [if_pos c21] at h
    obtain rfl := Option.some.inj h
    exact (hT _ rfl).1 _ rfl
  · rw [if_neg c21] at h
    refine pg_lload_n dX11_mixLinks_103 rfl ?_
    refine pg_aload_n dX11_mixLinks_104 rfl ?_
    refine pg_iload dX11_mixLinks_105 rfl ?_
    refine pg_iconst 1 dX11_mixLinks_107 rfl ?_
    refine pg_iload dX11_mixLinks_108 rfl ?_
    obtain ⟨r22, h_r22, h⟩ := bd_at h
    refine eg_tVi (C := mX11_port) (as := [(.int v5), (.int 1), (.int s.2.1)]) dX11_mixLinks_110 mw593 cv_X11_port hS sp0 (Nat.le_of_ble_eq_true rfl) (Nat.le_of_ble_eq_true rfl) rfl rfl rfl (Nat.le_of_ble_eq_true rfl) rfl ⟨(Nat.le_of_ble_eq_true rfl), (Nat.le_of_ble_eq_true rfl)⟩ (ct_X11_port hfl (hS.sub (Nat.le_of_ble_eq_true rfl) (Nat.le_of_ble_eq_true rfl)) h_r22) (fun w23 k_w23 => ?_) (fun e24 k_e24 => ?_)
    · rw [k_w23] at h
      replace h := tr_l h
      refine pg_i2l dX11_mixLinks_113 ?_
      obtain ⟨r25, h_r25, h⟩ := bd_at h
      refine eg_cSj (C := mX11_mix) (as := [(.long s.1), (.long w23.toInt64)]) dX11_mixLinks_114 mw521 cs_X11_mix rfl rfl (Nat.le_of_ble_eq_true rfl) rfl ⟨(Nat.le_of_ble_eq_true rfl), (Nat.le_of_ble_eq_true rfl)⟩ (ct_X11_mix hfl h_r25) ?_
      refine eg_lstore_n [some (.ref 0), some (.long v1), none, some (.long r25.1), none, some (.int v5), some (.int s.2.1)] r25.1 dX11_mixLinks_117 rfl (Nat.le_of_ble_eq_true rfl) rfl ?_
      obtain ⟨w26, e_w26⟩ : ∃ z : Int32, z = s.2.1 + 1 := ⟨_, rfl⟩
      replace h := lt_at h e_w26
      refine eg_iinc [some (.ref 0), some (.long v1), none, some (.long r25.1), none, some (.int v5), some (.int w26)] w26 1 dX11_mixLinks_118 rfl rfl e_w26 rfl ?_
      refine pg_goto 97 dX11_mixLinks_121 (by decide) ?_
      obtain rfl := Option.some.inj h
      exact hN _ rfl
    · rw [k_e24] at h
      replace h := tr_r h
      obtain rfl := Option.some.inj h
      exact ⟨by rw [((hT _ rfl).2 _ rfl).1.1, ((hT _ rfl).2 _ rfl).1.2]; exact ⟨(Nat.le_of_ble_eq_true rfl), (Nat.le_of_ble_eq_true rfl)⟩, ((hT _ rfl).2 _ rfl).2.2.2.2.1 _ _ _ _ _ _ _ rfl (Nat.le_of_ble_eq_true rfl) (Nat.le_of_ble_eq_true rfl) ⟨_, rfl, rfl, rfl⟩⟩
set_option maxRecDepth 20000 in
set_option maxHeartbeats 4000000 in
theorem lb_X11_mixLinks_127 (hfl : g.1.stackTraces = false) (hS : pS 0 138 S) {v1 : Int64} {v5 : Int32} {s : Int64 × Int32 × me} {r : (Int64 × Int32 × me) ⊕ ((Int64 × Int32 × me) ⊕ ((Int64 ⊕ Nat) × me))} (h : b_X11_mixLinks_127 v1 v5 s = some r) (hN : ∀ s', r = .inl s' → (fun z9 : Int64 × Int32 × me => pm_G g mX11_mixLinks X 127 [some (.ref 0), some (.long v1), none, some (.long z9.1), none, some (.int v5), some (.int z9.2.1)] [] (en S z9.2.2) 0 0) s') (hT : ∀ t, r = .inr t → (fun z8 : ((Int64 × Int32 × me) ⊕ ((Int64 ⊕ Nat) × me)) => (∀ z9, z8 = .inl z9 → pm_G g mX11_mixLinks X 153 [some (.ref 0), some (.long v1), none, some (.long z9.1), none, some (.int v5), some (.int z9.2.1)] [] (en S z9.2.2) 0 0) ∧ (∀ x9, z8 = .inr x9 → pm_End g mX11_mixLinks X (kC x9) (nC x9) (qTJ S x9) (qX S x9))) t) : (fun z9 : Int64 × Int32 × me => pm_G g mX11_mixLinks X 127 [some (.ref 0), some (.long v1), none, some (.long z9.1), none, some (.int v5), some (.int z9.2.1)] [] (en S z9.2.2) 0 0) s := by
  unfold b_X11_mixLinks_127 at h
  show pm_G g mX11_mixLinks X 127 [some (.ref 0), some (.long v1), none, some (.long s.1), none, some (.int v5), some (.int s.2.1)] [] (en S s.2.2) 0 0
  refine pg_iload dX11_mixLinks_127 rfl ?_
  refine pg_iconst 4 dX11_mixLinks_129 rfl ?_
  refine pg_icmp_ge 153 dX11_mixLinks_130 (by decide) (fun c30 => ?_) (fun c30 => ?_)
  · rw [if_pos c30] at h
    obtain rfl := Option.some.inj h
    exact (hT _ rfl).1 _ rfl
  · rw [if_neg c30] at h
    refine pg_lload_n dX11_mixLinks_133 rfl ?_
    refine pg_aload_n dX11_mixLinks_134 rfl ?_
    refine pg_iload dX11_mixLinks_135 rfl ?_
    refine pg_iload dX11_mixLinks_137 rfl ?_
    obtain ⟨r31, h_r31, h⟩ := bd_at h
    refine eg_tVi (C := mX11_bidOf) (as := [(.int s.2.1), (.int v5)]) dX11_mixLinks_139 mw598 cv_X11_bidOf hS sp0 (Nat.le_of_ble_eq_true rfl) (Nat.le_of_ble_eq_true rfl) rfl rfl rfl (Nat.le_of_ble_eq_true rfl) rfl ⟨(Nat.le_of_ble_eq_true rfl), (Nat.le_of_ble_eq_true rfl)⟩ (ct_X11_bidOf hfl (hS.sub (Nat.le_of_ble_eq_true rfl) (Nat.le_of_ble_eq_true rfl)) h_r31) (fun w32 k_w32 => ?_) (fun e33 k_e33 => ?_)
    · rw [k_w32] at h
      replace h := tr_l h
      refine pg_i2l dX11_mixLinks_142 ?_
      obtain ⟨r34, h_r34, h⟩ := bd_at h
      refine eg_cSj (C := mX11_mix) (as := [(.long s.1), (.long w32.toInt64)]) dX11_mixLinks_143 mw521 cs_X11_mix rfl rfl (Nat.le_of_ble_eq_true rfl) rfl ⟨(Nat.le_of_ble_eq_true rfl), (Nat.le_of_ble_eq_true rfl)⟩ (ct_X11_mix hfl h_r34) ?_
      refine eg_lstore_n [some (.ref 0), some (.long v1), none, some (.long r34.1), none, some (.int v5), some (.int s.2.1)] r34.1 dX11_mixLinks_146 rfl (Nat.le_of_ble_eq_true rfl) rfl ?_
      obtain ⟨w35, e_w35⟩ : ∃ z : Int32, z = s.2.1 + 1 := ⟨_, rfl⟩
      replace h := lt_at h e_w35
      refine eg_iinc [some (.ref 0), some (.long v1), none, some (.long r34.1), none, some (.int v5), some (.int w35)] w35 1 dX11_mixLinks_147 rfl rfl e_w35 rfl ?_
      refine pg_goto 127 dX11_mixLinks_150 (by decide) ?_
      obtain rfl := Option.some.inj h
      exact hN _ rfl
    · rw [k_e33] at h
      replace h := tr_r h
      obtain rfl := Option.some.inj h
      exact ⟨by rw [((hT _ rfl).2 _ rfl).1.1, ((hT _ rfl).2 _ rfl).1.2]; exact ⟨(Nat.le_of_ble_eq_true rfl), (Nat.le_of_ble_eq_true rfl)⟩, ((hT _ rfl).2 _ rfl).2.2.2.2.1 _ _ _ _ _ _ _ rfl (Nat.le_of_ble_eq_true rfl) (Nat.le_of_ble_eq_true rfl) ⟨_, rfl, rfl, rfl⟩⟩
set_option maxRecDepth 20000 in
set_option maxHeartbeats 4000000 in
theorem lb_X11_mixLinks_19 (hfl : g.1.stackTraces = false) (hS : pS 0 138 S) {v1 : Int64} {s : Int64 × Int32 × me} {r : (Int64 × Int32 × me) ⊕ ((Int64 × Int32 × me) ⊕ ((Int64 ⊕ Nat) × me))} (h : b_X11_mixLinks_19 v1 s = some r) (hN : ∀ s', r = .inl s' → (fun z9 : Int64 × Int32 × me => pm_G g mX11_mixLinks X 19 [some (.ref 0), some (.long v1), none, some (.long z9.1), none, some (.int z9.2.1), none] [] (en S z9.2.2) 0 0) s') (hT : ∀ t, r = .inr t → (fun z8 : ((Int64 × Int32 × me) ⊕ ((Int64 ⊕ Nat) × me)) => (∀ z9, z8 = .inl z9 → pm_G g mX11_mixLinks X 159 [some (.ref 0), some (.long v1), none, some (.long z9.1), none, some (.int z9.2.1), none] [] (en S z9.2.2) 0 0) ∧ (∀ x9, z8 = .inr x9 → pm_End g mX11_mixLinks X (kC x9) (nC x9) (qTJ S x9) (qX S x9))) t) : (fun z9 : Int64 × Int32 × me => pm_G g mX11_mixLinks X 19 [some (.ref 0), some (.long v1), none, some (.long z9.1), none, some (.int z9.2.1), none] [] (en S z9.2.2) 0 0) s := by
  unfold b_X11_mixLinks_19 at h
  show pm_G g mX11_mixLinks X 19 [some (.ref 0), some (.long v1), none, some (.long s.1), none, some (.int s.2.1), none] [] (en S s.2.2) 0 0
  refine pg_iload dX11_mixLinks_19 rfl ?_
  refine pg_aload_n dX11_mixLinks_21 rfl ?_
  refine eg_get dX11_mixLinks_22 fa_X11_12 hS sp0 (Nat.le_of_ble_eq_true rfl) (Nat.le_of_ble_eq_true rfl) rfl rfl ?_
  refine eg_get dX11_mixLinks_25 fa_X11_112 hS sp1 (Nat.le_of_ble_eq_true rfl) (Nat.le_of_ble_eq_true rfl) rfl rfl ?_
  refine eg_get dX11_mixLinks_28 fa_X11_191 hS sp11 (Nat.le_of_ble_eq_true rfl) (Nat.le_of_ble_eq_true rfl) rfl rfl ?_
  refine pg_icmp_ge 159 dX11_mixLinks_31 (by decide) (fun c2 => ?_) (fun c2 => ?_)
  · rw [if_pos c2] at h
    obtain rfl := Option.some.inj h
    exact (hT _ rfl).1 _ rfl
  · rw [if_neg c2] at h
    refine pg_iconst 0 dX11_mixLinks_34 rfl ?_
    refine eg_istore [some (.ref 0), some (.long v1), none, some (.long s.1), none, some (.int s.2.1), some (.int 0)] 0 dX11_mixLinks_35 rfl (Nat.le_of_ble_eq_true rfl) rfl ?_
    obtain ⟨s9, h_s9, h⟩ := bd_at h
    refine lo_at (b := b_X11_mixLinks_37 v1 s.2.1) (G := (fun z9 : Int64 × Int32 × me => pm_G g mX11_mixLinks X 37 [some (.ref 0), some (.long v1), none, some (.long z9.1), none, some (.int s.2.1), some (.int z9.2.1)] [] (en S z9.2.2) 0 0)) (T := (fun z8 : ((Int64 × Int32 × me) ⊕ ((Int64 ⊕ Nat) × me)) => (∀ z9, z8 = .inl z9 → pm_G g mX11_mixLinks X 64 [some (.ref 0), some (.long v1), none, some (.long z9.1), none, some (.int s.2.1), some (.int z9.2.1)] [] (en S z9.2.2) 0 0) ∧ (∀ x9, z8 = .inr x9 → pm_End g mX11_mixLinks X (kC x9) (nC x9) (qTJ S x9) (qX S x9)))) (fun q9 r9 h1 h2 h3 => lb_X11_mixLinks_37 hfl hS h1 h2 h3) 2048 (s.1, 0, s.2.2) s9 h_s9 ⟨fun s10 k_s10 => ?_, fun x11 k_x11 => ?_⟩
    · rw [k_s10] at h
      replace h := sm_l h
      show pm_G g mX11_mixLinks X 64 [some (.ref 0), some (.long v1), none, some (.long s10.1), none, some (.int s.2.1), some (.int s10.2.1)] [] (en S s10.2.2) 0 0
      refine pg_iconst 0 dX11_mixLinks_64 rfl ?_
      refine eg_istore [some (.ref 0), some (.long v1), none, some (.long s10.1), none, some (.int s.2.1), some (.int 0)] 0 dX11_mixLinks_65 rfl (Nat.le_of_ble_eq_true rfl) rfl ?_
      obtain ⟨s18, h_s18, h⟩ := bd_at h
      refine lo_at (b := b_X11_mixLinks_67 v1 s.2.1) (G := (fun z9 : Int64 × Int32 × me => pm_G g mX11_mixLinks X 67 [some (.ref 0), some (.long v1), none, some (.long z9.1), none, some (.int s.2.1), some (.int z9.2.1)] [] (en S z9.2.2) 0 0)) (T := (fun z8 : ((Int64 × Int32 × me) ⊕ ((Int64 ⊕ Nat) × me)) => (∀ z9, z8 = .inl z9 → pm_G g mX11_mixLinks X 94 [some (.ref 0), some (.long v1), none, some (.long z9.1), none, some (.int s.2.1), some (.int z9.2.1)] [] (en S z9.2.2) 0 0) ∧ (∀ x9, z8 = .inr x9 → pm_End g mX11_mixLinks X (kC x9) (nC x9) (qTJ S x9) (qX S x9)))) (fun q9 r9 h1 h2 h3 => lb_X11_mixLinks_67 hfl hS h1 h2 h3) 2048 (s10.1, 0, s10.2.2) s18 h_s18 ⟨fun s19 k_s19 => ?_, fun x20 k_x20 => ?_⟩
      · rw [k_s19] at h
        replace h := sm_l h
        show pm_G g mX11_mixLinks X 94 [some (.ref 0), some (.long v1), none, some (.long s19.1), none, some (.int s.2.1), some (.int s19.2.1)] [] (en S s19.2.2) 0 0
        refine pg_iconst 0 dX11_mixLinks_94 rfl ?_
        refine eg_istore [some (.ref 0), some (.long v1), none, some (.long s19.1), none, some (.int s.2.1), some (.int 0)] 0 dX11_mixLinks_95 rfl (Nat.le_of_ble_eq_true rfl) rfl ?_
        obtain ⟨s27, h_s27, h⟩ := bd_at h
        refine lo_at (b := b_X11_mixLinks_97 v1 s.2.1) (G := (fun z9 : Int64 × Int32 × me => pm_G g mX11_mixLinks X 97 [some (.ref 0), some (.long v1), none, some (.long z9.1), none, some (.int s.2.1), some (.int z9.2.1)] [] (en S z9.2.2) 0 0)) (T := (fun z8 : ((Int64 × Int32 × me) ⊕ ((Int64 ⊕ Nat) × me)) => (∀ z9, z8 = .inl z9 → pm_G g mX11_mixLinks X 124 [some (.ref 0), some (.long v1), none, some (.long z9.1), none, some (.int s.2.1), some (.int z9.2.1)] [] (en S z9.2.2) 0 0) ∧ (∀ x9, z8 = .inr x9 → pm_End g mX11_mixLinks X (kC x9) (nC x9) (qTJ S x9) (qX S x9)))) (fun q9 r9 h1 h2 h3 => lb_X11_mixLinks_97 hfl hS h1 h2 h3) 2048 (s19.1, 0, s19.2.2) s27 h_s27 ⟨fun s28 k_s28 => ?_, fun x29 k_x29 => ?_⟩
        · rw [k_s28] at h
          replace h := sm_l h
          show pm_G g mX11_mixLinks X 124 [some (.ref 0), some (.long v1), none, some (.long s28.1), none, some (.int s.2.1), some (.int s28.2.1)] [] (en S s28.2.2) 0 0
          refine pg_iconst 0 dX11_mixLinks_124 rfl ?_
          refine eg_istore [some (.ref 0), some (.long v1), none, some (.long s28.1), none, some (.int s.2.1), some (.int 0)] 0 dX11_mixLinks_125 rfl (Nat.le_of_ble_eq_true rfl) rfl ?_
          obtain ⟨s36, h_s36, h⟩ := bd_at h
          refine lo_at (b := b_X11_mixLinks_127 v1 s.2.1) (G := (fun z9 : Int64 × Int32 × me => pm_G g mX11_mixLinks X 127 [some (.ref 0), some (.long v1), none, some (.long z9.1), none, some (.int s.2.1), some (.int z9.2.1)] [] (en S z9.2.2) 0 0)) (T := (fun z8 : ((Int64 × Int32 × me) ⊕ ((Int64 ⊕ Nat) × me)) => (∀ z9, z8 = .inl z9 → pm_G g mX11_mixLinks X 153 [some (.ref 0), some (.long v1), none, some (.long z9.1), none, some (.int s.2.1), some (.int z9.2.1)] [] (en S z9.2.2) 0 0) ∧ (∀ x9, z8 = .inr x9 → pm_End g mX11_mixLinks X (kC x9) (nC x9) (qTJ S x9) (qX S x9)))) (fun q9 r9 h1 h2 h3 => lb_X11_mixLinks_127 hfl hS h1 h2 h3) 2048 (s28.1, 0, s28.2.2) s36 h_s36 ⟨fun s37 k_s37 => ?_, fun x38 k_x38 => ?_⟩
          · rw [k_s37] at h
            replace h := sm_l h
            show pm_G g mX11_mixLinks X 153 [some (.ref 0), some (.long v1), none, some (.long s37.1), none, some (.int s.2.1), some (.int s37.2.1)] [] (en S s37.2.2) 0 0
            obtain ⟨w39, e_w39⟩ : ∃ z : Int32, z = s.2.1 + 1 := ⟨_, rfl⟩
            replace h := lt_at h e_w39
            refine eg_iinc [some (.ref 0), some (.long v1), none, some (.long s37.1), none, some (.int w39), some (.int s37.2.1)] w39 1 dX11_mixLinks_153 rfl rfl e_w39 rfl ?_
            refine pg_goto 19 dX11_mixLinks_156 (by decide) ?_
            obtain rfl := Option.some.inj h
            refine eg_forget [some (.ref 0), some (.long v1), none, some (.long s37.1), none, some (.int w39), none] (show pm_sub _ _ from ⟨rfl, ⟨rfl, ⟨rfl, ⟨rfl, trivial⟩⟩⟩⟩) ?_
            exact hN _ rfl
          · rw [k_x38] at h
            replace h := sm_r h
            obtain rfl := Option.some.inj h
            exact (hT _ rfl).2 _ rfl
        · rw [k_x29] at h
          replace h := sm_r h
          obtain rfl := Option.some.inj h
          exact (hT _ rfl).2 _ rfl
      · rw [k_x20] at h
        replace h := sm_r h
        obtain rfl := Option.some.inj h
        exact (hT _ rfl).2 _ rfl
    · rw [k_x11] at h
      replace h := sm_r h
      obtain rfl := Option.some.inj h
      exact (hT _ rfl).2 _ rfl
set_option maxRecDepth 20000 in
set_option maxHeartbeats 4000000 in
theorem ct_X11_mixLinks (hfl : g.1.stackTraces = false) (hS : pS 0 138 S) {v1 : Int64} {m0 : me} {x : ((Int64 ⊕ Nat) × me)} (h : f_X11_mixLinks v1 m0 = some x) : pm_Ct g mX11_mixLinks [.ref 0, .long v1] (en S m0) (kC x) (nC x) (qTJ S x) (qX S x) := by
  refine pm_of (by decide +kernel) rfl hfl (Nat.le_of_ble_eq_true rfl) (fun X hE => ?_)
  show pm_G g mX11_mixLinks X 0 [some (.ref 0), some (.long v1), none, none, none, none, none] [] (en S m0) 0 0
  unfold f_X11_mixLinks at h
  refine pg_lload_n dX11_mixLinks_0 rfl ?_
  refine pg_aload_n dX11_mixLinks_1 rfl ?_
  refine eg_get dX11_mixLinks_2 fa_X11_12 hS sp0 (Nat.le_of_ble_eq_true rfl) (Nat.le_of_ble_eq_true rfl) rfl rfl ?_
  refine eg_get dX11_mixLinks_5 fa_X11_112 hS sp1 (Nat.le_of_ble_eq_true rfl) (Nat.le_of_ble_eq_true rfl) rfl rfl ?_
  refine eg_get dX11_mixLinks_8 fa_X11_191 hS sp11 (Nat.le_of_ble_eq_true rfl) (Nat.le_of_ble_eq_true rfl) rfl rfl ?_
  refine pg_i2l dX11_mixLinks_11 ?_
  obtain ⟨r1, h_r1, h⟩ := bd_at h
  refine eg_cSj (C := mX11_mix) (as := [(.long v1), (.long ((m0.1 11 0).toInt64))]) dX11_mixLinks_12 mw521 cs_X11_mix rfl rfl (Nat.le_of_ble_eq_true rfl) rfl ⟨(Nat.le_of_ble_eq_true rfl), (Nat.le_of_ble_eq_true rfl)⟩ (ct_X11_mix hfl h_r1) ?_
  refine eg_lstore_n [some (.ref 0), some (.long v1), none, some (.long r1.1), none, none, none] r1.1 dX11_mixLinks_15 rfl (Nat.le_of_ble_eq_true rfl) rfl ?_
  refine pg_iconst 0 dX11_mixLinks_16 rfl ?_
  refine eg_istore [some (.ref 0), some (.long v1), none, some (.long r1.1), none, some (.int 0), none] 0 dX11_mixLinks_17 rfl (Nat.le_of_ble_eq_true rfl) rfl ?_
  obtain ⟨s40, h_s40, h⟩ := bd_at h
  refine lo_at (b := b_X11_mixLinks_19 v1) (G := (fun z9 : Int64 × Int32 × me => pm_G g mX11_mixLinks X 19 [some (.ref 0), some (.long v1), none, some (.long z9.1), none, some (.int z9.2.1), none] [] (en S z9.2.2) 0 0)) (T := (fun z8 : ((Int64 × Int32 × me) ⊕ ((Int64 ⊕ Nat) × me)) => (∀ z9, z8 = .inl z9 → pm_G g mX11_mixLinks X 159 [some (.ref 0), some (.long v1), none, some (.long z9.1), none, some (.int z9.2.1), none] [] (en S z9.2.2) 0 0) ∧ (∀ x9, z8 = .inr x9 → pm_End g mX11_mixLinks X (kC x9) (nC x9) (qTJ S x9) (qX S x9)))) (fun q9 r9 h1 h2 h3 => lb_X11_mixLinks_19 hfl hS h1 h2 h3) 2048 (r1.1, 0, r1.2) s40 h_s40 ⟨fun s41 k_s41 => ?_, fun x42 k_x42 => ?_⟩
  · rw [k_s41] at h
    replace h := sm_l h
    show pm_G g mX11_mixLinks X 159 [some (.ref 0), some (.long v1), none, some (.long s41.1), none, some (.int s41.2.1), none] [] (en S s41.2.2) 0 0
    refine pg_lload_n dX11_mixLinks_159 rfl ?_
    obtain rfl := Option.some.inj h
    exact hE.2.2.2.1 _ _ _ _ _ _ dX11_mixLinks_160 rfl (Nat.zero_le _) (Nat.zero_le _) ⟨_, rfl, rfl, rfl⟩
  · rw [k_x42] at h
    replace h := sm_r h
    obtain rfl := Option.some.inj h
    exact hE
def b_X3_countWonBy_4 (v1 : Int32) (s : Int32 × Int32 × me) : Option ((Int32 × Int32 × me) ⊕ (Int32 × Int32 × me)) :=
  if (s.2.2.1 11 0) ≤ s.2.1 then
    some (.inr (s.1, s.2.1, s.2.2))
  else
    gd (inR s.2.1 16) (
    if (s.2.2.1 17 s.2.1.toNatClampNeg) = v1 then
      lt (s.1 + 1) (fun w4 =>
      lt (s.2.1 + 1) (fun w5 =>
      some (.inl (w4, w5, s.2.2))))
    else
      lt (s.2.1 + 1) (fun w3 =>
      some (.inl (s.1, w3, s.2.2))))
def f_X3_countWonBy (v1 : Int32) (m0 : me) : Option (Int32 × me) :=
  bd (lo (b_X3_countWonBy_4 v1) 2048 (0, 0, m0)) (fun s6 =>
  some ((s6.1, s6.2.2)))
set_option maxRecDepth 20000 in
set_option maxHeartbeats 4000000 in
theorem lb_X3_countWonBy_4 (hfl : g.1.stackTraces = false) (hS : pS 1 28 S) {v1 : Int32} {s : Int32 × Int32 × me} {r : (Int32 × Int32 × me) ⊕ (Int32 × Int32 × me)} (h : b_X3_countWonBy_4 v1 s = some r) (hN : ∀ s', r = .inl s' → (fun z9 : Int32 × Int32 × me => pm_G g mX3_countWonBy X 4 [some (.ref 11), some (.int v1), some (.int z9.1), some (.int z9.2.1)] [] (en S z9.2.2) 0 0) s') (hT : ∀ t, r = .inr t → (fun z9 : Int32 × Int32 × me => pm_G g mX3_countWonBy X 31 [some (.ref 11), some (.int v1), some (.int z9.1), some (.int z9.2.1)] [] (en S z9.2.2) 0 0) t) : (fun z9 : Int32 × Int32 × me => pm_G g mX3_countWonBy X 4 [some (.ref 11), some (.int v1), some (.int z9.1), some (.int z9.2.1)] [] (en S z9.2.2) 0 0) s := by
  unfold b_X3_countWonBy_4 at h
  show pm_G g mX3_countWonBy X 4 [some (.ref 11), some (.int v1), some (.int s.1), some (.int s.2.1)] [] (en S s.2.2) 0 0
  refine pg_iload_n dX3_countWonBy_4 rfl ?_
  refine pg_aload_n dX3_countWonBy_5 rfl ?_
  refine eg_get dX3_countWonBy_6 fa_X3_46 hS sp11 (Nat.le_of_ble_eq_true rfl) (Nat.le_of_ble_eq_true rfl) rfl rfl ?_
  refine pg_icmp_ge 31 dX3_countWonBy_9 (by decide) (fun c1 => ?_) (fun c1 => ?_)
  · rw [if_pos c1] at h
    obtain rfl := Option.some.inj h
    exact hT _ rfl
  · rw [if_neg c1] at h
    refine pg_aload_n dX3_countWonBy_12 rfl ?_
    refine eg_get dX3_countWonBy_13 fa_X3_28 hS sp11 (Nat.le_of_ble_eq_true rfl) (Nat.le_of_ble_eq_true rfl) rfl rfl ?_
    refine pg_iload_n dX3_countWonBy_16 rfl ?_
    obtain ⟨g1, h⟩ := gd_at h
    refine eg_ialdJ s.2.1.toNatClampNeg dX3_countWonBy_17 hS sp17 (Nat.le_of_ble_eq_true rfl) (Nat.le_of_ble_eq_true rfl) rfl (inR_vp g1) rfl ?_
    refine pg_iload_n dX3_countWonBy_18 rfl ?_
    refine pg_icmp_ne 25 dX3_countWonBy_19 (by decide) (fun c2 => ?_) (fun c2 => ?_)
    · rw [if_neg c2] at h
      obtain ⟨w3, e_w3⟩ : ∃ z : Int32, z = s.2.1 + 1 := ⟨_, rfl⟩
      replace h := lt_at h e_w3
      refine eg_iinc [some (.ref 11), some (.int v1), some (.int s.1), some (.int w3)] w3 1 dX3_countWonBy_25 rfl rfl e_w3 rfl ?_
      refine pg_goto 4 dX3_countWonBy_28 (by decide) ?_
      obtain rfl := Option.some.inj h
      exact hN _ rfl
    · rw [if_pos c2] at h
      obtain ⟨w4, e_w4⟩ : ∃ z : Int32, z = s.1 + 1 := ⟨_, rfl⟩
      replace h := lt_at h e_w4
      refine eg_iinc [some (.ref 11), some (.int v1), some (.int w4), some (.int s.2.1)] w4 1 dX3_countWonBy_22 rfl rfl e_w4 rfl ?_
      obtain ⟨w5, e_w5⟩ : ∃ z : Int32, z = s.2.1 + 1 := ⟨_, rfl⟩
      replace h := lt_at h e_w5
      refine eg_iinc [some (.ref 11), some (.int v1), some (.int w4), some (.int w5)] w5 1 dX3_countWonBy_25 rfl rfl e_w5 rfl ?_
      refine pg_goto 4 dX3_countWonBy_28 (by decide) ?_
      obtain rfl := Option.some.inj h
      exact hN _ rfl
set_option maxRecDepth 20000 in
set_option maxHeartbeats 4000000 in
theorem ct_X3_countWonBy (hfl : g.1.stackTraces = false) (hS : pS 1 28 S) {v1 : Int32} {m0 : me} {x : (Int32 × me)} (h : f_X3_countWonBy v1 m0 = some x) : pm_Ct g mX3_countWonBy [.ref 11, .int v1] (en S m0) 0 0 (qI S x) qF := by
  refine pm_of (by decide +kernel) rfl hfl (Nat.le_of_ble_eq_true rfl) (fun X hE => ?_)
  show pm_G g mX3_countWonBy X 0 [some (.ref 11), some (.int v1), none, none] [] (en S m0) 0 0
  unfold f_X3_countWonBy at h
  refine pg_iconst 0 dX3_countWonBy_0 rfl ?_
  refine eg_istore_n [some (.ref 11), some (.int v1), some (.int 0), none] 0 dX3_countWonBy_1 rfl (Nat.le_of_ble_eq_true rfl) rfl ?_
  refine pg_iconst 0 dX3_countWonBy_2 rfl ?_
  refine eg_istore_n [some (.ref 11), some (.int v1), some (.int 0), some (.int 0)] 0 dX3_countWonBy_3 rfl (Nat.le_of_ble_eq_true rfl) rfl ?_
  obtain ⟨s6, h_s6, h⟩ := bd_at h
  refine lo_at (b := b_X3_countWonBy_4 v1) (G := (fun z9 : Int32 × Int32 × me => pm_G g mX3_countWonBy X 4 [some (.ref 11), some (.int v1), some (.int z9.1), some (.int z9.2.1)] [] (en S z9.2.2) 0 0)) (T := (fun z9 : Int32 × Int32 × me => pm_G g mX3_countWonBy X 31 [some (.ref 11), some (.int v1), some (.int z9.1), some (.int z9.2.1)] [] (en S z9.2.2) 0 0)) (fun q9 r9 h1 h2 h3 => lb_X3_countWonBy_4 hfl hS h1 h2 h3) 2048 (0, 0, m0) s6 h_s6 ?_
  show pm_G g mX3_countWonBy X 31 [some (.ref 11), some (.int v1), some (.int s6.1), some (.int s6.2.1)] [] (en S s6.2.2) 0 0
  refine pg_iload_n dX3_countWonBy_31 rfl ?_
  obtain rfl := Option.some.inj h
  exact hE.2.1 _ _ _ _ _ _ .int dX3_countWonBy_32 rfl rfl (Nat.zero_le _) (Nat.zero_le _) ⟨rfl, rfl⟩
def f_X11_tenant (v1 : Int32) (v2 : Int32) (m0 : me) : Option ((Int32 ⊕ Nat) × me) :=
  bd (f_X11_isOutside v1 0 3 m0) (fun r1 =>
  if r1.1 = 0 then
    bd (f_X11_isOutside v2 0 3 r1.2) (fun r3 =>
    if r3.1 = 0 then
      if v2 = 0 then
        gd (inR v1 4) (
        some ((.inl (r3.2.1 24 v1.toNatClampNeg), r3.2)))
      else
        if v2 = 1 then
          bd (f_X3_countWonBy v1 r3.2) (fun r7 =>
          some ((.inl r7.1, r7.2)))
        else
          if v2 = 2 then
            gd (inR v1 4) (
            some ((.inl (r3.2.1 25 v1.toNatClampNeg), r3.2)))
          else
            gd (inR v1 4) (
            some ((.inl (r3.2.1 26 v1.toNatClampNeg), r3.2)))
    else
      some ((.inr 1, r3.2)))
  else
    some ((.inr 0, r1.2)))
set_option maxRecDepth 20000 in
set_option maxHeartbeats 4000000 in
theorem ct_X11_tenant (hfl : g.1.stackTraces = false) (hS : pS 0 138 S) {v1 : Int32} {v2 : Int32} {m0 : me} {x : ((Int32 ⊕ Nat) × me)} (h : f_X11_tenant v1 v2 m0 = some x) : pm_Ct g mX11_tenant [.ref 0, .int v1, .int v2] (en S m0) (kC x) (nC x) (qTI S x) (qX S x) := by
  refine pm_of (by decide +kernel) rfl hfl (Nat.le_of_ble_eq_true rfl) (fun X hE => ?_)
  show pm_G g mX11_tenant X 0 [some (.ref 0), some (.int v1), some (.int v2)] [] (en S m0) 0 0
  unfold f_X11_tenant at h
  refine pg_iload_n dX11_tenant_0 rfl ?_
  refine pg_iconst 0 dX11_tenant_1 rfl ?_
  refine pg_iconst 3 dX11_tenant_2 rfl ?_
  obtain ⟨r1, h_r1, h⟩ := bd_at h
  refine eg_cSi (C := mX11_isOutside) (as := [(.int v1), (.int 0), (.int 3)]) dX11_tenant_3 mw390 cs_X11_isOutside rfl rfl (Nat.le_of_ble_eq_true rfl) rfl ⟨(Nat.le_of_ble_eq_true rfl), (Nat.le_of_ble_eq_true rfl)⟩ (ct_X11_isOutside hfl h_r1) ?_
  refine pg_if_eq 19 dX11_tenant_6 (by decide) (fun c2 => ?_) (fun c2 => ?_)
  · rw [if_pos c2] at h
    refine pg_iload_n dX11_tenant_19 rfl ?_
    refine pg_iconst 0 dX11_tenant_20 rfl ?_
    refine pg_iconst 3 dX11_tenant_21 rfl ?_
    obtain ⟨r3, h_r3, h⟩ := bd_at h
    refine eg_cSi (C := mX11_isOutside) (as := [(.int v2), (.int 0), (.int 3)]) dX11_tenant_22 mw390 cs_X11_isOutside rfl rfl (Nat.le_of_ble_eq_true rfl) rfl ⟨(Nat.le_of_ble_eq_true rfl), (Nat.le_of_ble_eq_true rfl)⟩ (ct_X11_isOutside hfl h_r3) ?_
    refine pg_if_eq 38 dX11_tenant_25 (by decide) (fun c4 => ?_) (fun c4 => ?_)
    · rw [if_pos c4] at h
      refine pg_iload_n dX11_tenant_38 rfl ?_
      by_cases c5 : v2 = 0
      · rw [if_pos c5] at h
        refine pg_tabIn (off := 25) 64 dX11_tenant_39 (by rw [c5]; decide) (by rw [c5]; decide) (by rw [c5]; decide) (by decide) ?_
        refine pg_aload_n dX11_tenant_64 rfl ?_
        refine eg_get dX11_tenant_65 fa_X11_12 hS sp0 (Nat.le_of_ble_eq_true rfl) (Nat.le_of_ble_eq_true rfl) rfl rfl ?_
        refine eg_get dX11_tenant_68 fa_X11_141 hS sp1 (Nat.le_of_ble_eq_true rfl) (Nat.le_of_ble_eq_true rfl) rfl rfl ?_
        refine eg_get dX11_tenant_71 fa_X11_157 hS sp23 (Nat.le_of_ble_eq_true rfl) (Nat.le_of_ble_eq_true rfl) rfl rfl ?_
        refine pg_iload_n dX11_tenant_74 rfl ?_
        obtain ⟨g1, h⟩ := gd_at h
        refine eg_ialdJ v1.toNatClampNeg dX11_tenant_75 hS sp24 (Nat.le_of_ble_eq_true rfl) (Nat.le_of_ble_eq_true rfl) rfl (inR_vp g1) rfl ?_
        obtain rfl := Option.some.inj h
        exact hE.2.1 _ _ _ _ _ _ .int dX11_tenant_76 rfl rfl (Nat.zero_le _) (Nat.zero_le _) ⟨_, rfl, rfl, rfl⟩
      · rw [if_neg c5] at h
        by_cases c6 : v2 = 1
        · rw [if_pos c6] at h
          refine pg_tabIn (off := 38) 77 dX11_tenant_39 (by rw [c6]; decide) (by rw [c6]; decide) (by rw [c6]; decide) (by decide) ?_
          refine pg_aload_n dX11_tenant_77 rfl ?_
          refine eg_get dX11_tenant_78 fa_X11_12 hS sp0 (Nat.le_of_ble_eq_true rfl) (Nat.le_of_ble_eq_true rfl) rfl rfl ?_
          refine eg_get dX11_tenant_81 fa_X11_112 hS sp1 (Nat.le_of_ble_eq_true rfl) (Nat.le_of_ble_eq_true rfl) rfl rfl ?_
          refine pg_iload_n dX11_tenant_84 rfl ?_
          obtain ⟨r7, h_r7, h⟩ := bd_at h
          refine eg_cVi (C := mX3_countWonBy) (as := [(.int v1)]) dX11_tenant_85 mw615 cv_X3_countWonBy hS sp11 (Nat.le_of_ble_eq_true rfl) (Nat.le_of_ble_eq_true rfl) rfl rfl rfl (Nat.le_of_ble_eq_true rfl) rfl ⟨(Nat.le_of_ble_eq_true rfl), (Nat.le_of_ble_eq_true rfl)⟩ (ct_X3_countWonBy hfl (hS.sub (Nat.le_of_ble_eq_true rfl) (Nat.le_of_ble_eq_true rfl)) h_r7) ?_
          obtain rfl := Option.some.inj h
          exact hE.2.1 _ _ _ _ _ _ .int dX11_tenant_88 rfl rfl (Nat.zero_le _) (Nat.zero_le _) ⟨_, rfl, rfl, rfl⟩
        · rw [if_neg c6] at h
          by_cases c8 : v2 = 2
          · rw [if_pos c8] at h
            refine pg_tabIn (off := 50) 89 dX11_tenant_39 (by rw [c8]; decide) (by rw [c8]; decide) (by rw [c8]; decide) (by decide) ?_
            refine pg_aload_n dX11_tenant_89 rfl ?_
            refine eg_get dX11_tenant_90 fa_X11_12 hS sp0 (Nat.le_of_ble_eq_true rfl) (Nat.le_of_ble_eq_true rfl) rfl rfl ?_
            refine eg_get dX11_tenant_93 fa_X11_141 hS sp1 (Nat.le_of_ble_eq_true rfl) (Nat.le_of_ble_eq_true rfl) rfl rfl ?_
            refine eg_get dX11_tenant_96 fa_X11_216 hS sp23 (Nat.le_of_ble_eq_true rfl) (Nat.le_of_ble_eq_true rfl) rfl rfl ?_
            refine pg_iload_n dX11_tenant_99 rfl ?_
            obtain ⟨g1, h⟩ := gd_at h
            refine eg_ialdJ v1.toNatClampNeg dX11_tenant_100 hS sp25 (Nat.le_of_ble_eq_true rfl) (Nat.le_of_ble_eq_true rfl) rfl (inR_vp g1) rfl ?_
            obtain rfl := Option.some.inj h
            exact hE.2.1 _ _ _ _ _ _ .int dX11_tenant_101 rfl rfl (Nat.zero_le _) (Nat.zero_le _) ⟨_, rfl, rfl, rfl⟩
          · rw [if_neg c8] at h
            have k_c5 := lv_neT c5 (show (0 : Int32).toInt = 0 from rfl)
            have k_c6 := lv_neT c6 (show (1 : Int32).toInt = 1 from rfl)
            have k_c8 := lv_neT c8 (show (2 : Int32).toInt = 2 from rfl)
            refine pg_tabOut 102 dX11_tenant_39 (by omega) (by decide) ?_
            refine pg_aload_n dX11_tenant_102 rfl ?_
            refine eg_get dX11_tenant_103 fa_X11_12 hS sp0 (Nat.le_of_ble_eq_true rfl) (Nat.le_of_ble_eq_true rfl) rfl rfl ?_
            refine eg_get dX11_tenant_106 fa_X11_141 hS sp1 (Nat.le_of_ble_eq_true rfl) (Nat.le_of_ble_eq_true rfl) rfl rfl ?_
            refine eg_get dX11_tenant_109 fa_X11_219 hS sp23 (Nat.le_of_ble_eq_true rfl) (Nat.le_of_ble_eq_true rfl) rfl rfl ?_
            refine pg_iload_n dX11_tenant_112 rfl ?_
            obtain ⟨g1, h⟩ := gd_at h
            refine eg_ialdJ v1.toNatClampNeg dX11_tenant_113 hS sp26 (Nat.le_of_ble_eq_true rfl) (Nat.le_of_ble_eq_true rfl) rfl (inR_vp g1) rfl ?_
            obtain rfl := Option.some.inj h
            exact hE.2.1 _ _ _ _ _ _ .int dX11_tenant_114 rfl rfl (Nat.zero_le _) (Nat.zero_le _) ⟨_, rfl, rfl, rfl⟩
    · rw [if_neg c4] at h
      obtain rfl := Option.some.inj h
      exact hE.2.2.2.2.2.1 _ _ _ _ _ _ _ _ _ _ _ th0 rfl rfl dX11_tenant_28 dX11_tenant_31 dX11_tenant_32 dX11_tenant_34 dX11_tenant_37 rfl (Nat.le_of_ble_eq_true rfl) (Nat.le_of_ble_eq_true rfl) (Nat.le_of_ble_eq_true rfl) (Nat.le_of_ble_eq_true rfl) ⟨_, rfl, rfl, rfl⟩
  · rw [if_neg c2] at h
    obtain rfl := Option.some.inj h
    exact hE.2.2.2.2.2.1 _ _ _ _ _ _ _ _ _ _ _ th6 rfl rfl dX11_tenant_9 dX11_tenant_12 dX11_tenant_13 dX11_tenant_15 dX11_tenant_18 rfl (Nat.le_of_ble_eq_true rfl) (Nat.le_of_ble_eq_true rfl) (Nat.le_of_ble_eq_true rfl) (Nat.le_of_ble_eq_true rfl) ⟨_, rfl, rfl, rfl⟩
def b_X3_countCarrying_4 (s : Int32 × Int32 × me) : Option ((Int32 × Int32 × me) ⊕ (Int32 × Int32 × me)) :=
  if (s.2.2.1 11 0) ≤ s.2.1 then
    some (.inr (s.1, s.2.1, s.2.2))
  else
    bd (f_X3_carries s.2.1 s.2.2) (fun r2 =>
    if r2.1 = 0 then
      lt (s.2.1 + 1) (fun w4 =>
      some (.inl (s.1, w4, r2.2)))
    else
      lt (s.1 + 1) (fun w5 =>
      lt (s.2.1 + 1) (fun w6 =>
      some (.inl (w5, w6, r2.2)))))
def f_X3_countCarrying (m0 : me) : Option (Int32 × me) :=
  bd (lo (b_X3_countCarrying_4) 2048 (0, 0, m0)) (fun s7 =>
  some ((s7.1, s7.2.2)))
set_option maxRecDepth 20000 in
set_option maxHeartbeats 4000000 in
theorem lb_X3_countCarrying_4 (hfl : g.1.stackTraces = false) (hS : pS 1 28 S) {s : Int32 × Int32 × me} {r : (Int32 × Int32 × me) ⊕ (Int32 × Int32 × me)} (h : b_X3_countCarrying_4 s = some r) (hN : ∀ s', r = .inl s' → (fun z9 : Int32 × Int32 × me => pm_G g mX3_countCarrying X 4 [some (.ref 11), some (.int z9.1), some (.int z9.2.1)] [] (en S z9.2.2) 0 0) s') (hT : ∀ t, r = .inr t → (fun z9 : Int32 × Int32 × me => pm_G g mX3_countCarrying X 29 [some (.ref 11), some (.int z9.1), some (.int z9.2.1)] [] (en S z9.2.2) 0 0) t) : (fun z9 : Int32 × Int32 × me => pm_G g mX3_countCarrying X 4 [some (.ref 11), some (.int z9.1), some (.int z9.2.1)] [] (en S z9.2.2) 0 0) s := by
  unfold b_X3_countCarrying_4 at h
  show pm_G g mX3_countCarrying X 4 [some (.ref 11), some (.int s.1), some (.int s.2.1)] [] (en S s.2.2) 0 0
  refine pg_iload_n dX3_countCarrying_4 rfl ?_
  refine pg_aload_n dX3_countCarrying_5 rfl ?_
  refine eg_get dX3_countCarrying_6 fa_X3_46 hS sp11 (Nat.le_of_ble_eq_true rfl) (Nat.le_of_ble_eq_true rfl) rfl rfl ?_
  refine pg_icmp_ge 29 dX3_countCarrying_9 (by decide) (fun c1 => ?_) (fun c1 => ?_)
  · rw [if_pos c1] at h
    obtain rfl := Option.some.inj h
    exact hT _ rfl
  · rw [if_neg c1] at h
    refine pg_aload_n dX3_countCarrying_12 rfl ?_
    refine pg_iload_n dX3_countCarrying_13 rfl ?_
    obtain ⟨r2, h_r2, h⟩ := bd_at h
    refine eg_cVi (C := mX3_carries) (as := [(.int s.2.1)]) dX3_countCarrying_14 mw609 cv_X3_carries hS sp11 (Nat.le_of_ble_eq_true rfl) (Nat.le_of_ble_eq_true rfl) rfl rfl rfl (Nat.le_of_ble_eq_true rfl) rfl ⟨(Nat.le_of_ble_eq_true rfl), (Nat.le_of_ble_eq_true rfl)⟩ (ct_X3_carries hfl (hS.sub (Nat.le_of_ble_eq_true rfl) (Nat.le_of_ble_eq_true rfl)) h_r2) ?_
    refine pg_if_eq 23 dX3_countCarrying_17 (by decide) (fun c3 => ?_) (fun c3 => ?_)
    · rw [if_pos c3] at h
      obtain ⟨w4, e_w4⟩ : ∃ z : Int32, z = s.2.1 + 1 := ⟨_, rfl⟩
      replace h := lt_at h e_w4
      refine eg_iinc [some (.ref 11), some (.int s.1), some (.int w4)] w4 1 dX3_countCarrying_23 rfl rfl e_w4 rfl ?_
      refine pg_goto 4 dX3_countCarrying_26 (by decide) ?_
      obtain rfl := Option.some.inj h
      exact hN _ rfl
    · rw [if_neg c3] at h
      obtain ⟨w5, e_w5⟩ : ∃ z : Int32, z = s.1 + 1 := ⟨_, rfl⟩
      replace h := lt_at h e_w5
      refine eg_iinc [some (.ref 11), some (.int w5), some (.int s.2.1)] w5 1 dX3_countCarrying_20 rfl rfl e_w5 rfl ?_
      obtain ⟨w6, e_w6⟩ : ∃ z : Int32, z = s.2.1 + 1 := ⟨_, rfl⟩
      replace h := lt_at h e_w6
      refine eg_iinc [some (.ref 11), some (.int w5), some (.int w6)] w6 1 dX3_countCarrying_23 rfl rfl e_w6 rfl ?_
      refine pg_goto 4 dX3_countCarrying_26 (by decide) ?_
      obtain rfl := Option.some.inj h
      exact hN _ rfl
set_option maxRecDepth 20000 in
set_option maxHeartbeats 4000000 in
theorem ct_X3_countCarrying (hfl : g.1.stackTraces = false) (hS : pS 1 28 S) {m0 : me} {x : (Int32 × me)} (h : f_X3_countCarrying m0 = some x) : pm_Ct g mX3_countCarrying [.ref 11] (en S m0) 0 0 (qI S x) qF := by
  refine pm_of (by decide +kernel) rfl hfl (Nat.le_of_ble_eq_true rfl) (fun X hE => ?_)
  show pm_G g mX3_countCarrying X 0 [some (.ref 11), none, none] [] (en S m0) 0 0
  unfold f_X3_countCarrying at h
  refine pg_iconst 0 dX3_countCarrying_0 rfl ?_
  refine eg_istore_n [some (.ref 11), some (.int 0), none] 0 dX3_countCarrying_1 rfl (Nat.le_of_ble_eq_true rfl) rfl ?_
  refine pg_iconst 0 dX3_countCarrying_2 rfl ?_
  refine eg_istore_n [some (.ref 11), some (.int 0), some (.int 0)] 0 dX3_countCarrying_3 rfl (Nat.le_of_ble_eq_true rfl) rfl ?_
  obtain ⟨s7, h_s7, h⟩ := bd_at h
  refine lo_at (b := b_X3_countCarrying_4) (G := (fun z9 : Int32 × Int32 × me => pm_G g mX3_countCarrying X 4 [some (.ref 11), some (.int z9.1), some (.int z9.2.1)] [] (en S z9.2.2) 0 0)) (T := (fun z9 : Int32 × Int32 × me => pm_G g mX3_countCarrying X 29 [some (.ref 11), some (.int z9.1), some (.int z9.2.1)] [] (en S z9.2.2) 0 0)) (fun q9 r9 h1 h2 h3 => lb_X3_countCarrying_4 hfl hS h1 h2 h3) 2048 (0, 0, m0) s7 h_s7 ?_
  show pm_G g mX3_countCarrying X 29 [some (.ref 11), some (.int s7.1), some (.int s7.2.1)] [] (en S s7.2.2) 0 0
  refine pg_iload_n dX3_countCarrying_29 rfl ?_
  obtain rfl := Option.some.inj h
  exact hE.2.1 _ _ _ _ _ _ .int dX3_countCarrying_30 rfl rfl (Nat.zero_le _) (Nat.zero_le _) ⟨rfl, rfl⟩
end
