section
variable {g : pm_Gl} {X : pm_X} {S : List sF}
def f_X11_time (m0 : me) : Option (Int32 × me) :=
  some ((m0.1 1 1, m0))
set_option maxRecDepth 20000 in
set_option maxHeartbeats 4000000 in
theorem ct_X11_time (hfl : g.1.stackTraces = false) (hS : pS 0 138 S) {m0 : me} {x : (Int32 × me)} (h : f_X11_time m0 = some x) : pm_Ct g mX11_time [.ref 0] (en S m0) 0 0 (qI S x) qF := by
  refine pm_of (by decide +kernel) rfl hfl (Nat.le_of_ble_eq_true rfl) (fun X hE => ?_)
  show pm_G g mX11_time X 0 [some (.ref 0)] [] (en S m0) 0 0
  unfold f_X11_time at h
  refine pg_aload_n dX11_time_0 rfl ?_
  refine eg_get dX11_time_1 fa_X11_12 hS sp0 (Nat.le_of_ble_eq_true rfl) (Nat.le_of_ble_eq_true rfl) rfl rfl ?_
  refine eg_get dX11_time_4 fa_X11_173 hS sp1 (Nat.le_of_ble_eq_true rfl) (Nat.le_of_ble_eq_true rfl) rfl rfl ?_
  obtain rfl := Option.some.inj h
  exact hE.2.1 _ _ _ _ _ _ .int dX11_time_7 rfl rfl (Nat.zero_le _) (Nat.zero_le _) ⟨rfl, rfl⟩
def f_X11_links (m0 : me) : Option (Int32 × me) :=
  some ((m0.1 11 0, m0))
set_option maxRecDepth 20000 in
set_option maxHeartbeats 4000000 in
theorem ct_X11_links (hfl : g.1.stackTraces = false) (hS : pS 0 138 S) {m0 : me} {x : (Int32 × me)} (h : f_X11_links m0 = some x) : pm_Ct g mX11_links [.ref 0] (en S m0) 0 0 (qI S x) qF := by
  refine pm_of (by decide +kernel) rfl hfl (Nat.le_of_ble_eq_true rfl) (fun X hE => ?_)
  show pm_G g mX11_links X 0 [some (.ref 0)] [] (en S m0) 0 0
  unfold f_X11_links at h
  refine pg_aload_n dX11_links_0 rfl ?_
  refine eg_get dX11_links_1 fa_X11_12 hS sp0 (Nat.le_of_ble_eq_true rfl) (Nat.le_of_ble_eq_true rfl) rfl rfl ?_
  refine eg_get dX11_links_4 fa_X11_112 hS sp1 (Nat.le_of_ble_eq_true rfl) (Nat.le_of_ble_eq_true rfl) rfl rfl ?_
  refine eg_get dX11_links_7 fa_X11_191 hS sp11 (Nat.le_of_ble_eq_true rfl) (Nat.le_of_ble_eq_true rfl) rfl rfl ?_
  obtain rfl := Option.some.inj h
  exact hE.2.1 _ _ _ _ _ _ .int dX11_links_10 rfl rfl (Nat.zero_le _) (Nat.zero_le _) ⟨rfl, rfl⟩
def f_X3_has (v1 : Int32) (m0 : me) : Option (Int32 × me) :=
  if v1 < 0 then
    some ((0, m0))
  else
    if (m0.1 11 0) ≤ v1 then
      some ((0, m0))
    else
      some ((1, m0))
set_option maxRecDepth 20000 in
set_option maxHeartbeats 4000000 in
theorem ct_X3_has (hfl : g.1.stackTraces = false) (hS : pS 1 28 S) {v1 : Int32} {m0 : me} {x : (Int32 × me)} (h : f_X3_has v1 m0 = some x) : pm_Ct g mX3_has [.ref 11, .int v1] (en S m0) 0 0 (qI S x) qF := by
  refine pm_of (by decide +kernel) rfl hfl (Nat.le_of_ble_eq_true rfl) (fun X hE => ?_)
  show pm_G g mX3_has X 0 [some (.ref 11), some (.int v1)] [] (en S m0) 0 0
  unfold f_X3_has at h
  refine pg_iload_n dX3_has_0 rfl ?_
  refine pg_if_lt 16 dX3_has_1 (by decide) (fun c1 => ?_) (fun c1 => ?_)
  · rw [if_pos c1] at h
    refine pg_iconst 0 dX3_has_16 rfl ?_
    obtain rfl := Option.some.inj h
    exact hE.2.1 _ _ _ _ _ _ .boolean dX3_has_17 rfl rfl (Nat.zero_le _) (Nat.zero_le _) ⟨rfl, rfl⟩
  · rw [if_neg c1] at h
    refine pg_iload_n dX3_has_4 rfl ?_
    refine pg_aload_n dX3_has_5 rfl ?_
    refine eg_get dX3_has_6 fa_X3_46 hS sp11 (Nat.le_of_ble_eq_true rfl) (Nat.le_of_ble_eq_true rfl) rfl rfl ?_
    refine pg_icmp_ge 16 dX3_has_9 (by decide) (fun c2 => ?_) (fun c2 => ?_)
    · rw [if_pos c2] at h
      refine pg_iconst 0 dX3_has_16 rfl ?_
      obtain rfl := Option.some.inj h
      exact hE.2.1 _ _ _ _ _ _ .boolean dX3_has_17 rfl rfl (Nat.zero_le _) (Nat.zero_le _) ⟨rfl, rfl⟩
    · rw [if_neg c2] at h
      refine pg_iconst 1 dX3_has_12 rfl ?_
      refine pg_goto 17 dX3_has_13 (by decide) ?_
      obtain rfl := Option.some.inj h
      exact hE.2.1 _ _ _ _ _ _ .boolean dX3_has_17 rfl rfl (Nat.zero_le _) (Nat.zero_le _) ⟨rfl, rfl⟩
def f_X3_carries (v1 : Int32) (m0 : me) : Option (Int32 × me) :=
  bd (f_X3_has v1 m0) (fun r1 =>
  if r1.1 = 0 then
    some ((0, r1.2))
  else
    gd (inR v1 16) (
    if (r1.2.1 16 v1.toNatClampNeg) = 0 then
      some ((0, r1.2))
    else
      gd (inR (2 * v1) 32) (
      if (r1.2.1 21 ((2 * v1).toNatClampNeg)) = 3 then
        gd (inR ((2 * v1) + 1) 32) (
        if (r1.2.1 21 (((2 * v1) + 1).toNatClampNeg)) = 3 then
          some ((1, r1.2))
        else
          some ((0, r1.2)))
      else
        some ((0, r1.2)))))
set_option maxRecDepth 20000 in
set_option maxHeartbeats 4000000 in
theorem ct_X3_carries (hfl : g.1.stackTraces = false) (hS : pS 1 28 S) {v1 : Int32} {m0 : me} {x : (Int32 × me)} (h : f_X3_carries v1 m0 = some x) : pm_Ct g mX3_carries [.ref 11, .int v1] (en S m0) 0 0 (qI S x) qF := by
  refine pm_of (by decide +kernel) rfl hfl (Nat.le_of_ble_eq_true rfl) (fun X hE => ?_)
  show pm_G g mX3_carries X 0 [some (.ref 11), some (.int v1)] [] (en S m0) 0 0
  unfold f_X3_carries at h
  refine pg_aload_n dX3_carries_0 rfl ?_
  refine pg_iload_n dX3_carries_1 rfl ?_
  obtain ⟨r1, h_r1, h⟩ := bd_at h
  refine eg_cVi (C := mX3_has) (as := [(.int v1)]) dX3_carries_2 mw201 cv_X3_has hS sp11 (Nat.le_of_ble_eq_true rfl) (Nat.le_of_ble_eq_true rfl) rfl rfl rfl (Nat.le_of_ble_eq_true rfl) rfl ⟨(Nat.le_of_ble_eq_true rfl), (Nat.le_of_ble_eq_true rfl)⟩ (ct_X3_has hfl (hS.sub (Nat.le_of_ble_eq_true rfl) (Nat.le_of_ble_eq_true rfl)) h_r1) ?_
  refine pg_if_eq 47 dX3_carries_5 (by decide) (fun c2 => ?_) (fun c2 => ?_)
  · rw [if_pos c2] at h
    refine pg_iconst 0 dX3_carries_47 rfl ?_
    obtain rfl := Option.some.inj h
    exact hE.2.1 _ _ _ _ _ _ .boolean dX3_carries_48 rfl rfl (Nat.zero_le _) (Nat.zero_le _) ⟨rfl, rfl⟩
  · rw [if_neg c2] at h
    refine pg_aload_n dX3_carries_8 rfl ?_
    refine eg_get dX3_carries_9 fa_X3_24 hS sp11 (Nat.le_of_ble_eq_true rfl) (Nat.le_of_ble_eq_true rfl) rfl rfl ?_
    refine pg_iload_n dX3_carries_12 rfl ?_
    obtain ⟨g1, h⟩ := gd_at h
    refine eg_zaldJ v1.toNatClampNeg dX3_carries_13 hS sp16 (Nat.le_of_ble_eq_true rfl) (Nat.le_of_ble_eq_true rfl) rfl (inR_vp g1) rfl ?_
    refine pg_if_eq 47 dX3_carries_14 (by decide) (fun c3 => ?_) (fun c3 => ?_)
    · rw [if_pos c3] at h
      refine pg_iconst 0 dX3_carries_47 rfl ?_
      obtain rfl := Option.some.inj h
      exact hE.2.1 _ _ _ _ _ _ .boolean dX3_carries_48 rfl rfl (Nat.zero_le _) (Nat.zero_le _) ⟨rfl, rfl⟩
    · rw [if_neg c3] at h
      refine pg_aload_n dX3_carries_17 rfl ?_
      refine eg_get dX3_carries_18 fa_X3_40 hS sp11 (Nat.le_of_ble_eq_true rfl) (Nat.le_of_ble_eq_true rfl) rfl rfl ?_
      refine pg_iconst 2 dX3_carries_21 rfl ?_
      refine pg_iload_n dX3_carries_22 rfl ?_
      refine pg_imul dX3_carries_23 ?_
      obtain ⟨g1, h⟩ := gd_at h
      refine eg_ialdJ ((2 * v1).toNatClampNeg) dX3_carries_24 hS sp21 (Nat.le_of_ble_eq_true rfl) (Nat.le_of_ble_eq_true rfl) rfl (inR_vp g1) rfl ?_
      refine pg_iconst 3 dX3_carries_25 rfl ?_
      refine pg_icmp_ne 47 dX3_carries_26 (by decide) (fun c4 => ?_) (fun c4 => ?_)
      · rw [if_neg c4] at h
        refine pg_iconst 0 dX3_carries_47 rfl ?_
        obtain rfl := Option.some.inj h
        exact hE.2.1 _ _ _ _ _ _ .boolean dX3_carries_48 rfl rfl (Nat.zero_le _) (Nat.zero_le _) ⟨rfl, rfl⟩
      · rw [if_pos c4] at h
        refine pg_aload_n dX3_carries_29 rfl ?_
        refine eg_get dX3_carries_30 fa_X3_40 hS sp11 (Nat.le_of_ble_eq_true rfl) (Nat.le_of_ble_eq_true rfl) rfl rfl ?_
        refine pg_iconst 2 dX3_carries_33 rfl ?_
        refine pg_iload_n dX3_carries_34 rfl ?_
        refine pg_imul dX3_carries_35 ?_
        refine pg_iconst 1 dX3_carries_36 rfl ?_
        refine pg_iadd dX3_carries_37 ?_
        obtain ⟨g1, h⟩ := gd_at h
        refine eg_ialdJ (((2 * v1) + 1).toNatClampNeg) dX3_carries_38 hS sp21 (Nat.le_of_ble_eq_true rfl) (Nat.le_of_ble_eq_true rfl) rfl (inR_vp g1) rfl ?_
        refine pg_iconst 3 dX3_carries_39 rfl ?_
        refine pg_icmp_ne 47 dX3_carries_40 (by decide) (fun c5 => ?_) (fun c5 => ?_)
        · rw [if_neg c5] at h
          refine pg_iconst 0 dX3_carries_47 rfl ?_
          obtain rfl := Option.some.inj h
          exact hE.2.1 _ _ _ _ _ _ .boolean dX3_carries_48 rfl rfl (Nat.zero_le _) (Nat.zero_le _) ⟨rfl, rfl⟩
        · rw [if_pos c5] at h
          refine pg_iconst 1 dX3_carries_43 rfl ?_
          refine pg_goto 48 dX3_carries_44 (by decide) ?_
          obtain rfl := Option.some.inj h
          exact hE.2.1 _ _ _ _ _ _ .boolean dX3_carries_48 rfl rfl (Nat.zero_le _) (Nat.zero_le _) ⟨rfl, rfl⟩
def b_X5_join_2 (v1 : Int32) (v2 : Int32) (s : Int32 × me) : Option ((Int32 × me) ⊕ (Int32 × me)) :=
  if 8 ≤ s.1 then
    some (.inr (s.1, s.2))
  else
    gd (inR s.1 8) (
    if (s.2.1 127 s.1.toNatClampNeg) = v2 then
      gd (inR s.1 8) (
      lt (wI s.2 127 s.1.toNatClampNeg v1) (fun m4 =>
      lt (s.1 + 1) (fun w5 =>
      some (.inl (w5, m4)))))
    else
      lt (s.1 + 1) (fun w3 =>
      some (.inl (w3, s.2))))
def f_X5_join (v1 : Int32) (v2 : Int32) (m0 : me) : Option (Int32 × me) :=
  bd (lo (b_X5_join_2 v1 v2) 2048 (0, m0)) (fun s6 =>
  if v1 = v2 then
    some ((0, s6.2))
  else
    some ((1, s6.2)))
set_option maxRecDepth 20000 in
set_option maxHeartbeats 4000000 in
theorem lb_X5_join_2 (hfl : g.1.stackTraces = false) (hS : pS 0 138 S) {v1 : Int32} {v2 : Int32} {s : Int32 × me} {r : (Int32 × me) ⊕ (Int32 × me)} (h : b_X5_join_2 v1 v2 s = some r) (hN : ∀ s', r = .inl s' → (fun z9 : Int32 × me => pm_G g mX5_join X 2 [some (.ref 126), some (.int v1), some (.int v2), some (.int z9.1)] [] (en S z9.2) 0 0) s') (hT : ∀ t, r = .inr t → (fun z9 : Int32 × me => pm_G g mX5_join X 31 [some (.ref 126), some (.int v1), some (.int v2), some (.int z9.1)] [] (en S z9.2) 0 0) t) : (fun z9 : Int32 × me => pm_G g mX5_join X 2 [some (.ref 126), some (.int v1), some (.int v2), some (.int z9.1)] [] (en S z9.2) 0 0) s := by
  unfold b_X5_join_2 at h
  show pm_G g mX5_join X 2 [some (.ref 126), some (.int v1), some (.int v2), some (.int s.1)] [] (en S s.2) 0 0
  refine pg_iload_n dX5_join_2 rfl ?_
  refine pg_bipush 8 dX5_join_3 rfl ?_
  refine pg_icmp_ge 31 dX5_join_5 (by decide) (fun c1 => ?_) (fun c1 => ?_)
  · rw [if_pos c1] at h
    obtain rfl := Option.some.inj h
    exact hT _ rfl
  · rw [if_neg c1] at h
    refine pg_aload_n dX5_join_8 rfl ?_
    refine eg_get dX5_join_9 fa_X5_9 hS sp126 (Nat.le_of_ble_eq_true rfl) (Nat.le_of_ble_eq_true rfl) rfl rfl ?_
    refine pg_iload_n dX5_join_12 rfl ?_
    obtain ⟨g1, h⟩ := gd_at h
    refine eg_ialdJ s.1.toNatClampNeg dX5_join_13 hS sp127 (Nat.le_of_ble_eq_true rfl) (Nat.le_of_ble_eq_true rfl) rfl (inR_vp g1) rfl ?_
    refine pg_iload_n dX5_join_14 rfl ?_
    refine pg_icmp_ne 25 dX5_join_15 (by decide) (fun c2 => ?_) (fun c2 => ?_)
    · rw [if_neg c2] at h
      obtain ⟨w3, e_w3⟩ : ∃ z : Int32, z = s.1 + 1 := ⟨_, rfl⟩
      replace h := lt_at h e_w3
      refine eg_iinc [some (.ref 126), some (.int v1), some (.int v2), some (.int w3)] w3 1 dX5_join_25 rfl rfl e_w3 rfl ?_
      refine pg_goto 2 dX5_join_28 (by decide) ?_
      obtain rfl := Option.some.inj h
      exact hN _ rfl
    · rw [if_pos c2] at h
      refine pg_aload_n dX5_join_18 rfl ?_
      refine eg_get dX5_join_19 fa_X5_9 hS sp126 (Nat.le_of_ble_eq_true rfl) (Nat.le_of_ble_eq_true rfl) rfl rfl ?_
      refine pg_iload_n dX5_join_22 rfl ?_
      refine pg_iload_n dX5_join_23 rfl ?_
      obtain ⟨g1, h⟩ := gd_at h
      refine eg_iastJ s.1.toNatClampNeg dX5_join_24 hS sp127 (Nat.le_of_ble_eq_true rfl) (Nat.le_of_ble_eq_true rfl) (fun _ _ _ => rfl) (inR_vp g1) rfl (fun m4 e_m4 => ?_)
      replace h := lt_at h e_m4
      obtain ⟨w5, e_w5⟩ : ∃ z : Int32, z = s.1 + 1 := ⟨_, rfl⟩
      replace h := lt_at h e_w5
      refine eg_iinc [some (.ref 126), some (.int v1), some (.int v2), some (.int w5)] w5 1 dX5_join_25 rfl rfl e_w5 rfl ?_
      refine pg_goto 2 dX5_join_28 (by decide) ?_
      obtain rfl := Option.some.inj h
      exact hN _ rfl
set_option maxRecDepth 20000 in
set_option maxHeartbeats 4000000 in
theorem ct_X5_join (hfl : g.1.stackTraces = false) (hS : pS 0 138 S) {v1 : Int32} {v2 : Int32} {m0 : me} {x : (Int32 × me)} (h : f_X5_join v1 v2 m0 = some x) : pm_Ct g mX5_join [.ref 126, .int v1, .int v2] (en S m0) 0 0 (qI S x) qF := by
  refine pm_of (by decide +kernel) rfl hfl (Nat.le_of_ble_eq_true rfl) (fun X hE => ?_)
  show pm_G g mX5_join X 0 [some (.ref 126), some (.int v1), some (.int v2), none] [] (en S m0) 0 0
  unfold f_X5_join at h
  refine pg_iconst 0 dX5_join_0 rfl ?_
  refine eg_istore_n [some (.ref 126), some (.int v1), some (.int v2), some (.int 0)] 0 dX5_join_1 rfl (Nat.le_of_ble_eq_true rfl) rfl ?_
  obtain ⟨s6, h_s6, h⟩ := bd_at h
  refine lo_at (b := b_X5_join_2 v1 v2) (G := (fun z9 : Int32 × me => pm_G g mX5_join X 2 [some (.ref 126), some (.int v1), some (.int v2), some (.int z9.1)] [] (en S z9.2) 0 0)) (T := (fun z9 : Int32 × me => pm_G g mX5_join X 31 [some (.ref 126), some (.int v1), some (.int v2), some (.int z9.1)] [] (en S z9.2) 0 0)) (fun q9 r9 h1 h2 h3 => lb_X5_join_2 hfl hS h1 h2 h3) 2048 (0, m0) s6 h_s6 ?_
  show pm_G g mX5_join X 31 [some (.ref 126), some (.int v1), some (.int v2), some (.int s6.1)] [] (en S s6.2) 0 0
  refine pg_iload_n dX5_join_31 rfl ?_
  refine pg_iload_n dX5_join_32 rfl ?_
  refine pg_icmp_eq 40 dX5_join_33 (by decide) (fun c7 => ?_) (fun c7 => ?_)
  · rw [if_pos c7] at h
    refine pg_iconst 0 dX5_join_40 rfl ?_
    obtain rfl := Option.some.inj h
    exact hE.2.1 _ _ _ _ _ _ .boolean dX5_join_41 rfl rfl (Nat.zero_le _) (Nat.zero_le _) ⟨rfl, rfl⟩
  · rw [if_neg c7] at h
    refine pg_iconst 1 dX5_join_36 rfl ?_
    refine pg_goto 41 dX5_join_37 (by decide) ?_
    obtain rfl := Option.some.inj h
    exact hE.2.1 _ _ _ _ _ _ .boolean dX5_join_41 rfl rfl (Nat.zero_le _) (Nat.zero_le _) ⟨rfl, rfl⟩
def b_X5_findGroups_4 (s : Int32 × me) : Option ((Int32 × me) ⊕ (Int32 × me)) :=
  if 8 ≤ s.1 then
    some (.inr (s.1, s.2))
  else
    gd (inR s.1 8) (
    lt (wI s.2 127 s.1.toNatClampNeg s.1) (fun m2 =>
    lt (s.1 + 1) (fun w3 =>
    some (.inl (w3, m2)))))
def b_X5_findGroups_25 (s : Int32 × Int32 × me) : Option ((Int32 × Int32 × me) ⊕ (Int32 × Int32 × me)) :=
  if (s.2.2.1 11 0) ≤ s.2.1 then
    some (.inr (s.1, s.2.1, s.2.2))
  else
    bd (f_X3_carries s.2.1 s.2.2) (fun r6 =>
    if r6.1 = 0 then
      lt (s.2.1 + 1) (fun w8 =>
      some (.inl (s.1, w8, r6.2)))
    else
      gd (inR s.2.1 16) (
      gd (inR (r6.2.1 12 s.2.1.toNatClampNeg) 8) (
      gd (inR s.2.1 16) (
      gd (inR (r6.2.1 13 s.2.1.toNatClampNeg) 8) (
      bd (f_X5_join (r6.2.1 127 ((r6.2.1 12 s.2.1.toNatClampNeg).toNatClampNeg)) (r6.2.1 127 ((r6.2.1 13 s.2.1.toNatClampNeg).toNatClampNeg)) r6.2) (fun r9 =>
      if s.1 = 0 then
        lt (s.2.1 + 1) (fun w11 =>
        some (.inl (0, w11, r9.2)))
      else
        if r9.1 = 0 then
          lt (s.2.1 + 1) (fun w13 =>
          some (.inl (0, w13, r9.2)))
        else
          lt (s.2.1 + 1) (fun w14 =>
          some (.inl (1, w14, r9.2)))))))))
def f_X5_findGroups (m0 : me) : Option (Int32 × me) :=
  bd (lo (b_X5_findGroups_4) 2048 (0, m0)) (fun s4 =>
  bd (lo (b_X5_findGroups_25) 2048 (1, 0, s4.2)) (fun s15 =>
  gd (isB s15.1) (
  some ((s15.1, s15.2.2)))))
set_option maxRecDepth 20000 in
set_option maxHeartbeats 4000000 in
theorem lb_X5_findGroups_4 (hfl : g.1.stackTraces = false) (hS : pS 0 138 S) {s : Int32 × me} {r : (Int32 × me) ⊕ (Int32 × me)} (h : b_X5_findGroups_4 s = some r) (hN : ∀ s', r = .inl s' → (fun z9 : Int32 × me => pm_G g mX5_findGroups X 4 [some (.ref 126), some (.ref 1), some (.int 1), some (.int z9.1), none] [] (en S z9.2) 0 0) s') (hT : ∀ t, r = .inr t → (fun z9 : Int32 × me => pm_G g mX5_findGroups X 23 [some (.ref 126), some (.ref 1), some (.int 1), some (.int z9.1), none] [] (en S z9.2) 0 0) t) : (fun z9 : Int32 × me => pm_G g mX5_findGroups X 4 [some (.ref 126), some (.ref 1), some (.int 1), some (.int z9.1), none] [] (en S z9.2) 0 0) s := by
  unfold b_X5_findGroups_4 at h
  show pm_G g mX5_findGroups X 4 [some (.ref 126), some (.ref 1), some (.int 1), some (.int s.1), none] [] (en S s.2) 0 0
  refine pg_iload_n dX5_findGroups_4 rfl ?_
  refine pg_bipush 8 dX5_findGroups_5 rfl ?_
  refine pg_icmp_ge 23 dX5_findGroups_7 (by decide) (fun c1 => ?_) (fun c1 => ?_)
  · rw [if_pos c1] at h
    obtain rfl := Option.some.inj h
    exact hT _ rfl
  · rw [if_neg c1] at h
    refine pg_aload_n dX5_findGroups_10 rfl ?_
    refine eg_get dX5_findGroups_11 fa_X5_9 hS sp126 (Nat.le_of_ble_eq_true rfl) (Nat.le_of_ble_eq_true rfl) rfl rfl ?_
    refine pg_iload_n dX5_findGroups_14 rfl ?_
    refine pg_iload_n dX5_findGroups_15 rfl ?_
    obtain ⟨g1, h⟩ := gd_at h
    refine eg_iastJ s.1.toNatClampNeg dX5_findGroups_16 hS sp127 (Nat.le_of_ble_eq_true rfl) (Nat.le_of_ble_eq_true rfl) (fun _ _ _ => rfl) (inR_vp g1) rfl (fun m2 e_m2 => ?_)
    replace h := lt_at h e_m2
    obtain ⟨w3, e_w3⟩ : ∃ z : Int32, z = s.1 + 1 := ⟨_, rfl⟩
    replace h := lt_at h e_w3
    refine eg_iinc [some (.ref 126), some (.ref 1), some (.int 1), some (.int w3), none] w3 1 dX5_findGroups_17 rfl rfl e_w3 rfl ?_
    refine pg_goto 4 dX5_findGroups_20 (by decide) ?_
    obtain rfl := Option.some.inj h
    exact hN _ rfl
set_option maxRecDepth 20000 in
set_option maxHeartbeats 4000000 in
theorem lb_X5_findGroups_25 (hfl : g.1.stackTraces = false) (hS : pS 0 138 S) {s : Int32 × Int32 × me} {r : (Int32 × Int32 × me) ⊕ (Int32 × Int32 × me)} (h : b_X5_findGroups_25 s = some r) (hN : ∀ s', r = .inl s' → (fun z9 : Int32 × Int32 × me => pm_G g mX5_findGroups X 25 [some (.ref 126), some (.ref 1), some (.int z9.1), some (.int z9.2.1), none] [] (en S z9.2.2) 0 0) s') (hT : ∀ t, r = .inr t → (fun z9 : Int32 × Int32 × me => pm_G g mX5_findGroups X 102 [some (.ref 126), some (.ref 1), some (.int z9.1), some (.int z9.2.1), none] [] (en S z9.2.2) 0 0) t) : (fun z9 : Int32 × Int32 × me => pm_G g mX5_findGroups X 25 [some (.ref 126), some (.ref 1), some (.int z9.1), some (.int z9.2.1), none] [] (en S z9.2.2) 0 0) s := by
  unfold b_X5_findGroups_25 at h
  show pm_G g mX5_findGroups X 25 [some (.ref 126), some (.ref 1), some (.int s.1), some (.int s.2.1), none] [] (en S s.2.2) 0 0
  refine pg_iload_n dX5_findGroups_25 rfl ?_
  refine pg_aload_n dX5_findGroups_26 rfl ?_
  refine eg_get dX5_findGroups_27 fa_X5_15 hS sp1 (Nat.le_of_ble_eq_true rfl) (Nat.le_of_ble_eq_true rfl) rfl rfl ?_
  refine eg_get dX5_findGroups_30 fa_X5_21 hS sp11 (Nat.le_of_ble_eq_true rfl) (Nat.le_of_ble_eq_true rfl) rfl rfl ?_
  refine pg_icmp_ge 102 dX5_findGroups_33 (by decide) (fun c5 => ?_) (fun c5 => ?_)
  · rw [if_pos c5] at h
    obtain rfl := Option.some.inj h
    exact hT _ rfl
  · rw [if_neg c5] at h
    refine pg_aload_n dX5_findGroups_36 rfl ?_
    refine eg_get dX5_findGroups_37 fa_X5_15 hS sp1 (Nat.le_of_ble_eq_true rfl) (Nat.le_of_ble_eq_true rfl) rfl rfl ?_
    refine pg_iload_n dX5_findGroups_40 rfl ?_
    obtain ⟨r6, h_r6, h⟩ := bd_at h
    refine eg_cVi (C := mX3_carries) (as := [(.int s.2.1)]) dX5_findGroups_41 mw189 cv_X3_carries hS sp11 (Nat.le_of_ble_eq_true rfl) (Nat.le_of_ble_eq_true rfl) rfl rfl rfl (Nat.le_of_ble_eq_true rfl) rfl ⟨(Nat.le_of_ble_eq_true rfl), (Nat.le_of_ble_eq_true rfl)⟩ (ct_X3_carries hfl (hS.sub (Nat.le_of_ble_eq_true rfl) (Nat.le_of_ble_eq_true rfl)) h_r6) ?_
    refine pg_if_eq 96 dX5_findGroups_44 (by decide) (fun c7 => ?_) (fun c7 => ?_)
    · rw [if_pos c7] at h
      obtain ⟨w8, e_w8⟩ : ∃ z : Int32, z = s.2.1 + 1 := ⟨_, rfl⟩
      replace h := lt_at h e_w8
      refine eg_iinc [some (.ref 126), some (.ref 1), some (.int s.1), some (.int w8), none] w8 1 dX5_findGroups_96 rfl rfl e_w8 rfl ?_
      refine pg_goto 25 dX5_findGroups_99 (by decide) ?_
      obtain rfl := Option.some.inj h
      exact hN _ rfl
    · rw [if_neg c7] at h
      refine pg_aload_n dX5_findGroups_47 rfl ?_
      refine pg_aload_n dX5_findGroups_48 rfl ?_
      refine eg_get dX5_findGroups_49 fa_X5_9 hS sp126 (Nat.le_of_ble_eq_true rfl) (Nat.le_of_ble_eq_true rfl) rfl rfl ?_
      refine pg_aload_n dX5_findGroups_52 rfl ?_
      refine eg_get dX5_findGroups_53 fa_X5_15 hS sp1 (Nat.le_of_ble_eq_true rfl) (Nat.le_of_ble_eq_true rfl) rfl rfl ?_
      refine eg_get dX5_findGroups_56 fa_X5_31 hS sp11 (Nat.le_of_ble_eq_true rfl) (Nat.le_of_ble_eq_true rfl) rfl rfl ?_
      refine pg_iload_n dX5_findGroups_59 rfl ?_
      obtain ⟨g1, h⟩ := gd_at h
      refine eg_ialdJ s.2.1.toNatClampNeg dX5_findGroups_60 hS sp12 (Nat.le_of_ble_eq_true rfl) (Nat.le_of_ble_eq_true rfl) rfl (inR_vp g1) rfl ?_
      obtain ⟨g1, h⟩ := gd_at h
      refine eg_ialdJ ((r6.2.1 12 s.2.1.toNatClampNeg).toNatClampNeg) dX5_findGroups_61 hS sp127 (Nat.le_of_ble_eq_true rfl) (Nat.le_of_ble_eq_true rfl) rfl (inR_vp g1) rfl ?_
      refine pg_aload_n dX5_findGroups_62 rfl ?_
      refine eg_get dX5_findGroups_63 fa_X5_9 hS sp126 (Nat.le_of_ble_eq_true rfl) (Nat.le_of_ble_eq_true rfl) rfl rfl ?_
      refine pg_aload_n dX5_findGroups_66 rfl ?_
      refine eg_get dX5_findGroups_67 fa_X5_15 hS sp1 (Nat.le_of_ble_eq_true rfl) (Nat.le_of_ble_eq_true rfl) rfl rfl ?_
      refine eg_get dX5_findGroups_70 fa_X5_34 hS sp11 (Nat.le_of_ble_eq_true rfl) (Nat.le_of_ble_eq_true rfl) rfl rfl ?_
      refine pg_iload_n dX5_findGroups_73 rfl ?_
      obtain ⟨g1, h⟩ := gd_at h
      refine eg_ialdJ s.2.1.toNatClampNeg dX5_findGroups_74 hS sp13 (Nat.le_of_ble_eq_true rfl) (Nat.le_of_ble_eq_true rfl) rfl (inR_vp g1) rfl ?_
      obtain ⟨g1, h⟩ := gd_at h
      refine eg_ialdJ ((r6.2.1 13 s.2.1.toNatClampNeg).toNatClampNeg) dX5_findGroups_75 hS sp127 (Nat.le_of_ble_eq_true rfl) (Nat.le_of_ble_eq_true rfl) rfl (inR_vp g1) rfl ?_
      obtain ⟨r9, h_r9, h⟩ := bd_at h
      refine eg_cVi (C := mX5_join) (as := [(.int (r6.2.1 127 ((r6.2.1 12 s.2.1.toNatClampNeg).toNatClampNeg))), (.int (r6.2.1 127 ((r6.2.1 13 s.2.1.toNatClampNeg).toNatClampNeg)))]) dX5_findGroups_76 mw196 cv_X5_join hS sp126 (Nat.le_of_ble_eq_true rfl) (Nat.le_of_ble_eq_true rfl) rfl rfl rfl (Nat.le_of_ble_eq_true rfl) rfl ⟨(Nat.le_of_ble_eq_true rfl), (Nat.le_of_ble_eq_true rfl)⟩ (ct_X5_join hfl (hS.sub (Nat.le_of_ble_eq_true rfl) (Nat.le_of_ble_eq_true rfl)) h_r9) ?_
      refine eg_istore [some (.ref 126), some (.ref 1), some (.int s.1), some (.int s.2.1), some (.int r9.1)] r9.1 dX5_findGroups_79 rfl (Nat.le_of_ble_eq_true rfl) rfl ?_
      refine pg_iload_n dX5_findGroups_81 rfl ?_
      refine pg_if_eq 94 dX5_findGroups_82 (by decide) (fun c10 => ?_) (fun c10 => ?_)
      · rw [if_pos c10] at h
        refine pg_iconst 0 dX5_findGroups_94 rfl ?_
        refine eg_istore_n [some (.ref 126), some (.ref 1), some (.int 0), some (.int s.2.1), some (.int r9.1)] 0 dX5_findGroups_95 rfl (Nat.le_of_ble_eq_true rfl) rfl ?_
        obtain ⟨w11, e_w11⟩ : ∃ z : Int32, z = s.2.1 + 1 := ⟨_, rfl⟩
        replace h := lt_at h e_w11
        refine eg_iinc [some (.ref 126), some (.ref 1), some (.int 0), some (.int w11), some (.int r9.1)] w11 1 dX5_findGroups_96 rfl rfl e_w11 rfl ?_
        refine pg_goto 25 dX5_findGroups_99 (by decide) ?_
        obtain rfl := Option.some.inj h
        refine eg_forget [some (.ref 126), some (.ref 1), some (.int 0), some (.int w11), none] (show pm_sub _ _ from ⟨rfl, ⟨rfl, ⟨rfl, ⟨rfl, trivial⟩⟩⟩⟩) ?_
        exact hN _ rfl
      · rw [if_neg c10] at h
        refine pg_iload dX5_findGroups_85 rfl ?_
        refine pg_if_eq 94 dX5_findGroups_87 (by decide) (fun c12 => ?_) (fun c12 => ?_)
        · rw [if_pos c12] at h
          refine pg_iconst 0 dX5_findGroups_94 rfl ?_
          refine eg_istore_n [some (.ref 126), some (.ref 1), some (.int 0), some (.int s.2.1), some (.int r9.1)] 0 dX5_findGroups_95 rfl (Nat.le_of_ble_eq_true rfl) rfl ?_
          obtain ⟨w13, e_w13⟩ : ∃ z : Int32, z = s.2.1 + 1 := ⟨_, rfl⟩
          replace h := lt_at h e_w13
          refine eg_iinc [some (.ref 126), some (.ref 1), some (.int 0), some (.int w13), some (.int r9.1)] w13 1 dX5_findGroups_96 rfl rfl e_w13 rfl ?_
          refine pg_goto 25 dX5_findGroups_99 (by decide) ?_
          obtain rfl := Option.some.inj h
          refine eg_forget [some (.ref 126), some (.ref 1), some (.int 0), some (.int w13), none] (show pm_sub _ _ from ⟨rfl, ⟨rfl, ⟨rfl, ⟨rfl, trivial⟩⟩⟩⟩) ?_
          exact hN _ rfl
        · rw [if_neg c12] at h
          refine pg_iconst 1 dX5_findGroups_90 rfl ?_
          refine pg_goto 95 dX5_findGroups_91 (by decide) ?_
          refine eg_istore_n [some (.ref 126), some (.ref 1), some (.int 1), some (.int s.2.1), some (.int r9.1)] 1 dX5_findGroups_95 rfl (Nat.le_of_ble_eq_true rfl) rfl ?_
          obtain ⟨w14, e_w14⟩ : ∃ z : Int32, z = s.2.1 + 1 := ⟨_, rfl⟩
          replace h := lt_at h e_w14
          refine eg_iinc [some (.ref 126), some (.ref 1), some (.int 1), some (.int w14), some (.int r9.1)] w14 1 dX5_findGroups_96 rfl rfl e_w14 rfl ?_
          refine pg_goto 25 dX5_findGroups_99 (by decide) ?_
          obtain rfl := Option.some.inj h
          refine eg_forget [some (.ref 126), some (.ref 1), some (.int 1), some (.int w14), none] (show pm_sub _ _ from ⟨rfl, ⟨rfl, ⟨rfl, ⟨rfl, trivial⟩⟩⟩⟩) ?_
          exact hN _ rfl
set_option maxRecDepth 20000 in
set_option maxHeartbeats 4000000 in
theorem ct_X5_findGroups (hfl : g.1.stackTraces = false) (hS : pS 0 138 S) {m0 : me} {x : (Int32 × me)} (h : f_X5_findGroups m0 = some x) : pm_Ct g mX5_findGroups [.ref 126, .ref 1] (en S m0) 0 0 (qI S x) qF := by
  refine pm_of (by decide +kernel) rfl hfl (Nat.le_of_ble_eq_true rfl) (fun X hE => ?_)
  show pm_G g mX5_findGroups X 0 [some (.ref 126), some (.ref 1), none, none, none] [] (en S m0) 0 0
  unfold f_X5_findGroups at h
  refine pg_iconst 1 dX5_findGroups_0 rfl ?_
  refine eg_istore_n [some (.ref 126), some (.ref 1), some (.int 1), none, none] 1 dX5_findGroups_1 rfl (Nat.le_of_ble_eq_true rfl) rfl ?_
  refine pg_iconst 0 dX5_findGroups_2 rfl ?_
  refine eg_istore_n [some (.ref 126), some (.ref 1), some (.int 1), some (.int 0), none] 0 dX5_findGroups_3 rfl (Nat.le_of_ble_eq_true rfl) rfl ?_
  obtain ⟨s4, h_s4, h⟩ := bd_at h
  refine lo_at (b := b_X5_findGroups_4) (G := (fun z9 : Int32 × me => pm_G g mX5_findGroups X 4 [some (.ref 126), some (.ref 1), some (.int 1), some (.int z9.1), none] [] (en S z9.2) 0 0)) (T := (fun z9 : Int32 × me => pm_G g mX5_findGroups X 23 [some (.ref 126), some (.ref 1), some (.int 1), some (.int z9.1), none] [] (en S z9.2) 0 0)) (fun q9 r9 h1 h2 h3 => lb_X5_findGroups_4 hfl hS h1 h2 h3) 2048 (0, m0) s4 h_s4 ?_
  show pm_G g mX5_findGroups X 23 [some (.ref 126), some (.ref 1), some (.int 1), some (.int s4.1), none] [] (en S s4.2) 0 0
  refine pg_iconst 0 dX5_findGroups_23 rfl ?_
  refine eg_istore_n [some (.ref 126), some (.ref 1), some (.int 1), some (.int 0), none] 0 dX5_findGroups_24 rfl (Nat.le_of_ble_eq_true rfl) rfl ?_
  obtain ⟨s15, h_s15, h⟩ := bd_at h
  refine lo_at (b := b_X5_findGroups_25) (G := (fun z9 : Int32 × Int32 × me => pm_G g mX5_findGroups X 25 [some (.ref 126), some (.ref 1), some (.int z9.1), some (.int z9.2.1), none] [] (en S z9.2.2) 0 0)) (T := (fun z9 : Int32 × Int32 × me => pm_G g mX5_findGroups X 102 [some (.ref 126), some (.ref 1), some (.int z9.1), some (.int z9.2.1), none] [] (en S z9.2.2) 0 0)) (fun q9 r9 h1 h2 h3 => lb_X5_findGroups_25 hfl hS h1 h2 h3) 2048 (1, 0, s4.2) s15 h_s15 ?_
  show pm_G g mX5_findGroups X 102 [some (.ref 126), some (.ref 1), some (.int s15.1), some (.int s15.2.1), none] [] (en S s15.2.2) 0 0
  refine pg_iload_n dX5_findGroups_102 rfl ?_
  obtain ⟨g1, h⟩ := gd_at h
  obtain rfl := Option.some.inj h
  exact hE.2.1 _ _ _ _ _ _ .boolean dX5_findGroups_103 rfl (isB_nar g1) (Nat.zero_le _) (Nat.zero_le _) ⟨rfl, rfl⟩
def f_X11_isForest (m0 : me) : Option (Int32 × me) :=
  bd (f_X5_findGroups m0) (fun r1 =>
  gd (isB r1.1) (
  some ((r1.1, r1.2))))
set_option maxRecDepth 20000 in
set_option maxHeartbeats 4000000 in
theorem ct_X11_isForest (hfl : g.1.stackTraces = false) (hS : pS 0 138 S) {m0 : me} {x : (Int32 × me)} (h : f_X11_isForest m0 = some x) : pm_Ct g mX11_isForest [.ref 0] (en S m0) 0 0 (qI S x) qF := by
  refine pm_of (by decide +kernel) rfl hfl (Nat.le_of_ble_eq_true rfl) (fun X hE => ?_)
  show pm_G g mX11_isForest X 0 [some (.ref 0)] [] (en S m0) 0 0
  unfold f_X11_isForest at h
  refine pg_aload_n dX11_isForest_0 rfl ?_
  refine eg_get dX11_isForest_1 fa_X11_58 hS sp0 (Nat.le_of_ble_eq_true rfl) (Nat.le_of_ble_eq_true rfl) rfl rfl ?_
  refine pg_aload_n dX11_isForest_4 rfl ?_
  refine eg_get dX11_isForest_5 fa_X11_12 hS sp0 (Nat.le_of_ble_eq_true rfl) (Nat.le_of_ble_eq_true rfl) rfl rfl ?_
  obtain ⟨r1, h_r1, h⟩ := bd_at h
  refine eg_cVi (C := mX5_findGroups) (as := [(.ref 1)]) dX11_isForest_8 mw182 cv_X5_findGroups hS sp126 (Nat.le_of_ble_eq_true rfl) (Nat.le_of_ble_eq_true rfl) rfl rfl rfl (Nat.le_of_ble_eq_true rfl) rfl ⟨(Nat.le_of_ble_eq_true rfl), (Nat.le_of_ble_eq_true rfl)⟩ (ct_X5_findGroups hfl (hS.sub (Nat.le_of_ble_eq_true rfl) (Nat.le_of_ble_eq_true rfl)) h_r1) ?_
  obtain ⟨g1, h⟩ := gd_at h
  obtain rfl := Option.some.inj h
  exact hE.2.1 _ _ _ _ _ _ .boolean dX11_isForest_11 rfl (isB_nar g1) (Nat.zero_le _) (Nat.zero_le _) ⟨rfl, rfl⟩
def f_X11_clearScript (m0 : me) : Option (Int32 × me) :=
  lt (m0.1 111 0) (fun w1 =>
  lt (wI m0 111 0 0) (fun m2 =>
  some ((w1, m2))))
set_option maxRecDepth 20000 in
set_option maxHeartbeats 4000000 in
theorem ct_X11_clearScript (hfl : g.1.stackTraces = false) (hS : pS 0 138 S) {m0 : me} {x : (Int32 × me)} (h : f_X11_clearScript m0 = some x) : pm_Ct g mX11_clearScript [.ref 0] (en S m0) 0 0 (qI S x) qF := by
  refine pm_of (by decide +kernel) rfl hfl (Nat.le_of_ble_eq_true rfl) (fun X hE => ?_)
  show pm_G g mX11_clearScript X 0 [some (.ref 0), none] [] (en S m0) 0 0
  unfold f_X11_clearScript at h
  refine pg_aload_n dX11_clearScript_0 rfl ?_
  refine eg_get dX11_clearScript_1 fa_X11_30 hS sp0 (Nat.le_of_ble_eq_true rfl) (Nat.le_of_ble_eq_true rfl) rfl rfl ?_
  refine eg_get dX11_clearScript_4 fa_X11_261 hS sp111 (Nat.le_of_ble_eq_true rfl) (Nat.le_of_ble_eq_true rfl) rfl rfl ?_
  obtain ⟨w1, e_w1⟩ : ∃ z : Int32, z = m0.1 111 0 := ⟨_, rfl⟩
  replace h := lt_at h e_w1
  refine eg_istore_n [some (.ref 0), some (.int w1)] w1 dX11_clearScript_7 e_w1 (Nat.le_of_ble_eq_true rfl) rfl ?_
  refine pg_aload_n dX11_clearScript_8 rfl ?_
  refine eg_get dX11_clearScript_9 fa_X11_30 hS sp0 (Nat.le_of_ble_eq_true rfl) (Nat.le_of_ble_eq_true rfl) rfl rfl ?_
  refine pg_iconst 0 dX11_clearScript_12 rfl ?_
  refine eg_put dX11_clearScript_13 fa_X11_261 hS sp111 (Nat.le_of_ble_eq_true rfl) (Nat.le_of_ble_eq_true rfl) rfl (Nat.le_of_ble_eq_true rfl) rfl (fun m2 e_m2 => ?_)
  replace h := lt_at h e_m2
  refine pg_iload_n dX11_clearScript_16 rfl ?_
  obtain rfl := Option.some.inj h
  exact hE.2.1 _ _ _ _ _ _ .int dX11_clearScript_17 rfl rfl (Nat.zero_le _) (Nat.zero_le _) ⟨rfl, rfl⟩
def f_X7_rewind (m0 : me) : Option me :=
  lt (wI m0 111 4 0) (fun m1 =>
  lt (wI m1 111 5 (-1)) (fun m2 =>
  some (m2)))
set_option maxRecDepth 20000 in
set_option maxHeartbeats 4000000 in
theorem ct_X7_rewind (hfl : g.1.stackTraces = false) (hS : pS 0 138 S) {m0 : me} {x : me} (h : f_X7_rewind m0 = some x) : pm_Ct g mX7_rewind [.ref 111] (en S m0) 0 0 (qV S x) qF := by
  refine pm_of (by decide +kernel) rfl hfl (Nat.le_of_ble_eq_true rfl) (fun X hE => ?_)
  show pm_G g mX7_rewind X 0 [some (.ref 111)] [] (en S m0) 0 0
  unfold f_X7_rewind at h
  refine pg_aload_n dX7_rewind_0 rfl ?_
  refine pg_iconst 0 dX7_rewind_1 rfl ?_
  refine eg_put dX7_rewind_2 fa_X7_26 hS sp111 (Nat.le_of_ble_eq_true rfl) (Nat.le_of_ble_eq_true rfl) rfl (Nat.le_of_ble_eq_true rfl) rfl (fun m1 e_m1 => ?_)
  replace h := lt_at h e_m1
  refine pg_aload_n dX7_rewind_5 rfl ?_
  refine pg_iconst (-1) dX7_rewind_6 rfl ?_
  refine eg_put dX7_rewind_7 fa_X7_29 hS sp111 (Nat.le_of_ble_eq_true rfl) (Nat.le_of_ble_eq_true rfl) rfl (Nat.le_of_ble_eq_true rfl) rfl (fun m2 e_m2 => ?_)
  replace h := lt_at h e_m2
  obtain rfl := Option.some.inj h
  exact hE.2.2.1 _ _ _ _ _ dX7_rewind_10 rfl (Nat.zero_le _) (Nat.zero_le _) ⟨rfl, rfl⟩
def b_X7_skipSpaces_0 (s : me) : Option ((me) ⊕ (me)) :=
  if (s.1 111 0) ≤ (s.1 111 4) then
    some (.inr s)
  else
    gd (inR (s.1 111 4) 120) (
    if (s.1 113 ((s.1 111 4).toNatClampNeg)) = 32 then
      lt (wI s 111 4 ((s.1 111 4) + 1)) (fun m3 =>
      some (.inl m3))
    else
      some (.inr s))
def f_X7_skipSpaces (m0 : me) : Option me :=
  bd (lo (b_X7_skipSpaces_0) 2048 m0) (fun s4 =>
  some (s4))
set_option maxRecDepth 20000 in
set_option maxHeartbeats 4000000 in
theorem lb_X7_skipSpaces_0 (hfl : g.1.stackTraces = false) (hS : pS 0 138 S) {s : me} {r : (me) ⊕ (me)} (h : b_X7_skipSpaces_0 s = some r) (hN : ∀ s', r = .inl s' → (fun z9 : me => pm_G g mX7_skipSpaces X 0 [some (.ref 111)] [] (en S z9) 0 0) s') (hT : ∀ t, r = .inr t → (fun z9 : me => pm_G g mX7_skipSpaces X 38 [some (.ref 111)] [] (en S z9) 0 0) t) : (fun z9 : me => pm_G g mX7_skipSpaces X 0 [some (.ref 111)] [] (en S z9) 0 0) s := by
  unfold b_X7_skipSpaces_0 at h
  show pm_G g mX7_skipSpaces X 0 [some (.ref 111)] [] (en S s) 0 0
  refine pg_aload_n dX7_skipSpaces_0 rfl ?_
  refine eg_get dX7_skipSpaces_1 fa_X7_26 hS sp111 (Nat.le_of_ble_eq_true rfl) (Nat.le_of_ble_eq_true rfl) rfl rfl ?_
  refine pg_aload_n dX7_skipSpaces_4 rfl ?_
  refine eg_get dX7_skipSpaces_5 fa_X7_18 hS sp111 (Nat.le_of_ble_eq_true rfl) (Nat.le_of_ble_eq_true rfl) rfl rfl ?_
  refine pg_icmp_ge 38 dX7_skipSpaces_8 (by decide) (fun c1 => ?_) (fun c1 => ?_)
  · rw [if_pos c1] at h
    obtain rfl := Option.some.inj h
    exact hT _ rfl
  · rw [if_neg c1] at h
    refine pg_aload_n dX7_skipSpaces_11 rfl ?_
    refine eg_get dX7_skipSpaces_12 fa_X7_15 hS sp111 (Nat.le_of_ble_eq_true rfl) (Nat.le_of_ble_eq_true rfl) rfl rfl ?_
    refine pg_aload_n dX7_skipSpaces_15 rfl ?_
    refine eg_get dX7_skipSpaces_16 fa_X7_26 hS sp111 (Nat.le_of_ble_eq_true rfl) (Nat.le_of_ble_eq_true rfl) rfl rfl ?_
    obtain ⟨g1, h⟩ := gd_at h
    refine eg_ialdJ ((s.1 111 4).toNatClampNeg) dX7_skipSpaces_19 hS sp113 (Nat.le_of_ble_eq_true rfl) (Nat.le_of_ble_eq_true rfl) rfl (inR_vp g1) rfl ?_
    refine pg_bipush 32 dX7_skipSpaces_20 rfl ?_
    refine pg_icmp_ne 38 dX7_skipSpaces_22 (by decide) (fun c2 => ?_) (fun c2 => ?_)
    · rw [if_neg c2] at h
      obtain rfl := Option.some.inj h
      exact hT _ rfl
    · rw [if_pos c2] at h
      refine pg_aload_n dX7_skipSpaces_25 rfl ?_
      refine pg_dup dX7_skipSpaces_26 rfl ?_
      refine eg_get dX7_skipSpaces_27 fa_X7_26 hS sp111 (Nat.le_of_ble_eq_true rfl) (Nat.le_of_ble_eq_true rfl) rfl rfl ?_
      refine pg_iconst 1 dX7_skipSpaces_30 rfl ?_
      refine pg_iadd dX7_skipSpaces_31 ?_
      refine eg_put dX7_skipSpaces_32 fa_X7_26 hS sp111 (Nat.le_of_ble_eq_true rfl) (Nat.le_of_ble_eq_true rfl) rfl (Nat.le_of_ble_eq_true rfl) rfl (fun m3 e_m3 => ?_)
      replace h := lt_at h e_m3
      refine pg_goto 0 dX7_skipSpaces_35 (by decide) ?_
      obtain rfl := Option.some.inj h
      exact hN _ rfl
set_option maxRecDepth 20000 in
set_option maxHeartbeats 4000000 in
theorem ct_X7_skipSpaces (hfl : g.1.stackTraces = false) (hS : pS 0 138 S) {m0 : me} {x : me} (h : f_X7_skipSpaces m0 = some x) : pm_Ct g mX7_skipSpaces [.ref 111] (en S m0) 0 0 (qV S x) qF := by
  refine pm_of (by decide +kernel) rfl hfl (Nat.le_of_ble_eq_true rfl) (fun X hE => ?_)
  show pm_G g mX7_skipSpaces X 0 [some (.ref 111)] [] (en S m0) 0 0
  unfold f_X7_skipSpaces at h
  obtain ⟨s4, h_s4, h⟩ := bd_at h
  refine lo_at (b := b_X7_skipSpaces_0) (G := (fun z9 : me => pm_G g mX7_skipSpaces X 0 [some (.ref 111)] [] (en S z9) 0 0)) (T := (fun z9 : me => pm_G g mX7_skipSpaces X 38 [some (.ref 111)] [] (en S z9) 0 0)) (fun q9 r9 h1 h2 h3 => lb_X7_skipSpaces_0 hfl hS h1 h2 h3) 2048 m0 s4 h_s4 ?_
  show pm_G g mX7_skipSpaces X 38 [some (.ref 111)] [] (en S s4) 0 0
  obtain rfl := Option.some.inj h
  exact hE.2.2.1 _ _ _ _ _ dX7_skipSpaces_38 rfl (Nat.zero_le _) (Nat.zero_le _) ⟨rfl, rfl⟩
def f_X7_isLetter (v0 : Int32) (m0 : me) : Option (Int32 × me) :=
  if v0 < 97 then
    some ((0, m0))
  else
    if 122 < v0 then
      some ((0, m0))
    else
      some ((1, m0))
set_option maxRecDepth 20000 in
set_option maxHeartbeats 4000000 in
theorem ct_X7_isLetter (hfl : g.1.stackTraces = false) {v0 : Int32} {m0 : me} {x : (Int32 × me)} (h : f_X7_isLetter v0 m0 = some x) : pm_Ct g mX7_isLetter [.int v0] (en S m0) 0 0 (qI S x) qF := by
  refine pm_of (by decide +kernel) rfl hfl (Nat.le_of_ble_eq_true rfl) (fun X hE => ?_)
  show pm_G g mX7_isLetter X 0 [some (.int v0)] [] (en S m0) 0 0
  unfold f_X7_isLetter at h
  refine pg_iload_n dX7_isLetter_0 rfl ?_
  refine pg_bipush 97 dX7_isLetter_1 rfl ?_
  refine pg_icmp_lt 16 dX7_isLetter_3 (by decide) (fun c1 => ?_) (fun c1 => ?_)
  · rw [if_pos c1] at h
    refine pg_iconst 0 dX7_isLetter_16 rfl ?_
    obtain rfl := Option.some.inj h
    exact hE.2.1 _ _ _ _ _ _ .boolean dX7_isLetter_17 rfl rfl (Nat.zero_le _) (Nat.zero_le _) ⟨rfl, rfl⟩
  · rw [if_neg c1] at h
    refine pg_iload_n dX7_isLetter_6 rfl ?_
    refine pg_bipush 122 dX7_isLetter_7 rfl ?_
    refine pg_icmp_gt 16 dX7_isLetter_9 (by decide) (fun c2 => ?_) (fun c2 => ?_)
    · rw [if_pos c2] at h
      refine pg_iconst 0 dX7_isLetter_16 rfl ?_
      obtain rfl := Option.some.inj h
      exact hE.2.1 _ _ _ _ _ _ .boolean dX7_isLetter_17 rfl rfl (Nat.zero_le _) (Nat.zero_le _) ⟨rfl, rfl⟩
    · rw [if_neg c2] at h
      refine pg_iconst 1 dX7_isLetter_12 rfl ?_
      refine pg_goto 17 dX7_isLetter_13 (by decide) ?_
      obtain rfl := Option.some.inj h
      exact hE.2.1 _ _ _ _ _ _ .boolean dX7_isLetter_17 rfl rfl (Nat.zero_le _) (Nat.zero_le _) ⟨rfl, rfl⟩
def b_X7_isWord_15 (v1 : Int32) (v2 : Int32) (v3 : Int32) (v4 : Int32) (s : Int32 × me) : Option ((Int32 × me) ⊕ ((Int32 × me) ⊕ (Int32 × me))) :=
  if v3 ≤ s.1 then
    some (.inr (.inl (s.1, s.2)))
  else
    gd (inR (v4 + s.1) 35) (
    gd (inR (v2 + s.1) 120) (
    if (pm_char (v4 + s.1).toNatClampNeg) = (s.2.1 113 ((v2 + s.1).toNatClampNeg)) then
      lt (s.1 + 1) (fun w5 =>
      some (.inl (w5, s.2)))
    else
      some (.inr (.inr ((0, s.2))))))
def f_X7_isWord (v1 : Int32) (v2 : Int32) (v3 : Int32) (m0 : me) : Option (Int32 × me) :=
  if v3 ≤ 4 then
    lt (v1 * 5) (fun w2 =>
    bd (lo (b_X7_isWord_15 v1 v2 v3 w2) 2048 (0, m0)) (fun s6 =>
    sm s6 (fun s7 =>
      gd (inR (w2 + v3) 35) (
      if (pm_char (w2 + v3).toNatClampNeg) = 32 then
        some ((1, s7.2))
      else
        some ((0, s7.2)))) (fun x8 => some x8)))
  else
    some ((0, m0))
set_option maxRecDepth 20000 in
set_option maxHeartbeats 4000000 in
theorem lb_X7_isWord_15 (hfl : g.1.stackTraces = false) (hS : pS 0 138 S) {v1 : Int32} {v2 : Int32} {v3 : Int32} {v4 : Int32} {s : Int32 × me} {r : (Int32 × me) ⊕ ((Int32 × me) ⊕ (Int32 × me))} (h : b_X7_isWord_15 v1 v2 v3 v4 s = some r) (hN : ∀ s', r = .inl s' → (fun z9 : Int32 × me => pm_G g mX7_isWord X 15 [some (.ref 111), some (.int v1), some (.int v2), some (.int v3), some (.int v4), some (.int z9.1)] [] (en S z9.2) 0 0) s') (hT : ∀ t, r = .inr t → (fun z8 : ((Int32 × me) ⊕ (Int32 × me)) => (∀ z9, z8 = .inl z9 → pm_G g mX7_isWord X 51 [some (.ref 111), some (.int v1), some (.int v2), some (.int v3), some (.int v4), some (.int z9.1)] [] (en S z9.2) 0 0) ∧ (∀ x9, z8 = .inr x9 → pm_End g mX7_isWord X 0 0 (qI S x9) qF)) t) : (fun z9 : Int32 × me => pm_G g mX7_isWord X 15 [some (.ref 111), some (.int v1), some (.int v2), some (.int v3), some (.int v4), some (.int z9.1)] [] (en S z9.2) 0 0) s := by
  unfold b_X7_isWord_15 at h
  show pm_G g mX7_isWord X 15 [some (.ref 111), some (.int v1), some (.int v2), some (.int v3), some (.int v4), some (.int s.1)] [] (en S s.2) 0 0
  refine pg_iload dX7_isWord_15 rfl ?_
  refine pg_iload_n dX7_isWord_17 rfl ?_
  refine pg_icmp_ge 51 dX7_isWord_18 (by decide) (fun c3 => ?_) (fun c3 => ?_)
  · rw [if_pos c3] at h
    obtain rfl := Option.some.inj h
    exact (hT _ rfl).1 _ rfl
  · rw [if_neg c3] at h
    refine pg_ldcW dX7_isWord_21 rfl ?_
    refine pg_iload dX7_isWord_23 rfl ?_
    refine pg_iload dX7_isWord_25 rfl ?_
    refine pg_iadd dX7_isWord_27 ?_
    obtain ⟨g1, h⟩ := gd_at h
    refine pg_charAt hfl dX7_isWord_28 rfl (inR_vp g1) rfl (Nat.le_of_ble_eq_true rfl) (Nat.le_of_ble_eq_true rfl) (Nat.le_of_ble_eq_true rfl) ?_
    refine pg_aload_n dX7_isWord_31 rfl ?_
    refine eg_get dX7_isWord_32 fa_X7_15 hS sp111 (Nat.le_of_ble_eq_true rfl) (Nat.le_of_ble_eq_true rfl) rfl rfl ?_
    refine pg_iload_n dX7_isWord_35 rfl ?_
    refine pg_iload dX7_isWord_36 rfl ?_
    refine pg_iadd dX7_isWord_38 ?_
    obtain ⟨g1, h⟩ := gd_at h
    refine eg_ialdJ ((v2 + s.1).toNatClampNeg) dX7_isWord_39 hS sp113 (Nat.le_of_ble_eq_true rfl) (Nat.le_of_ble_eq_true rfl) rfl (inR_vp g1) rfl ?_
    refine pg_icmp_eq 45 dX7_isWord_40 (by decide) (fun c4 => ?_) (fun c4 => ?_)
    · rw [if_pos c4] at h
      obtain ⟨w5, e_w5⟩ : ∃ z : Int32, z = s.1 + 1 := ⟨_, rfl⟩
      replace h := lt_at h e_w5
      refine eg_iinc [some (.ref 111), some (.int v1), some (.int v2), some (.int v3), some (.int v4), some (.int w5)] w5 1 dX7_isWord_45 rfl rfl e_w5 rfl ?_
      refine pg_goto 15 dX7_isWord_48 (by decide) ?_
      obtain rfl := Option.some.inj h
      exact hN _ rfl
    · rw [if_neg c4] at h
      refine pg_iconst 0 dX7_isWord_43 rfl ?_
      obtain rfl := Option.some.inj h
      exact ((hT _ rfl).2 _ rfl).2.1 _ _ _ _ _ _ .boolean dX7_isWord_44 rfl rfl (Nat.zero_le _) (Nat.zero_le _) ⟨rfl, rfl⟩
set_option maxRecDepth 20000 in
set_option maxHeartbeats 4000000 in
theorem ct_X7_isWord (hfl : g.1.stackTraces = false) (hS : pS 0 138 S) {v1 : Int32} {v2 : Int32} {v3 : Int32} {m0 : me} {x : (Int32 × me)} (h : f_X7_isWord v1 v2 v3 m0 = some x) : pm_Ct g mX7_isWord [.ref 111, .int v1, .int v2, .int v3] (en S m0) 0 0 (qI S x) qF := by
  refine pm_of (by decide +kernel) rfl hfl (Nat.le_of_ble_eq_true rfl) (fun X hE => ?_)
  show pm_G g mX7_isWord X 0 [some (.ref 111), some (.int v1), some (.int v2), some (.int v3), none, none] [] (en S m0) 0 0
  unfold f_X7_isWord at h
  refine pg_iload_n dX7_isWord_0 rfl ?_
  refine pg_iconst 4 dX7_isWord_1 rfl ?_
  refine pg_icmp_le 7 dX7_isWord_2 (by decide) (fun c1 => ?_) (fun c1 => ?_)
  · rw [if_pos c1] at h
    refine pg_iload_n dX7_isWord_7 rfl ?_
    refine pg_iconst 5 dX7_isWord_8 rfl ?_
    refine pg_imul dX7_isWord_9 ?_
    obtain ⟨w2, e_w2⟩ : ∃ z : Int32, z = v1 * 5 := ⟨_, rfl⟩
    replace h := lt_at h e_w2
    refine eg_istore [some (.ref 111), some (.int v1), some (.int v2), some (.int v3), some (.int w2), none] w2 dX7_isWord_10 e_w2 (Nat.le_of_ble_eq_true rfl) rfl ?_
    refine pg_iconst 0 dX7_isWord_12 rfl ?_
    refine eg_istore [some (.ref 111), some (.int v1), some (.int v2), some (.int v3), some (.int w2), some (.int 0)] 0 dX7_isWord_13 rfl (Nat.le_of_ble_eq_true rfl) rfl ?_
    obtain ⟨s6, h_s6, h⟩ := bd_at h
    refine lo_at (b := b_X7_isWord_15 v1 v2 v3 w2) (G := (fun z9 : Int32 × me => pm_G g mX7_isWord X 15 [some (.ref 111), some (.int v1), some (.int v2), some (.int v3), some (.int w2), some (.int z9.1)] [] (en S z9.2) 0 0)) (T := (fun z8 : ((Int32 × me) ⊕ (Int32 × me)) => (∀ z9, z8 = .inl z9 → pm_G g mX7_isWord X 51 [some (.ref 111), some (.int v1), some (.int v2), some (.int v3), some (.int w2), some (.int z9.1)] [] (en S z9.2) 0 0) ∧ (∀ x9, z8 = .inr x9 → pm_End g mX7_isWord X 0 0 (qI S x9) qF))) (fun q9 r9 h1 h2 h3 => lb_X7_isWord_15 hfl hS h1 h2 h3) 2048 (0, m0) s6 h_s6 ⟨fun s7 k_s7 => ?_, fun x8 k_x8 => ?_⟩
    · rw [k_s7] at h
      replace h := sm_l h
      show pm_G g mX7_isWord X 51 [some (.ref 111), some (.int v1), some (.int v2), some (.int v3), some (.int w2), some (.int s7.1)] [] (en S s7.2) 0 0
      refine pg_ldcW dX7_isWord_51 rfl ?_
      refine pg_iload dX7_isWord_53 rfl ?_
      refine pg_iload_n dX7_isWord_55 rfl ?_
      refine pg_iadd dX7_isWord_56 ?_
      obtain ⟨g1, h⟩ := gd_at h
      refine pg_charAt hfl dX7_isWord_57 rfl (inR_vp g1) rfl (Nat.le_of_ble_eq_true rfl) (Nat.le_of_ble_eq_true rfl) (Nat.le_of_ble_eq_true rfl) ?_
      refine pg_bipush 32 dX7_isWord_60 rfl ?_
      refine pg_icmp_ne 69 dX7_isWord_62 (by decide) (fun c9 => ?_) (fun c9 => ?_)
      · rw [if_neg c9] at h
        refine pg_iconst 0 dX7_isWord_69 rfl ?_
        obtain rfl := Option.some.inj h
        exact hE.2.1 _ _ _ _ _ _ .boolean dX7_isWord_70 rfl rfl (Nat.zero_le _) (Nat.zero_le _) ⟨rfl, rfl⟩
      · rw [if_pos c9] at h
        refine pg_iconst 1 dX7_isWord_65 rfl ?_
        refine pg_goto 70 dX7_isWord_66 (by decide) ?_
        obtain rfl := Option.some.inj h
        exact hE.2.1 _ _ _ _ _ _ .boolean dX7_isWord_70 rfl rfl (Nat.zero_le _) (Nat.zero_le _) ⟨rfl, rfl⟩
    · rw [k_x8] at h
      replace h := sm_r h
      obtain rfl := Option.some.inj h
      exact hE
  · rw [if_neg c1] at h
    refine pg_iconst 0 dX7_isWord_5 rfl ?_
    obtain rfl := Option.some.inj h
    exact hE.2.1 _ _ _ _ _ _ .boolean dX7_isWord_6 rfl rfl (Nat.zero_le _) (Nat.zero_le _) ⟨rfl, rfl⟩
def f_X7_stopHere (m0 : me) : Option (Int32 × me) :=
  lt (wI m0 111 5 (m0.1 111 4)) (fun m1 =>
  some ((0, m1)))
set_option maxRecDepth 20000 in
set_option maxHeartbeats 4000000 in
theorem ct_X7_stopHere (hfl : g.1.stackTraces = false) (hS : pS 0 138 S) {m0 : me} {x : (Int32 × me)} (h : f_X7_stopHere m0 = some x) : pm_Ct g mX7_stopHere [.ref 111] (en S m0) 0 0 (qI S x) qF := by
  refine pm_of (by decide +kernel) rfl hfl (Nat.le_of_ble_eq_true rfl) (fun X hE => ?_)
  show pm_G g mX7_stopHere X 0 [some (.ref 111)] [] (en S m0) 0 0
  unfold f_X7_stopHere at h
  refine pg_aload_n dX7_stopHere_0 rfl ?_
  refine pg_aload_n dX7_stopHere_1 rfl ?_
  refine eg_get dX7_stopHere_2 fa_X7_26 hS sp111 (Nat.le_of_ble_eq_true rfl) (Nat.le_of_ble_eq_true rfl) rfl rfl ?_
  refine eg_put dX7_stopHere_5 fa_X7_29 hS sp111 (Nat.le_of_ble_eq_true rfl) (Nat.le_of_ble_eq_true rfl) rfl (Nat.le_of_ble_eq_true rfl) rfl (fun m1 e_m1 => ?_)
  replace h := lt_at h e_m1
  refine pg_iconst 0 dX7_stopHere_8 rfl ?_
  obtain rfl := Option.some.inj h
  exact hE.2.1 _ _ _ _ _ _ .boolean dX7_stopHere_9 rfl rfl (Nat.zero_le _) (Nat.zero_le _) ⟨rfl, rfl⟩
def b_X7_readWord_5 (v1 : Int32) (s : me) : Option ((me) ⊕ (me)) :=
  if (s.1 111 0) ≤ (s.1 111 4) then
    some (.inr s)
  else
    gd (inR (s.1 111 4) 120) (
    bd (f_X7_isLetter (s.1 113 ((s.1 111 4).toNatClampNeg)) s) (fun r3 =>
    if r3.1 = 0 then
      some (.inr r3.2)
    else
      lt (wI r3.2 111 4 ((r3.2.1 111 4) + 1)) (fun m5 =>
      some (.inl m5))))
def b_X7_readWord_59 (v1 : Int32) (s : Int32 × me) : Option ((Int32 × me) ⊕ ((Int32 × me) ⊕ (Int32 × me))) :=
  if 6 < s.1 then
    some (.inr (.inl (s.1, s.2)))
  else
    bd (f_X7_isWord s.1 v1 ((s.2.1 111 4) - v1) s.2) (fun r9 =>
    if r9.1 = 0 then
      lt (s.1 + 1) (fun w11 =>
      some (.inl (w11, r9.2)))
    else
      lt (wI r9.2 111 1 s.1) (fun m12 =>
      some (.inr (.inr ((1, m12))))))
def j_X7_readWord_44 (v1 : Int32) (m0 : me) : Option (Int32 × me) :=
  if (m0.1 111 4) = v1 then
    bd (f_X7_stopHere m0) (fun r18 =>
    gd (isB r18.1) (
    some ((r18.1, r18.2))))
  else
    bd (lo (b_X7_readWord_59 v1) 2048 (0, m0)) (fun s13 =>
    sm s13 (fun s14 =>
      lt (wI s14.2 111 4 v1) (fun m16 =>
      bd (f_X7_stopHere m16) (fun r17 =>
      gd (isB r17.1) (
      some ((r17.1, r17.2)))))) (fun x15 => some x15))
def f_X7_readWord (m0 : me) : Option (Int32 × me) :=
  lt (m0.1 111 4) (fun w1 =>
  bd (lo (b_X7_readWord_5 w1) 2048 m0) (fun s6 =>
  j_X7_readWord_44 w1 s6))
set_option maxRecDepth 20000 in
set_option maxHeartbeats 4000000 in
theorem lb_X7_readWord_5 (hfl : g.1.stackTraces = false) (hS : pS 0 138 S) {v1 : Int32} {s : me} {r : (me) ⊕ (me)} (h : b_X7_readWord_5 v1 s = some r) (hN : ∀ s', r = .inl s' → (fun z9 : me => pm_G g mX7_readWord X 5 [some (.ref 111), some (.int v1), none] [] (en S z9) 0 0) s') (hT : ∀ t, r = .inr t → (fun z9 : me => pm_G g mX7_readWord X 44 [some (.ref 111), some (.int v1), none] [] (en S z9) 0 0) t) : (fun z9 : me => pm_G g mX7_readWord X 5 [some (.ref 111), some (.int v1), none] [] (en S z9) 0 0) s := by
  unfold b_X7_readWord_5 at h
  show pm_G g mX7_readWord X 5 [some (.ref 111), some (.int v1), none] [] (en S s) 0 0
  refine pg_aload_n dX7_readWord_5 rfl ?_
  refine eg_get dX7_readWord_6 fa_X7_26 hS sp111 (Nat.le_of_ble_eq_true rfl) (Nat.le_of_ble_eq_true rfl) rfl rfl ?_
  refine pg_aload_n dX7_readWord_9 rfl ?_
  refine eg_get dX7_readWord_10 fa_X7_18 hS sp111 (Nat.le_of_ble_eq_true rfl) (Nat.le_of_ble_eq_true rfl) rfl rfl ?_
  refine pg_icmp_ge 44 dX7_readWord_13 (by decide) (fun c2 => ?_) (fun c2 => ?_)
  · rw [if_pos c2] at h
    obtain rfl := Option.some.inj h
    exact hT _ rfl
  · rw [if_neg c2] at h
    refine pg_aload_n dX7_readWord_16 rfl ?_
    refine eg_get dX7_readWord_17 fa_X7_15 hS sp111 (Nat.le_of_ble_eq_true rfl) (Nat.le_of_ble_eq_true rfl) rfl rfl ?_
    refine pg_aload_n dX7_readWord_20 rfl ?_
    refine eg_get dX7_readWord_21 fa_X7_26 hS sp111 (Nat.le_of_ble_eq_true rfl) (Nat.le_of_ble_eq_true rfl) rfl rfl ?_
    obtain ⟨g1, h⟩ := gd_at h
    refine eg_ialdJ ((s.1 111 4).toNatClampNeg) dX7_readWord_24 hS sp113 (Nat.le_of_ble_eq_true rfl) (Nat.le_of_ble_eq_true rfl) rfl (inR_vp g1) rfl ?_
    obtain ⟨r3, h_r3, h⟩ := bd_at h
    refine eg_cSi (C := mX7_isLetter) (as := [(.int (s.1 113 ((s.1 111 4).toNatClampNeg)))]) dX7_readWord_25 mw266 cs_X7_isLetter rfl rfl (Nat.le_of_ble_eq_true rfl) rfl ⟨(Nat.le_of_ble_eq_true rfl), (Nat.le_of_ble_eq_true rfl)⟩ (ct_X7_isLetter hfl h_r3) ?_
    refine pg_if_eq 44 dX7_readWord_28 (by decide) (fun c4 => ?_) (fun c4 => ?_)
    · rw [if_pos c4] at h
      obtain rfl := Option.some.inj h
      exact hT _ rfl
    · rw [if_neg c4] at h
      refine pg_aload_n dX7_readWord_31 rfl ?_
      refine pg_dup dX7_readWord_32 rfl ?_
      refine eg_get dX7_readWord_33 fa_X7_26 hS sp111 (Nat.le_of_ble_eq_true rfl) (Nat.le_of_ble_eq_true rfl) rfl rfl ?_
      refine pg_iconst 1 dX7_readWord_36 rfl ?_
      refine pg_iadd dX7_readWord_37 ?_
      refine eg_put dX7_readWord_38 fa_X7_26 hS sp111 (Nat.le_of_ble_eq_true rfl) (Nat.le_of_ble_eq_true rfl) rfl (Nat.le_of_ble_eq_true rfl) rfl (fun m5 e_m5 => ?_)
      replace h := lt_at h e_m5
      refine pg_goto 5 dX7_readWord_41 (by decide) ?_
      obtain rfl := Option.some.inj h
      exact hN _ rfl
set_option maxRecDepth 20000 in
set_option maxHeartbeats 4000000 in
theorem lb_X7_readWord_59 (hfl : g.1.stackTraces = false) (hS : pS 0 138 S) {v1 : Int32} {s : Int32 × me} {r : (Int32 × me) ⊕ ((Int32 × me) ⊕ (Int32 × me))} (h : b_X7_readWord_59 v1 s = some r) (hN : ∀ s', r = .inl s' → (fun z9 : Int32 × me => pm_G g mX7_readWord X 59 [some (.ref 111), some (.int v1), some (.int z9.1)] [] (en S z9.2) 0 0) s') (hT : ∀ t, r = .inr t → (fun z8 : ((Int32 × me) ⊕ (Int32 × me)) => (∀ z9, z8 = .inl z9 → pm_G g mX7_readWord X 93 [some (.ref 111), some (.int v1), some (.int z9.1)] [] (en S z9.2) 0 0) ∧ (∀ x9, z8 = .inr x9 → pm_End g mX7_readWord X 0 0 (qI S x9) qF)) t) : (fun z9 : Int32 × me => pm_G g mX7_readWord X 59 [some (.ref 111), some (.int v1), some (.int z9.1)] [] (en S z9.2) 0 0) s := by
  unfold b_X7_readWord_59 at h
  show pm_G g mX7_readWord X 59 [some (.ref 111), some (.int v1), some (.int s.1)] [] (en S s.2) 0 0
  refine pg_iload_n dX7_readWord_59 rfl ?_
  refine pg_bipush 6 dX7_readWord_60 rfl ?_
  refine pg_icmp_gt 93 dX7_readWord_62 (by decide) (fun c8 => ?_) (fun c8 => ?_)
  · rw [if_pos c8] at h
    obtain rfl := Option.some.inj h
    exact (hT _ rfl).1 _ rfl
  · rw [if_neg c8] at h
    refine pg_aload_n dX7_readWord_65 rfl ?_
    refine pg_iload_n dX7_readWord_66 rfl ?_
    refine pg_iload_n dX7_readWord_67 rfl ?_
    refine pg_aload_n dX7_readWord_68 rfl ?_
    refine eg_get dX7_readWord_69 fa_X7_26 hS sp111 (Nat.le_of_ble_eq_true rfl) (Nat.le_of_ble_eq_true rfl) rfl rfl ?_
    refine pg_iload_n dX7_readWord_72 rfl ?_
    refine pg_isub dX7_readWord_73 ?_
    obtain ⟨r9, h_r9, h⟩ := bd_at h
    refine eg_cVi (C := mX7_isWord) (as := [(.int s.1), (.int v1), (.int ((s.2.1 111 4) - v1))]) dX7_readWord_74 mw270 cv_X7_isWord hS sp111 (Nat.le_of_ble_eq_true rfl) (Nat.le_of_ble_eq_true rfl) rfl rfl rfl (Nat.le_of_ble_eq_true rfl) rfl ⟨(Nat.le_of_ble_eq_true rfl), (Nat.le_of_ble_eq_true rfl)⟩ (ct_X7_isWord hfl (hS.sub (Nat.le_of_ble_eq_true rfl) (Nat.le_of_ble_eq_true rfl)) h_r9) ?_
    refine pg_if_eq 87 dX7_readWord_77 (by decide) (fun c10 => ?_) (fun c10 => ?_)
    · rw [if_pos c10] at h
      obtain ⟨w11, e_w11⟩ : ∃ z : Int32, z = s.1 + 1 := ⟨_, rfl⟩
      replace h := lt_at h e_w11
      refine eg_iinc [some (.ref 111), some (.int v1), some (.int w11)] w11 1 dX7_readWord_87 rfl rfl e_w11 rfl ?_
      refine pg_goto 59 dX7_readWord_90 (by decide) ?_
      obtain rfl := Option.some.inj h
      exact hN _ rfl
    · rw [if_neg c10] at h
      refine pg_aload_n dX7_readWord_80 rfl ?_
      refine pg_iload_n dX7_readWord_81 rfl ?_
      refine eg_put dX7_readWord_82 fa_X7_47 hS sp111 (Nat.le_of_ble_eq_true rfl) (Nat.le_of_ble_eq_true rfl) rfl (Nat.le_of_ble_eq_true rfl) rfl (fun m12 e_m12 => ?_)
      replace h := lt_at h e_m12
      refine pg_iconst 1 dX7_readWord_85 rfl ?_
      obtain rfl := Option.some.inj h
      exact ((hT _ rfl).2 _ rfl).2.1 _ _ _ _ _ _ .boolean dX7_readWord_86 rfl rfl (Nat.zero_le _) (Nat.zero_le _) ⟨rfl, rfl⟩
set_option maxRecDepth 20000 in
set_option maxHeartbeats 4000000 in
theorem lj_X7_readWord_44 (hfl : g.1.stackTraces = false) (hS : pS 0 138 S) {v1 : Int32} {m0 : me} {r : (Int32 × me)} (h : j_X7_readWord_44 v1 m0 = some r) (hE : pm_End g mX7_readWord X 0 0 (qI S r) qF) : pm_G g mX7_readWord X 44 [some (.ref 111), some (.int v1), none] [] (en S m0) 0 0 := by
  unfold j_X7_readWord_44 at h
  refine pg_aload_n dX7_readWord_44 rfl ?_
  refine eg_get dX7_readWord_45 fa_X7_26 hS sp111 (Nat.le_of_ble_eq_true rfl) (Nat.le_of_ble_eq_true rfl) rfl rfl ?_
  refine pg_iload_n dX7_readWord_48 rfl ?_
  refine pg_icmp_ne 57 dX7_readWord_49 (by decide) (fun c7 => ?_) (fun c7 => ?_)
  · rw [if_neg c7] at h
    refine pg_iconst 0 dX7_readWord_57 rfl ?_
    refine eg_istore_n [some (.ref 111), some (.int v1), some (.int 0)] 0 dX7_readWord_58 rfl (Nat.le_of_ble_eq_true rfl) rfl ?_
    obtain ⟨s13, h_s13, h⟩ := bd_at h
    refine lo_at (b := b_X7_readWord_59 v1) (G := (fun z9 : Int32 × me => pm_G g mX7_readWord X 59 [some (.ref 111), some (.int v1), some (.int z9.1)] [] (en S z9.2) 0 0)) (T := (fun z8 : ((Int32 × me) ⊕ (Int32 × me)) => (∀ z9, z8 = .inl z9 → pm_G g mX7_readWord X 93 [some (.ref 111), some (.int v1), some (.int z9.1)] [] (en S z9.2) 0 0) ∧ (∀ x9, z8 = .inr x9 → pm_End g mX7_readWord X 0 0 (qI S x9) qF))) (fun q9 r9 h1 h2 h3 => lb_X7_readWord_59 hfl hS h1 h2 h3) 2048 (0, m0) s13 h_s13 ⟨fun s14 k_s14 => ?_, fun x15 k_x15 => ?_⟩
    · rw [k_s14] at h
      replace h := sm_l h
      show pm_G g mX7_readWord X 93 [some (.ref 111), some (.int v1), some (.int s14.1)] [] (en S s14.2) 0 0
      refine pg_aload_n dX7_readWord_93 rfl ?_
      refine pg_iload_n dX7_readWord_94 rfl ?_
      refine eg_put dX7_readWord_95 fa_X7_26 hS sp111 (Nat.le_of_ble_eq_true rfl) (Nat.le_of_ble_eq_true rfl) rfl (Nat.le_of_ble_eq_true rfl) rfl (fun m16 e_m16 => ?_)
      replace h := lt_at h e_m16
      refine pg_aload_n dX7_readWord_98 rfl ?_
      obtain ⟨r17, h_r17, h⟩ := bd_at h
      refine eg_cVi (C := mX7_stopHere) (as := []) dX7_readWord_99 mw261 cv_X7_stopHere hS sp111 (Nat.le_of_ble_eq_true rfl) (Nat.le_of_ble_eq_true rfl) rfl rfl rfl (Nat.le_of_ble_eq_true rfl) rfl ⟨(Nat.le_of_ble_eq_true rfl), (Nat.le_of_ble_eq_true rfl)⟩ (ct_X7_stopHere hfl (hS.sub (Nat.le_of_ble_eq_true rfl) (Nat.le_of_ble_eq_true rfl)) h_r17) ?_
      obtain ⟨g1, h⟩ := gd_at h
      obtain rfl := Option.some.inj h
      exact hE.2.1 _ _ _ _ _ _ .boolean dX7_readWord_102 rfl (isB_nar g1) (Nat.zero_le _) (Nat.zero_le _) ⟨rfl, rfl⟩
    · rw [k_x15] at h
      replace h := sm_r h
      obtain rfl := Option.some.inj h
      exact hE
  · rw [if_pos c7] at h
    refine pg_aload_n dX7_readWord_52 rfl ?_
    obtain ⟨r18, h_r18, h⟩ := bd_at h
    refine eg_cVi (C := mX7_stopHere) (as := []) dX7_readWord_53 mw261 cv_X7_stopHere hS sp111 (Nat.le_of_ble_eq_true rfl) (Nat.le_of_ble_eq_true rfl) rfl rfl rfl (Nat.le_of_ble_eq_true rfl) rfl ⟨(Nat.le_of_ble_eq_true rfl), (Nat.le_of_ble_eq_true rfl)⟩ (ct_X7_stopHere hfl (hS.sub (Nat.le_of_ble_eq_true rfl) (Nat.le_of_ble_eq_true rfl)) h_r18) ?_
    obtain ⟨g1, h⟩ := gd_at h
    obtain rfl := Option.some.inj h
    exact hE.2.1 _ _ _ _ _ _ .boolean dX7_readWord_56 rfl (isB_nar g1) (Nat.zero_le _) (Nat.zero_le _) ⟨rfl, rfl⟩
set_option maxRecDepth 20000 in
set_option maxHeartbeats 4000000 in
theorem ct_X7_readWord (hfl : g.1.stackTraces = false) (hS : pS 0 138 S) {m0 : me} {x : (Int32 × me)} (h : f_X7_readWord m0 = some x) : pm_Ct g mX7_readWord [.ref 111] (en S m0) 0 0 (qI S x) qF := by
  refine pm_of (by decide +kernel) rfl hfl (Nat.le_of_ble_eq_true rfl) (fun X hE => ?_)
  show pm_G g mX7_readWord X 0 [some (.ref 111), none, none] [] (en S m0) 0 0
  unfold f_X7_readWord at h
  refine pg_aload_n dX7_readWord_0 rfl ?_
  refine eg_get dX7_readWord_1 fa_X7_26 hS sp111 (Nat.le_of_ble_eq_true rfl) (Nat.le_of_ble_eq_true rfl) rfl rfl ?_
  obtain ⟨w1, e_w1⟩ : ∃ z : Int32, z = m0.1 111 4 := ⟨_, rfl⟩
  replace h := lt_at h e_w1
  refine eg_istore_n [some (.ref 111), some (.int w1), none] w1 dX7_readWord_4 e_w1 (Nat.le_of_ble_eq_true rfl) rfl ?_
  obtain ⟨s6, h_s6, h⟩ := bd_at h
  refine lo_at (b := b_X7_readWord_5 w1) (G := (fun z9 : me => pm_G g mX7_readWord X 5 [some (.ref 111), some (.int w1), none] [] (en S z9) 0 0)) (T := (fun z9 : me => pm_G g mX7_readWord X 44 [some (.ref 111), some (.int w1), none] [] (en S z9) 0 0)) (fun q9 r9 h1 h2 h3 => lb_X7_readWord_5 hfl hS h1 h2 h3) 2048 m0 s6 h_s6 ?_
  show pm_G g mX7_readWord X 44 [some (.ref 111), some (.int w1), none] [] (en S s6) 0 0
  exact lj_X7_readWord_44 hfl hS h hE
def f_X7_byteHere (m0 : me) : Option (Int32 × me) :=
  if (m0.1 111 0) ≤ (m0.1 111 4) then
    some (((-1), m0))
  else
    gd (inR (m0.1 111 4) 120) (
    some ((m0.1 113 ((m0.1 111 4).toNatClampNeg), m0)))
set_option maxRecDepth 20000 in
set_option maxHeartbeats 4000000 in
theorem ct_X7_byteHere (hfl : g.1.stackTraces = false) (hS : pS 0 138 S) {m0 : me} {x : (Int32 × me)} (h : f_X7_byteHere m0 = some x) : pm_Ct g mX7_byteHere [.ref 111] (en S m0) 0 0 (qI S x) qF := by
  refine pm_of (by decide +kernel) rfl hfl (Nat.le_of_ble_eq_true rfl) (fun X hE => ?_)
  show pm_G g mX7_byteHere X 0 [some (.ref 111)] [] (en S m0) 0 0
  unfold f_X7_byteHere at h
  refine pg_aload_n dX7_byteHere_0 rfl ?_
  refine eg_get dX7_byteHere_1 fa_X7_26 hS sp111 (Nat.le_of_ble_eq_true rfl) (Nat.le_of_ble_eq_true rfl) rfl rfl ?_
  refine pg_aload_n dX7_byteHere_4 rfl ?_
  refine eg_get dX7_byteHere_5 fa_X7_18 hS sp111 (Nat.le_of_ble_eq_true rfl) (Nat.le_of_ble_eq_true rfl) rfl rfl ?_
  refine pg_icmp_ge 23 dX7_byteHere_8 (by decide) (fun c1 => ?_) (fun c1 => ?_)
  · rw [if_pos c1] at h
    refine pg_iconst (-1) dX7_byteHere_23 rfl ?_
    obtain rfl := Option.some.inj h
    exact hE.2.1 _ _ _ _ _ _ .int dX7_byteHere_24 rfl rfl (Nat.zero_le _) (Nat.zero_le _) ⟨rfl, rfl⟩
  · rw [if_neg c1] at h
    refine pg_aload_n dX7_byteHere_11 rfl ?_
    refine eg_get dX7_byteHere_12 fa_X7_15 hS sp111 (Nat.le_of_ble_eq_true rfl) (Nat.le_of_ble_eq_true rfl) rfl rfl ?_
    refine pg_aload_n dX7_byteHere_15 rfl ?_
    refine eg_get dX7_byteHere_16 fa_X7_26 hS sp111 (Nat.le_of_ble_eq_true rfl) (Nat.le_of_ble_eq_true rfl) rfl rfl ?_
    obtain ⟨g1, h⟩ := gd_at h
    refine eg_ialdJ ((m0.1 111 4).toNatClampNeg) dX7_byteHere_19 hS sp113 (Nat.le_of_ble_eq_true rfl) (Nat.le_of_ble_eq_true rfl) rfl (inR_vp g1) rfl ?_
    refine pg_goto 24 dX7_byteHere_20 (by decide) ?_
    obtain rfl := Option.some.inj h
    exact hE.2.1 _ _ _ _ _ _ .int dX7_byteHere_24 rfl rfl (Nat.zero_le _) (Nat.zero_le _) ⟨rfl, rfl⟩
end
