

/-! The environment at the law's entry. -/
theorem ew_n : ∀ j : Nat, j < 7 → Cond.eq (.elem (.static RX7 "NUMBERS" "[I") (.int (Int32.ofNat j))) (.int (pm_nums j)) ∈ flatC (Jvm.Cond.and given_1 narrow_1) := by decide +kernel
theorem ew_l : Cond.eq (.length (.static RX7 "NUMBERS" "[I")) (.int (Int32.ofNat 7)) ∈ flatC (Jvm.Cond.and given_1 narrow_1) := by decide +kernel
theorem ew_a : Cond.arrayOf (.static RX7 "NUMBERS" "[I") .int ∈ flatC (Jvm.Cond.and given_1 narrow_1) := by decide +kernel
theorem ew_u : Cond.isRef (.static Bundle.tN "UNASSIGNED_STACK" Bundle.steD) ∈ flatC (Jvm.Cond.and given_1 narrow_1) ∧ Cond.isRef (.static Bundle.tN "SUPPRESSED_SENTINEL" Bundle.listD) ∈ flatC (Jvm.Cond.and given_1 narrow_1) ∧ Cond.isRef (.static "jdk/internal/util/Preconditions" "SIOOBE_FORMATTER" "Ljava/util/function/BiFunction;") ∈ flatC (Jvm.Cond.and given_1 narrow_1) ∧ Cond.eq (.static "java/lang/String" "COMPACT_STRINGS" "Z") (.int 1) ∈ flatC (Jvm.Cond.and given_1 narrow_1) := by decide +kernel
theorem ew_t : Cond.laysStatic RX7 "NUMBERS" "[I" ∈ lw_tbl ∧ Cond.initialized RX7 ∈ lw_tbl ∧ Cond.laysStatic Bundle.tN "UNASSIGNED_STACK" Bundle.steD ∈ lw_tbl ∧ Cond.laysStatic Bundle.tN "SUPPRESSED_SENTINEL" Bundle.listD ∈ lw_tbl ∧ Cond.initialized Bundle.tN ∈ lw_tbl ∧ Cond.laysStatic "java/lang/String" "COMPACT_STRINGS" "Z" ∈ lw_tbl ∧ Cond.initialized "java/lang/String" ∈ lw_tbl ∧ Cond.laysStatic "jdk/internal/util/Preconditions" "SIOOBE_FORMATTER" "Ljava/util/function/BiFunction;" ∈ lw_tbl ∧ Cond.initialized "jdk/internal/util/Preconditions" ∈ lw_tbl ∧ Cond.methodLinkNest RX4 82 yX11_isOutside RX11 ∈ lw_tbl ∧ Cond.arrayOver (.object RX4) ∈ lw_tbl ∧ Cond.stringRef RX7 68 "link bid  fail fix  prio host tick " ∈ lw_tbl := by decide +kernel
theorem ew_m : ∀ q ∈ pm_msgs, Cond.exactly (.string RX11 q.1) "java/lang/String" ∈ flatC (Jvm.Cond.and given_1 narrow_1) := by decide +kernel
theorem ew_r : ∀ q ∈ pm_msgs, Cond.stringRef RX11 q.1 q.2 ∈ lw_tbl := by decide +kernel
theorem ew_w : ∀ w ∈ pm_nwl, w ∈ lw_tbl ∧ w.onTables = true := by decide +kernel
theorem ew_c : ∀ E ∈ pm_exc, ∀ F ∈ pm_exc, E ≠ F → Cond.not (.castable E F) ∈ flatC (Jvm.Cond.and given_1 narrow_1) := by decide +kernel
theorem ew_s : Cond.exactly (.string RX7 68) "java/lang/String" ∈ flatC (Jvm.Cond.and given_1 narrow_1) ∧ Cond.eq (.field (.string RX7 68) "java/lang/String" "coder" "B") (.int 0) ∈ flatC (Jvm.Cond.and given_1 narrow_1) ∧ Cond.arrayOf (.field (.string RX7 68) "java/lang/String" "value" "[B") .byte ∈ flatC (Jvm.Cond.and given_1 narrow_1) ∧ Cond.eq (.length (.field (.string RX7 68) "java/lang/String" "value" "[B")) (.int (Int32.ofNat 35)) ∈ flatC (Jvm.Cond.and given_1 narrow_1) := by decide +kernel
theorem ew_b : ∀ j : Nat, j < 35 → Cond.eq (.elem (.field (.string RX7 68) "java/lang/String" "value" "[B") (.int (Int32.ofNat j))) (.int (pm_byt.getD j 0)) ∈ flatC (Jvm.Cond.and given_1 narrow_1) := by decide +kernel
set_option maxHeartbeats 4000000 in
theorem env_at {s : State} {b L : Nat} {xs : Nat → Int32} (l : Launch) (hts : ∀ w ∈ lw_tbl, w.before #[Value.ref b] s = true) (hX : va_X b L xs s s.heap) (hbl : b < s.heap.size) (hgv : (Jvm.Cond.and given_1 narrow_1).before #[Value.ref b] s = true) : ∃ g : pm_Gl, g.1 = l ∧ g.2.2.2.2.1 = (L, xs) ∧ g.2.2.2.1 0 = b ∧ g.2.2.2.2.2 = s.heap.size ∧ pm_E g s s.heap := by
  have hs := flat_of_before _ hgv
  have hts9 : ∀ w ∈ pm_tbl, w.before #[Value.ref b] s = true := fun w hw => hts w (List.mem_filter.mp hw).1
  have hA : ∀ a : Nat, a < s.heap.size → ¬ (fun q : Nat => s.heap.size ≤ q) a := fun a h => Nat.not_le.mpr h
  obtain ⟨t1, t2, t3, t4, t5, t6, t7, t8, t9, t10, t11, t12⟩ := ew_t
  obtain ⟨c0, i0, k0⟩ := u_known (C := RX1) (T := TX1) (N := 8) (n := 8) hts9 inX1_t (hts9 _ mw69)
  obtain ⟨c1, i1, k1⟩ := u_known (C := RX2) (T := TX2) (N := 6) (n := 6) hts9 inX2_t (hts9 _ mw49)
  obtain ⟨c2, i2, k2⟩ := u_known (C := RX3) (T := TX3) (N := 12) (n := 12) hts9 inX3_t (hts9 _ mw77)
  obtain ⟨c3, i3, k3⟩ := u_known (C := RX4) (T := TX4) (N := 13) (n := 13) hts9 inX4_t (hts9 _ mw4)
  obtain ⟨c4, i4, k4⟩ := u_known (C := RX5) (T := TX5) (N := 1) (n := 1) hts9 inX5_t (hts9 _ mw57)
  obtain ⟨c5, i5, k5⟩ := u_known (C := RX6) (T := TX6) (N := 1) (n := 1) hts9 inX6_t (hts9 _ mw41)
  obtain ⟨c6, i6, k6⟩ := u_known (C := RX7) (T := TX7) (N := 6) (n := 6) hts9 inX7_t (hts9 _ mw25)
  obtain ⟨c7, i7, k7⟩ := u_known (C := RX8) (T := TX8) (N := 4) (n := 4) hts9 inX8_t (hts9 _ mw85)
  obtain ⟨c8, i8, k8⟩ := u_known (C := RX9) (T := TX9) (N := 2) (n := 2) hts9 inX9_t (hts9 _ mw17)
  obtain ⟨c9, i9, k9⟩ := u_known (C := RX10) (T := TX10) (N := 5) (n := 5) hts9 inX10_t (hts9 _ mw33)
  obtain ⟨c10, i10, k10⟩ := u_known (C := RX11) (T := TX11) (N := 7) (n := 7) hts9 inX11_t (hts9 _ mw1089)
  obtain ⟨c11, i11, k11⟩ := u_known (C := RX12) (T := TX12) (N := 15) (n := 15) hts9 inX12_t (hts9 _ mw1095)
  obtain ⟨dC, dI, hKc⟩ : ∃ (dC : Nat → ClassId) (dI : Nat → Nat → Nat), ∀ (k : Nat) (q : vw_C), vwCl[k]? = some q → u_Kn s q.1 q.2.1 q.2.2 (dC k) (dI k) := by
    refine ⟨fun k => if k = 0 then c0 else if k = 1 then c1 else if k = 2 then c2 else if k = 3 then c3 else if k = 4 then c4 else if k = 5 then c5 else if k = 6 then c6 else if k = 7 then c7 else if k = 8 then c8 else if k = 9 then c9 else if k = 10 then c10 else c11, fun k => if k = 0 then i0 else if k = 1 then i1 else if k = 2 then i2 else if k = 3 then i3 else if k = 4 then i4 else if k = 5 then i5 else if k = 6 then i6 else if k = 7 then i7 else if k = 8 then i8 else if k = 9 then i9 else if k = 10 then i10 else i11, ?_⟩
    intro k q hq
    match k, hq with
    | 0, hq => cases hq; exact k0
    | 1, hq => cases hq; exact k1
    | 2, hq => cases hq; exact k2
    | 3, hq => cases hq; exact k3
    | 4, hq => cases hq; exact k4
    | 5, hq => cases hq; exact k5
    | 6, hq => cases hq; exact k6
    | 7, hq => cases hq; exact k7
    | 8, hq => cases hq; exact k8
    | 9, hq => cases hq; exact k9
    | 10, hq => cases hq; exact k10
    | 11, hq => cases hq; exact k11
    | k + 12, hq => simp [vwCl] at hq
  obtain ⟨aI, kI, pI, f1, f2, f3⟩ := Cond.arrayClass_spec (hts9 _ mw93)
  obtain ⟨aZ, kZ, pZ, g1, g2, g3⟩ := Cond.arrayClass_spec (hts9 _ mw107)
  obtain ⟨aJ, kJ, pJ, h1, h2, h3⟩ := Cond.arrayClass_spec (hts9 _ mw1100)
  obtain ⟨pR, aR, kR, e1, e2, e3, e4, e5⟩ := Cond.arrayOver_spec (hts _ t11)
  obtain ⟨tN, hN1, hN2⟩ := va_Tof (tm := .static RX7 "NUMBERS" "[I") (ty := .int) (N := 7) (f := fun j => .int (pm_nums j)) (by decide) (hs _ ew_a) (va_eqt (hs _ ew_l)) (fun j hj => va_eqt (hs _ (ew_n j hj))) hA
  have hm0 : ∀ k : Nat, ∃ a : Nat, ∀ tx : String, (k, tx) ∈ pm_msgs → vk_R RX11 k tx a s := by
    intro k
    by_cases hk : ∃ tx, (k, tx) ∈ pm_msgs
    · obtain ⟨tx0, h0⟩ := hk
      obtain ⟨a, _, _, _, q1, -⟩ := Cond.exactly_spec (hs _ (ew_m _ h0))
      exact ⟨a, fun tx htx => vk_R.of (hts _ (ew_r _ htx)) q1⟩
    · exact ⟨0, fun tx htx => absurd ⟨tx, htx⟩ hk⟩
  obtain ⟨ad, had⟩ := Classical.axiomOfChoice hm0
  obtain ⟨s1, s2, s3, s4⟩ := ew_s
  obtain ⟨adK, adV, hS1, hS2⟩ := vk_Sof (N := 1) (tm := fun _ => .string RX7 68) (len := [35]) (byt := [pm_byt]) (args := #[Value.ref b]) (s := s) (A := fun q : Nat => s.heap.size ≤ q) (fun i hi => by obtain rfl : i = 0 := (by omega); exact (by decide)) (fun i hi => hs _ s1) (fun i hi => hs _ s2) (fun i hi => hs _ s3) (fun i hi => by obtain rfl : i = 0 := (by omega); exact hs _ s4) (fun i hi j hj => by obtain rfl : i = 0 := (by omega); exact hs _ (ew_b j hj)) (fun i j hi hj hij => absurd (show i = j by omega) hij) hA
  obtain ⟨u1, u2, u3, u4⟩ := ew_u
  refine ⟨(l, (dC, dI), fun t => if t = 0 then aI else if t = 1 then aZ else if t = 2 then aJ else aR, fun k => if k = 0 then b else if k = 1 then tN else if k = 2 then adK 0 else if k = 3 then adV 0 else ad (k - 1000), (L, xs), s.heap.size), rfl, rfl, rfl, rfl, ?_⟩
  refine ⟨⟨hKc, ?_⟩, hX, hbl, hbl, va_Nw.of rfl (hts _ t10), va_AO.of (hts _ t11), va_Zof (hts _ t1) (hts _ t2) hN1 hA, hN2, vx_Zqof (hts _ t3) (hts _ t5) (hs _ u1) hA, vx_Zqof (hts _ t4) (hts _ t5) (hs _ u2) hA, ?_, fun w hw => va_Nw.of (ew_w w hw).2 (hts _ (ew_w w hw).1), fun E hE F hF hn => va_Nc.of (hs _ (ew_c E hE F hF hn)), vk_R.of (hts _ t12) (hS2 0 (by decide)), ?_, va_Zof (hts _ t6) (hts _ t7) (va_eqt (hs _ u4)) hA, va_Zqof (hts _ t8) (hts _ t9) (hs _ u3) hA⟩
  · intro k q hq
    match k, hq with
    | 0, hq => cases hq; exact ⟨fun n z => ⟨fun k h => (by cases h), kI, f2, pI, f3⟩, f1⟩
    | 1, hq => cases hq; exact ⟨fun n z => ⟨fun k h => (by cases h), kZ, g2, pZ, g3⟩, g1⟩
    | 2, hq => cases hq; exact ⟨fun n z => ⟨fun k h => (by cases h), kJ, h2, pJ, h3⟩, h1⟩
    | 3, hq => cases hq; exact ⟨fun n z => ⟨fun k h => (by cases h), kR, e3, pR, e4⟩, kR, pR, e3, e4, e1, e5⟩
    | k + 4, hq => simp [pm_T] at hq
  · intro q hq
    have h9 := had q.1 q.2 hq
    have e : (if 1000 + q.1 = 0 then b else if 1000 + q.1 = 1 then tN else if 1000 + q.1 = 2 then adK 0 else if 1000 + q.1 = 3 then adV 0 else ad (1000 + q.1 - 1000)) = ad q.1 := by
      rw [if_neg (by omega), if_neg (by omega), if_neg (by omega), if_neg (by omega), Nat.add_sub_cancel_left]
    show vk_R RX11 q.1 q.2 (if 1000 + q.1 = 0 then b else if 1000 + q.1 = 1 then tN else if 1000 + q.1 = 2 then adK 0 else if 1000 + q.1 = 3 then adV 0 else ad (1000 + q.1 - 1000)) s
    rw [e]
    exact h9
  · refine ⟨fun i hi => ?_, fun i j hi hj _ => by omega⟩
    obtain rfl : i = 0 := by omega
    exact hS1.1 0 (by decide)
