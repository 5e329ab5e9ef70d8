/-! Ticks. -/
section PK7
variable {m m0 M : me} {S S' : Nat → Int32} {B T : Nat}
theorem pst_2 (k : Nat) : pst (2 * (k + 1)) S = (sPc k 1 (sPc k 0 (pst (2 * k) S).1), pPc (sPc k 0 (pst (2 * k) S).1) k 1 (pPc (pst (2 * k) S).1 k 0 (pst (2 * k) S).2)) := by
  rw [show 2 * (k + 1) = 2 * k + 1 + 1 by omega, pst_s, pst_s, show (2 * k + 1) / 2 = k by omega, show (2 * k + 1) % 2 = 1 by omega, show 2 * k / 2 = k by omega, show 2 * k % 2 = 0 by omega]
theorem pPc_bI {l e : Nat} {p : Nat → Bool} {x : Nat} {u w : Int32} (hu : u = bI (p x)) (hw : w = if chP S l e = true ∧ x = pB S l e then nI 1 else u) : w = bI (pPc S l e p x) := by
  rw [hw]
  unfold pPc
  by_cases hch : chP S l e = true
  · rw [if_pos hch]
    show _ = bI (p x || decide (x = pB S l e))
    by_cases hx : x = pB S l e
    · rw [if_pos ⟨hch, hx⟩, decide_eq_true hx, Bool.or_true]; rfl
    · rw [if_neg (fun h => hx h.2), decide_eq_false hx, Bool.or_false]; exact hu
  · rw [if_neg hch, if_neg (fun h => hch h.1)]; exact hu
theorem y_renewP (hW : WT B T S) (hC : Cl m0 m S) : ∃ m1 v, f_X6_renew m = some (v, m1) ∧ Cl m0 m1 (pst (2 * T) S).1 ∧ (∀ b, b < 8 → m1.1 121 b = bI ((pst (2 * T) S).2 b)) ∧ (v = nI 0 ∨ v = nI 1) ∧ (v = nI 0 → ∀ b, (pst (2 * T) S).2 b = false) := by
  have w3 := hW.2.2.2.1
  have w4 := hW.2.2.2.2.1
  have h1 := lo_gen (b := b_X6_renew_7 (S 7)) (fun k => (nI k, sR m 121 (mx k (fun _ => nI 0) (m.1 121)))) 8 (nI 8, sR m 121 (mx 8 (fun _ => nI 0) (m.1 121))) (fun k hk => by
    unfold b_X6_renew_7
    have : ¬ 8 ≤ k := by omega
    have e : upd (mx k (fun _ => nI 0) (m.1 121)) k (nI 0) = mx (k + 1) (fun _ => nI 0) (m.1 121) := mx_s k (fun _ => nI 0) (m.1 121)
    simp (disch := omega) only [L0, L1, L2, L3, L4, L5, L6, L7, L8, L9, L10, L11, L12, L13, L14, L15, L16, L17, L18, L19, L20, L21, L22, L23, L24, L25, L26, L27, L28, L29, L30, L31, L32, L47, L48, L50, L51, L57, L59, L90, L97, L100, L120, L122, L127, L179, L187, L199, L200, L487, L974, L1000, L1461, L10000, L18498, L1000000, nI_add, pk_mul, nI_cl, nI_lts, nI_les, nI_eqs, Ln1, n1_ne, n1_ne', n1_lts, nI_ltn, n1_les, nI_len, bd_s, lt_d, gd_n, wI_sR, sR_get, sR_sR, sR_ne, if_neg this, e]) (by
    unfold b_X6_renew_7
    simp (disch := omega) only [L0, L1, L2, L3, L4, L5, L6, L7, L8, L9, L10, L11, L12, L13, L14, L15, L16, L17, L18, L19, L20, L21, L22, L23, L24, L25, L26, L27, L28, L29, L30, L31, L32, L47, L48, L50, L51, L57, L59, L90, L97, L100, L120, L122, L127, L179, L187, L199, L200, L487, L974, L1000, L1461, L10000, L18498, L1000000, nI_add, pk_mul, nI_cl, nI_lts, nI_les, nI_eqs, Ln1, n1_ne, n1_ne', n1_lts, nI_ltn, n1_les, nI_len, bd_s, lt_d, gd_n, if_true, Nat.le_refl]) (N := 2048) (by decide)
  simp only [mx_0, sR_self] at h1
  have hC1 : Cl m0 (sR m 121 (mx 8 (fun _ => nI 0) (m.1 121))) S := ⟨hC.1.scr (by omega), ⟨fun o g1 g2 => by rw [sR_ne (by omega)]; exact hC.2.1 o g1 g2, hC.2.2⟩⟩
  obtain ⟨t, ht, m1, k1, k2, k3⟩ := lo_rel (b := b_X6_renew_28 (S 7)) (s0 := (nI 0, sR m 121 (mx 8 (fun _ => nI 0) (m.1 121)))) (N := 2048) (n := T)
    (P := fun k s => ∃ m1, s = (nI k, m1) ∧ Cl m0 m1 (pst (2 * k) S).1 ∧ ∀ b, b < 8 → m1.1 121 b = bI ((pst (2 * k) S).2 b))
    (Q := fun t => ∃ m1, t = (nI T, m1) ∧ Cl m0 m1 (pst (2 * T) S).1 ∧ ∀ b, b < 8 → m1.1 121 b = bI ((pst (2 * T) S).2 b))
    ⟨_, rfl, hC1, fun b hb => by rw [sR_get, mx_lt hb]; rfl⟩ (fun k s hk hP => by
      obtain ⟨m1, rfl, k2, k3⟩ := hP
      have hWk := hW.psts (2 * k) (by omega)
      have hT : ¬ T ≤ k := by omega
      have hk16 : k < 16 := by omega
      rw [pst_2]
      generalize (pst (2 * k) S).1 = Sk at *
      generalize (pst (2 * k) S).2 = p at *
      obtain ⟨g1, g2, g3, g4⟩ := hWk.ends hk
      obtain ⟨g5, g6⟩ := hWk.end8 k hk
      have e11 := (rd_total k2.1).trans hWk.2.2.2.1
      have e12 := (rd_low k2.1 hWk.2.2.2.1 w4 hk).trans g1
      have e13 := (rd_high k2.1 hWk.2.2.2.1 w4 hk).trans g2
      obtain ⟨m2, a1, a2, a3⟩ := y_port (e := 0) hWk k2 hk (by decide)
      have hWk2 := hWk.port (e := 0) hk (by decide)
      obtain ⟨m3, b1, b2, b3⟩ := y_port (e := 1) hWk2 a2 hk (by decide)
      have p1 : pB Sk k 0 = lx Sk k := rfl
      have p2 : pO Sk k 0 = ly Sk k := rfl
      have p3 : pB (sPc k 0 Sk) k 1 = ly Sk k := by
        show ly (sPc k 0 Sk) k = ly Sk k
        unfold ly
        rw [sPc_at (by omega) (by omega)]
      have p4 : pO (sPc k 0 Sk) k 1 = lx Sk k := by
        show lx (sPc k 0 Sk) k = lx Sk k
        unfold lx
        rw [sPc_at (by omega) (by omega)]
      rw [p1, p2, Nat.add_zero] at a1
      rw [p3, p4] at b1
      have n1 : ¬ ly Sk k ≤ lx Sk k := by omega
      have n2 : lx Sk k ≤ ly Sk k := by omega
      unfold b_X6_renew_28 f_X6_renewPort
      simp (disch := omega) only [L0, L1, L2, L3, L4, L5, L6, L7, L8, L9, L10, L11, L12, L13, L14, L15, L16, L17, L18, L19, L20, L21, L22, L23, L24, L25, L26, L27, L28, L29, L30, L31, L32, L47, L48, L50, L51, L57, L59, L90, L97, L100, L120, L122, L127, L179, L187, L199, L200, L487, L974, L1000, L1461, L10000, L18498, L1000000, nI_add, pk_mul, nI_cl, nI_lts, nI_les, nI_eqs, Ln1, n1_ne, n1_ne', n1_lts, nI_ltn, n1_les, nI_len, bd_s, lt_d, gd_n, e11, if_neg hT, e12, e13, if_neg n1, if_pos n2, a1, b1]
      refine ⟨_, rfl, m3, rfl, b2, fun b hb => pPc_bI (pPc_bI (k3 b hb) (a3 b)) (b3 b)⟩) (fun s hP => by
      obtain ⟨m1, rfl, k2, k3⟩ := hP
      have e11 := (rd_total k2.1).trans (hW.psts (2 * T) (Nat.le_refl _)).2.2.2.1
      refine ⟨_, ?_, m1, rfl, k2, k3⟩
      unfold b_X6_renew_28
      simp (disch := omega) only [L0, L1, L2, L3, L4, L5, L6, L7, L8, L9, L10, L11, L12, L13, L14, L15, L16, L17, L18, L19, L20, L21, L22, L23, L24, L25, L26, L27, L28, L29, L30, L31, L32, L47, L48, L50, L51, L57, L59, L90, L97, L100, L120, L122, L127, L179, L187, L199, L200, L487, L974, L1000, L1461, L10000, L18498, L1000000, nI_add, pk_mul, nI_cl, nI_lts, nI_les, nI_eqs, Ln1, n1_ne, n1_ne', n1_lts, nI_ltn, n1_les, nI_len, bd_s, lt_d, gd_n, e11, if_true, Nat.le_refl]) (by omega)
  obtain ⟨c, c1, c2, c3⟩ := pst_7 (S := S) (2 * T)
  have e7 : m1.1 1 6 = S 7 + nI c := (rd_chng k2.1).trans c2
  have hr : f_X6_renew m = some (if S 7 + nI c = S 7 then nI 0 else nI 1, m1) := by
    unfold f_X6_renew
    simp only [L0, L1, lt_d, rd_chng hC.1, h1, bd_s, ht, k1, e7]
    by_cases h : S 7 + nI c = S 7
    · rw [ifp h, if_pos h]
    · rw [ifn h, if_neg h]
  refine ⟨m1, _, hr, k2, k3, ?_, fun hv => c3 ?_⟩
  · split
    · exact Or.inl rfl
    · exact Or.inr rfl
  · by_cases h : S 7 + nI c = S 7
    · rw [Int32.add_comm] at h
      have h2 := congrArg (fun z => z - S 7) h
      simp only [Int32.add_sub_cancel, Int32.sub_self] at h2
      have h3 : nI c = nI 0 := h2
      rw [nI_eqs (by omega) (by omega)] at h3
      exact h3
    · rw [if_neg h] at hv
      exact absurd hv (by decide)
theorem y_flushT {p : Nat → Bool} (hW : WT B T S) (hC : Cl m0 m S) (h121 : ∀ b, b < 8 → m.1 121 b = bI (p b)) (h127 : ∀ b, b < 8 → m.1 127 b = nI (gS S T b)) : ∃ m1, f_X6_flushTables m = some m1 ∧ Cl m0 m1 (sFs (anF p (JS S T) B) B S) := by
  have hB8 := hW.2.2.1
  obtain ⟨t, ht, m1, k1, k2, -⟩ := lo_rel (b := b_X6_flushTables_2) (s0 := (nI 0, m)) (N := 2048) (n := B)
    (P := fun k s => ∃ m1, s = (nI k, m1) ∧ Cl m0 m1 (sFs (anF p (JS S T) B) k S) ∧ fs m m1)
    (Q := fun t => ∃ m1, t = (nI B, m1) ∧ Cl m0 m1 (sFs (anF p (JS S T) B) B S) ∧ fs m m1)
    ⟨m, rfl, hC, fs.rf m⟩ (fun k s hk hP => by
      obtain ⟨m1, rfl, k2, k3⟩ := hP
      have hWk := hW.flushs (A := anF p (JS S T) B) k (by omega)
      rw [sFs_s]
      generalize sFs (anF p (JS S T) B) k S = Sk at *
      have hB : ¬ B ≤ k := by omega
      have e0 := (rd_size k2.1).trans hWk.1
      obtain ⟨t', ht', m2, l1, l2, l3⟩ := lo_rel (b := b_X6_flushTables_13 (nI k)) (s0 := (nI 0, m1)) (N := 2048) (n := B)
        (P := fun j s => ∃ m2, s = (nI j, m2) ∧ Cl m0 m2 (if anF p (JS S T) j k = true then sFl k Sk else Sk) ∧ fs m m2)
        (Q := fun t => ∃ m2, t = (nI B, m2) ∧ Cl m0 m2 (if anF p (JS S T) B k = true then sFl k Sk else Sk) ∧ fs m m2)
        ⟨m1, rfl, k2, k3⟩ (fun j s hj hP => by
          obtain ⟨m2, rfl, l2, l3⟩ := hP
          have hj8 : j < 8 := by omega
          have hBj : ¬ B ≤ j := by omega
          have f0 : m2.1 1 0 = nI B := by
            have := rd_size l2.1
            rw [this]
            split
            · rw [sFl_at, if_neg (by omega)]; exact hWk.1
            · exact hWk.1
          have f1 : m2.1 121 j = bI (p j) := by rw [l3.1 121 (by omega)]; exact h121 j hj8
          have f2 : m2.1 127 j = nI (gS S T j) := by rw [l3.1 127 (by omega)]; exact h127 j hj8
          have f3 : m2.1 127 k = nI (gS S T k) := by rw [l3.1 127 (by omega)]; exact h127 k (by omega)
          have g1 := gS_lt hW hj8
          have g2 := gS_lt hW (show k < 8 by omega)
          unfold b_X6_flushTables_13 f_X5_areJoined
          rw [anF]
          by_cases hp : p j = true
          · rw [hp, bI_t] at f1
            rw [hp]
            by_cases hJ : gS S T j = gS S T k
            · obtain ⟨m3, q1, q2, q3⟩ := y_flush l2 (show k < 8 by omega)
              have hJ' : JS S T j k = true := decide_eq_true hJ
              rw [hJ']
              simp (disch := omega) only [L0, L1, L2, L3, L4, L5, L6, L7, L8, L9, L10, L11, L12, L13, L14, L15, L16, L17, L18, L19, L20, L21, L22, L23, L24, L25, L26, L27, L28, L29, L30, L31, L32, L47, L48, L50, L51, L57, L59, L90, L97, L100, L120, L122, L127, L179, L187, L199, L200, L487, L974, L1000, L1461, L10000, L18498, L1000000, nI_add, pk_mul, nI_cl, nI_lts, nI_les, nI_eqs, Ln1, n1_ne, n1_ne', n1_lts, nI_ltn, n1_les, nI_len, bd_s, lt_d, gd_n, f0, if_neg hBj, f1, f2, f3, if_pos hJ, q1, i10, if_false, Nat.one_ne_zero]
              refine ⟨_, rfl, m3, rfl, ?_, q3 m l3⟩
              rw [if_pos (by cases anF p (JS S T) j k <;> rfl)]
              by_cases ha : anF p (JS S T) j k = true
              · rw [if_pos ha, sFl_id] at q2; exact q2
              · rw [if_neg ha] at q2; exact q2
            · have hJ' : JS S T j k = false := decide_eq_false hJ
              rw [hJ']
              simp (disch := omega) only [L0, L1, L2, L3, L4, L5, L6, L7, L8, L9, L10, L11, L12, L13, L14, L15, L16, L17, L18, L19, L20, L21, L22, L23, L24, L25, L26, L27, L28, L29, L30, L31, L32, L47, L48, L50, L51, L57, L59, L90, L97, L100, L120, L122, L127, L179, L187, L199, L200, L487, L974, L1000, L1461, L10000, L18498, L1000000, nI_add, pk_mul, nI_cl, nI_lts, nI_les, nI_eqs, Ln1, n1_ne, n1_ne', n1_lts, nI_ltn, n1_les, nI_len, bd_s, lt_d, gd_n, f0, if_neg hBj, f1, f2, f3, if_neg hJ, if_false, if_true, Nat.one_ne_zero]
              refine ⟨_, rfl, m2, rfl, ?_, l3⟩
              rw [show (anF p (JS S T) j k || (true && false)) = anF p (JS S T) j k by cases anF p (JS S T) j k <;> rfl]
              exact l2
          · have hp' : p j = false := by revert hp; cases p j <;> simp
            rw [hp', bI_f] at f1
            rw [hp']
            simp (disch := omega) only [L0, L1, L2, L3, L4, L5, L6, L7, L8, L9, L10, L11, L12, L13, L14, L15, L16, L17, L18, L19, L20, L21, L22, L23, L24, L25, L26, L27, L28, L29, L30, L31, L32, L47, L48, L50, L51, L57, L59, L90, L97, L100, L120, L122, L127, L179, L187, L199, L200, L487, L974, L1000, L1461, L10000, L18498, L1000000, nI_add, pk_mul, nI_cl, nI_lts, nI_les, nI_eqs, Ln1, n1_ne, n1_ne', n1_lts, nI_ltn, n1_les, nI_len, bd_s, lt_d, gd_n, f0, if_neg hBj, f1, if_true]
            refine ⟨_, rfl, m2, rfl, ?_, l3⟩
            rw [show (anF p (JS S T) j k || (false && JS S T j k)) = anF p (JS S T) j k by cases anF p (JS S T) j k <;> rfl]
            exact l2) (fun s hP => by
          obtain ⟨m2, rfl, l2, l3⟩ := hP
          have f0 : m2.1 1 0 = nI B := by
            have := rd_size l2.1
            rw [this]
            split
            · rw [sFl_at, if_neg (by omega)]; exact hWk.1
            · exact hWk.1
          refine ⟨_, ?_, m2, rfl, l2, l3⟩
          unfold b_X6_flushTables_13
          simp (disch := omega) only [L0, L1, L2, L3, L4, L5, L6, L7, L8, L9, L10, L11, L12, L13, L14, L15, L16, L17, L18, L19, L20, L21, L22, L23, L24, L25, L26, L27, L28, L29, L30, L31, L32, L47, L48, L50, L51, L57, L59, L90, L97, L100, L120, L122, L127, L179, L187, L199, L200, L487, L974, L1000, L1461, L10000, L18498, L1000000, nI_add, pk_mul, nI_cl, nI_lts, nI_les, nI_eqs, Ln1, n1_ne, n1_ne', n1_lts, nI_ltn, n1_les, nI_len, bd_s, lt_d, gd_n, f0, if_true, Nat.le_refl]) (by omega)
      unfold b_X6_flushTables_2
      simp (disch := omega) only [L0, L1, L2, L3, L4, L5, L6, L7, L8, L9, L10, L11, L12, L13, L14, L15, L16, L17, L18, L19, L20, L21, L22, L23, L24, L25, L26, L27, L28, L29, L30, L31, L32, L47, L48, L50, L51, L57, L59, L90, L97, L100, L120, L122, L127, L179, L187, L199, L200, L487, L974, L1000, L1461, L10000, L18498, L1000000, nI_add, pk_mul, nI_cl, nI_lts, nI_les, nI_eqs, Ln1, n1_ne, n1_ne', n1_lts, nI_ltn, n1_les, nI_len, bd_s, lt_d, gd_n, e0, if_neg hB, ht', l1]
      exact ⟨_, rfl, m2, rfl, l2, l3⟩) (fun s hP => by
      obtain ⟨m1, rfl, k2, k3⟩ := hP
      have e0 := (rd_size k2.1).trans (hW.flushs (A := anF p (JS S T) B) B hB8).1
      refine ⟨_, ?_, m1, rfl, k2, k3⟩
      unfold b_X6_flushTables_2
      simp (disch := omega) only [L0, L1, L2, L3, L4, L5, L6, L7, L8, L9, L10, L11, L12, L13, L14, L15, L16, L17, L18, L19, L20, L21, L22, L23, L24, L25, L26, L27, L28, L29, L30, L31, L32, L47, L48, L50, L51, L57, L59, L90, L97, L100, L120, L122, L127, L179, L187, L199, L200, L487, L974, L1000, L1461, L10000, L18498, L1000000, nI_add, pk_mul, nI_cl, nI_lts, nI_les, nI_eqs, Ln1, n1_ne, n1_ne', n1_lts, nI_ltn, n1_les, nI_len, bd_s, lt_d, gd_n, e0, if_true, Nat.le_refl]) (by omega)
  refine ⟨m1, ?_, k2⟩
  unfold f_X6_flushTables
  simp only [L0, ht, k1, bd_s]
/-- one tick -/
def due (S : Nat → Int32) : Prop := S 1 - S 1 / S 3 * S 3 = nI 0
def sT1 (S : Nat → Int32) : Nat → Int32 := upd S 1 (S 1 + nI 1)
def sT2 (T : Nat) (S : Nat → Int32) : Nat → Int32 := if sT1 S 1 - sT1 S 1 / sT1 S 3 * sT1 S 3 = nI 0 then sAu T (sT1 S) else sT1 S
def sTk (B T : Nat) (S : Nat → Int32) : Nat → Int32 := sPo B T (sV (sT2 T S) B T)
theorem WT.t1 (hW : WT B T S) : WT B T (sT1 S) := hW.cg (fun i hi => by unfold wx at hi; unfold sT1; exact upd_n (by omega))
theorem WT.t2 (hW : WT B T S) : WT B T (sT2 T S) := by
  unfold sT2
  split
  · exact hW.t1.dec.both T (Nat.le_refl T)
  · exact hW.t1
theorem WT.tk (hW : WT B T S) : WT B T (sTk B T S) := hW.t2.vec.po
theorem WT.tks (hW : WT B T S) : ∀ n, WT B T (it (fun _ S => sTk B T S) n S)
  | 0 => hW
  | n + 1 => (WT.tks hW n).tk
theorem y_tick37 {v : Int32} {k : Nat} (hW : WT B T S) (hC : Cl m0 m S) : ∃ m1, j_X11_passTicks_37 v (nI k) m = some (.inl (nI (k + 1), m1)) ∧ Cl m0 m1 (sPo B T (sV S B T)) := by
  obtain ⟨m1, a1, a2⟩ := y_vectors hW hC
  have hWv := hW.vec
  obtain ⟨m2, u, b1, b2, b3, b4, b5⟩ := y_renewP hWv a2
  have hWp := hWv.psts (2 * T) (Nat.le_refl _)
  unfold j_X11_passTicks_37 sPo
  rcases b4 with rfl | rfl
  · refine ⟨m2, ?_, ?_⟩
    · simp only [L0, L1, L2, L3, L4, L5, L6, L7, L8, L9, L10, L11, L12, L13, L14, L15, L16, L17, L18, L19, L20, L21, L22, L23, L24, L25, L26, L27, L28, L29, L30, L31, L32, L47, L48, L50, L51, L57, L59, L90, L97, L100, L120, L122, L127, L179, L187, L199, L200, L487, L974, L1000, L1461, L10000, L18498, L1000000, bd_s, lt_d, gd_n, a1, b1, if_true, nI_add]
    · rw [sFs_no (fun b => anF_no (b5 rfl) b B)]
      exact b2
  · obtain ⟨f, c1, c2⟩ := y_findGroups hWp b2.1
    have hCf : Cl m0 (sR m2 127 f) (pst (2 * T) (sV S B T)).1 := ⟨b2.1.scr (by omega), ⟨fun o g1 g2 => by rw [sR_ne (by omega)]; exact b2.2.1 o g1 g2, b2.2.2⟩⟩
    obtain ⟨m3, d1, d2⟩ := y_flushT (p := (pst (2 * T) (sV S B T)).2) hWp hCf (fun b hb => by rw [sR_ne (by decide)]; exact b3 b hb) (fun b hb => by rw [sR_get]; exact c2 b hb)
    refine ⟨m3, ?_, d2⟩
    simp only [L0, L1, L2, L3, L4, L5, L6, L7, L8, L9, L10, L11, L12, L13, L14, L15, L16, L17, L18, L19, L20, L21, L22, L23, L24, L25, L26, L27, L28, L29, L30, L31, L32, L47, L48, L50, L51, L57, L59, L90, L97, L100, L120, L122, L127, L179, L187, L199, L200, L487, L974, L1000, L1461, L10000, L18498, L1000000, bd_s, lt_d, gd_n, a1, b1, i10, if_false, c1, d1, nI_add]
theorem y_passTicks {n : Nat} (hW : WT B T S) (hC : Cl m0 m S) (hn : n ≤ 200) : ∃ m1, f_X11_passTicks (nI n) m = some m1 ∧ Cl m0 m1 (it (fun _ S => sTk B T S) n S) := by
  obtain ⟨t, ht, m1, k1, k2⟩ := lo_rel (b := b_X11_passTicks_2 (nI n)) (s0 := (nI 0, m)) (N := 2048) (n := n)
    (P := fun k s => ∃ m1, s = (nI k, m1) ∧ Cl m0 m1 (it (fun _ S => sTk B T S) k S))
    (Q := fun t => ∃ m1, t = (nI n, m1) ∧ Cl m0 m1 (it (fun _ S => sTk B T S) n S))
    ⟨m, rfl, hC⟩ (fun k s hk hP => by
      obtain ⟨m1, rfl, k2⟩ := hP
      have hWk := hW.tks k
      rw [it_s]
      generalize it (fun _ S => sTk B T S) k S = Sk at *
      have hnk : ¬ n ≤ k := by omega
      have c1 : Cl m0 (wI m1 1 1 (Sk 1 + nI 1)) (sT1 Sk) := Cl_clock k2 rfl
      have hW1 := hWk.t1
      have e1 := rd_clock c1.1
      have e3 := rd_intv c1.1
      obtain ⟨d, hd, hd5, hd100⟩ := hW1.2.2.2.2.2.2.1
      have hnz : nz (sT1 Sk 3) = true := by rw [hd]; exact nz_n (by omega) (by omega)
      have hle : ¬ sT1 Sk 3 ≤ nI 0 := by rw [hd, nI_les (by omega) (by omega)]; omega
      unfold b_X11_passTicks_2 f_X4_isAuctionDue
      show ∃ s', _ ∧ ∃ m1, s' = (nI (k + 1), m1) ∧ Cl m0 m1 (sTk B T Sk)
      unfold sTk sT2
      by_cases hdue : sT1 Sk 1 - sT1 Sk 1 / sT1 Sk 3 * sT1 Sk 3 = nI 0
      · rw [if_pos hdue]
        obtain ⟨m2, a1, a2⟩ := y_hold hW1 c1
        obtain ⟨m3, b1, b2⟩ := y_tick37 (v := nI n) (k := k) (hW1.dec.both T (Nat.le_refl T)) a2
        refine ⟨(nI (k + 1), m3), ?_, m3, rfl, b2⟩
        simp (disch := omega) only [L0, L1, L2, L3, L4, L5, L6, L7, L8, L9, L10, L11, L12, L13, L14, L15, L16, L17, L18, L19, L20, L21, L22, L23, L24, L25, L26, L27, L28, L29, L30, L31, L32, L47, L48, L50, L51, L57, L59, L90, L97, L100, L120, L122, L127, L179, L187, L199, L200, L487, L974, L1000, L1461, L10000, L18498, L1000000, nI_les, bd_s, lt_d, gd_n, if_neg hnk, rd_clock k2.1, e1, e3, hnz, gd_tt, if_neg hle, hdue, if_true, i10, if_false, a1, b1]
      · rw [if_neg hdue]
        obtain ⟨m3, b1, b2⟩ := y_tick37 (v := nI n) (k := k) hW1 c1
        refine ⟨(nI (k + 1), m3), ?_, m3, rfl, b2⟩
        simp (disch := omega) only [L0, L1, L2, L3, L4, L5, L6, L7, L8, L9, L10, L11, L12, L13, L14, L15, L16, L17, L18, L19, L20, L21, L22, L23, L24, L25, L26, L27, L28, L29, L30, L31, L32, L47, L48, L50, L51, L57, L59, L90, L97, L100, L120, L122, L127, L179, L187, L199, L200, L487, L974, L1000, L1461, L10000, L18498, L1000000, nI_les, bd_s, lt_d, gd_n, if_neg hnk, rd_clock k2.1, e1, e3, hnz, gd_tt, if_neg hle, hdue, if_true, if_false, b1]) (fun s hP => by
      obtain ⟨m1, rfl, k2⟩ := hP
      refine ⟨_, ?_, m1, rfl, k2⟩
      unfold b_X11_passTicks_2
      simp (disch := omega) only [L0, L1, L2, L3, L4, L5, L6, L7, L8, L9, L10, L11, L12, L13, L14, L15, L16, L17, L18, L19, L20, L21, L22, L23, L24, L25, L26, L27, L28, L29, L30, L31, L32, L47, L48, L50, L51, L57, L59, L90, L97, L100, L120, L122, L127, L179, L187, L199, L200, L487, L974, L1000, L1461, L10000, L18498, L1000000, nI_add, pk_mul, nI_cl, nI_lts, nI_les, nI_eqs, Ln1, n1_ne, n1_ne', n1_lts, nI_ltn, n1_les, nI_len, bd_s, lt_d, gd_n, if_true, Nat.le_refl]) (by omega)
  refine ⟨m1, ?_, k2⟩
  unfold f_X11_passTicks
  simp only [L0, ht, k1, bd_s]
theorem x_ticksOnce (hW : WT B T (M.1 129)) : ∃ F, f_X12_ticksOnce M = some (sR (sR M 133 F) 129 (sTk B T (M.1 129))) := by
  have hW1 := hW.t1
  obtain ⟨d, hd, hd5, hd100⟩ := hW1.2.2.2.2.2.2.1
  have hnz : nz (sT1 (M.1 129) 3) = true := by rw [hd]; exact nz_n (by omega) (by omega)
  have key : ∀ S2, WT B T S2 → ∃ F, j_X12_ticksOnce_30 (sR M 129 S2) = some (sR (sR M 133 F) 129 (sPo B T (sV S2 B T))) := by
    intro S2 h2
    obtain ⟨F, a1⟩ := x_vectors (M := sR M 129 S2) (B := B) (T := T) (by rw [sR_get]; exact h2)
    rw [sR_get] at a1
    have b1 := x_ports (M := sR (sR (sR M 129 S2) 133 F) 129 (sV S2 B T)) (B := B) (T := T) (by rw [sR_get]; exact h2.vec)
    rw [sR_get, sR_sR] at b1
    refine ⟨F, ?_⟩
    unfold j_X12_ticksOnce_30
    simp only [a1, bd_s, b1]
    rw [sR_cm (show 129 ≠ 133 by decide), sR_sR]
  unfold f_X12_ticksOnce sTk sT2
  by_cases hdue : sT1 (M.1 129) 1 - sT1 (M.1 129) 1 / sT1 (M.1 129) 3 * sT1 (M.1 129) 3 = nI 0
  · rw [if_pos hdue]
    have a1 := x_auctions (M := sR M 129 (sT1 (M.1 129))) (B := B) (T := T) (by rw [sR_get]; exact hW1)
    rw [sR_get, sR_sR] at a1
    obtain ⟨F, b1⟩ := key (sAu T (sT1 (M.1 129))) (hW1.dec.both T (Nat.le_refl T))
    refine ⟨F, ?_⟩
    have em : wI M 129 1 (M.1 129 1 + nI 1) = sR M 129 (sT1 (M.1 129)) := rfl
    simp only [L0, L1, lt_d, em, sR_get, hnz, gd_tt, hdue, if_true, a1, bd_s, b1]
  · rw [if_neg hdue]
    obtain ⟨F, b1⟩ := key (sT1 (M.1 129)) hW1
    refine ⟨F, ?_⟩
    have em : wI M 129 1 (M.1 129 1 + nI 1) = sR M 129 (sT1 (M.1 129)) := rfl
    simp only [L0, L1, lt_d, em, sR_get, hnz, gd_tt, hdue, if_false, b1]
theorem x_ticks {n : Nat} (hW : WT B T (M.1 129)) (h1 : 1 ≤ n) (hn : n ≤ 200) : ∃ F, f_X12_ticks (nI n) M = some (nI 0, sR (sR (sR M 133 F) 129 (it (fun _ S => sTk B T S) n (M.1 129))) 128 (upd (M.1 128) 7 (it (fun _ S => sTk B T S) n (M.1 129) 1))) := by
  obtain ⟨t, ht, F, k1⟩ := lo_rel (b := b_X12_ticks_15 (nI n)) (s0 := (nI 0, M)) (N := 2048) (n := n)
    (P := fun k s => ∃ F, s = (nI k, sR (sR M 133 F) 129 (it (fun _ S => sTk B T S) k (M.1 129))))
    (Q := fun t => ∃ F, t = (nI n, sR (sR M 133 F) 129 (it (fun _ S => sTk B T S) n (M.1 129))))
    ⟨M.1 133, by rw [sR_self, it_0, sR_self]⟩ (fun k s hk hP => by
      obtain ⟨F, rfl⟩ := hP
      have hWk := hW.tks k
      rw [it_s]
      generalize it (fun _ S => sTk B T S) k (M.1 129) = Sk at *
      have hnk : ¬ n ≤ k := by omega
      obtain ⟨F', a1⟩ := x_ticksOnce (M := sR (sR M 133 F) 129 Sk) (B := B) (T := T) (by rw [sR_get]; exact hWk)
      rw [sR_get, sR_cm (show 129 ≠ 133 by decide), sR_sR, sR_sR] at a1
      unfold b_X12_ticks_15
      simp (disch := omega) only [L0, L1, L2, L3, L4, L5, L6, L7, L8, L9, L10, L11, L12, L13, L14, L15, L16, L17, L18, L19, L20, L21, L22, L23, L24, L25, L26, L27, L28, L29, L30, L31, L32, L47, L48, L50, L51, L57, L59, L90, L97, L100, L120, L122, L127, L179, L187, L199, L200, L487, L974, L1000, L1461, L10000, L18498, L1000000, nI_add, pk_mul, nI_cl, nI_lts, nI_les, nI_eqs, Ln1, n1_ne, n1_ne', n1_lts, nI_ltn, n1_les, nI_len, bd_s, lt_d, gd_n, if_neg hnk, a1]
      exact ⟨_, rfl, F', rfl⟩) (fun s hP => by
      obtain ⟨F, rfl⟩ := hP
      refine ⟨_, ?_, F, rfl⟩
      unfold b_X12_ticks_15
      simp (disch := omega) only [L0, L1, L2, L3, L4, L5, L6, L7, L8, L9, L10, L11, L12, L13, L14, L15, L16, L17, L18, L19, L20, L21, L22, L23, L24, L25, L26, L27, L28, L29, L30, L31, L32, L47, L48, L50, L51, L57, L59, L90, L97, L100, L120, L122, L127, L179, L187, L199, L200, L487, L974, L1000, L1461, L10000, L18498, L1000000, nI_add, pk_mul, nI_cl, nI_lts, nI_les, nI_eqs, Ln1, n1_ne, n1_ne', n1_lts, nI_ltn, n1_les, nI_len, bd_s, lt_d, gd_n, if_true, Nat.le_refl]) (by omega)
  refine ⟨F, ?_⟩
  unfold f_X12_ticks
  simp (disch := omega) only [L0, L1, L2, L3, L4, L5, L6, L7, L8, L9, L10, L11, L12, L13, L14, L15, L16, L17, L18, L19, L20, L21, L22, L23, L24, L25, L26, L27, L28, L29, L30, L31, L32, L47, L48, L50, L51, L57, L59, L90, L97, L100, L120, L122, L127, L179, L187, L199, L200, L487, L974, L1000, L1461, L10000, L18498, L1000000, bd_s, lt_d, gd_n, x_inn, i10, if_false, ht, k1, wI_sR, sR_get, sR_ne]
theorem cmd_tick (hF : WF S) (v : Int32) : CMD (f_X11_faultOfTicks v) (fun m => bd (f_X11_passTicks v m) (fun m1 => some (m1.1 1 1, m1))) (f_X12_ticks v) (fun _ => 1) S := by
  obtain ⟨B, T, hW⟩ := hF
  rcases rng v 1 200 (by decide) (by decide) with ⟨n, h1, hn, rfl⟩ | hv
  · refine Or.inl ⟨it (fun _ S => sTk B T S) n S, it (fun _ S => sTk B T S) n S 1, ⟨B, T, hW.tks n⟩, fun m hR => ?_, fun m hR => ?_, fun M hM => ?_⟩
    · unfold f_X11_faultOfTicks
      simp (disch := omega) only [L0, L1, L2, L3, L4, L5, L6, L7, L8, L9, L10, L11, L12, L13, L14, L15, L16, L17, L18, L19, L20, L21, L22, L23, L24, L25, L26, L27, L28, L29, L30, L31, L32, L47, L48, L50, L51, L57, L59, L90, L97, L100, L120, L122, L127, L179, L187, L199, L200, L487, L974, L1000, L1461, L10000, L18498, L1000000, bd_s, lt_d, gd_n, y_out_n, if_true]
    · obtain ⟨m1, a1, a2⟩ := y_passTicks hW (Cl.rf hR) hn
      refine ⟨m1, ?_, a2⟩
      simp only [a1, bd_s, rd_clock a2.1]
    · obtain ⟨F, a1⟩ := x_ticks (M := M) (B := B) (T := T) (n := n) (by rw [hM]; exact hW) h1 hn
      rw [hM] at a1
      refine ⟨_, a1, by rw [sR_get, upd_e], by rw [sR_ne (by decide), sR_get], fun q h1 h2 h3 => by rw [sR_ne h2, sR_ne h1, sR_ne h3], fun j hj => by rw [sR_get, upd_n hj], rfl⟩
  · refine Or.inr ⟨2, by decide, by decide, fun m hR => ?_, fun M hM => ?_⟩
    · unfold f_X11_faultOfTicks
      simp (disch := omega) only [L0, L1, L2, L3, L4, L5, L6, L7, L8, L9, L10, L11, L12, L13, L14, L15, L16, L17, L18, L19, L20, L21, L22, L23, L24, L25, L26, L27, L28, L29, L30, L31, L32, L47, L48, L50, L51, L57, L59, L90, L97, L100, L120, L122, L127, L179, L187, L199, L200, L487, L974, L1000, L1461, L10000, L18498, L1000000, bd_s, lt_d, gd_n, y_out_y hv, i10, if_false]
    · unfold f_X12_ticks
      simp (disch := omega) only [L0, L1, L2, L3, L4, L5, L6, L7, L8, L9, L10, L11, L12, L13, L14, L15, L16, L17, L18, L19, L20, L21, L22, L23, L24, L25, L26, L27, L28, L29, L30, L31, L32, L47, L48, L50, L51, L57, L59, L90, L97, L100, L120, L122, L127, L179, L187, L199, L200, L487, L974, L1000, L1461, L10000, L18498, L1000000, bd_s, lt_d, gd_n, x_in_n hv, if_true]
theorem bd_bd {α β γ : Type} (x : Option α) (f : α → Option β) (g : β → Option γ) : bd (bd x f) g = bd x (fun a => bd (f a) g) := by cases x <;> rfl
theorem op_tick (h : Inv m) (v : Int32) : OPv (f_X11_tick v) (f_X12_tick v) cdA m := by
  have := op_cmd (code := cdA) h (cmd_tick h.1 v) (fun c c1 c2 hc => by
    have h1 := hc m h.2.1
    have h2 : f_X11_faultOfTicks v m = some (nI 0, m) ∨ f_X11_faultOfTicks v m = some (nI 2, m) := by
      unfold f_X11_faultOfTicks
      rcases out_or (m := m) (v := v) (a := nI 1) (b := nI 200) with e | e
      · exact Or.inl (by simp only [L0, L1, L2, L3, L4, L5, L6, L7, L8, L9, L10, L11, L12, L13, L14, L15, L16, L17, L18, L19, L20, L21, L22, L23, L24, L25, L26, L27, L28, L29, L30, L31, L32, L47, L48, L50, L51, L57, L59, L90, L97, L100, L120, L122, L127, L179, L187, L199, L200, L487, L974, L1000, L1461, L10000, L18498, L1000000, bd_s, lt_d, gd_n, e, if_true])
      · exact Or.inr (by simp only [L0, L1, L2, L3, L4, L5, L6, L7, L8, L9, L10, L11, L12, L13, L14, L15, L16, L17, L18, L19, L20, L21, L22, L23, L24, L25, L26, L27, L28, L29, L30, L31, L32, L47, L48, L50, L51, L57, L59, L90, L97, L100, L120, L122, L127, L179, L187, L199, L200, L487, L974, L1000, L1461, L10000, L18498, L1000000, bd_s, lt_d, gd_n, e, i10, if_false])
    have h3 : c = 2 := by
      rcases h2 with h2 | h2
      · rw [h2] at h1
        have := sx h1
        rw [nI_eqs (by omega) (by omega)] at this
        omega
      · rw [h2] at h1
        have := sx h1
        rw [nI_eqs (by omega) (by omega)] at this
        omega
    subst h3
    exact ⟨rfl, by decide, by decide⟩)
  simp only [bd_bd, bd_s] at this
  exact this
end PK7
