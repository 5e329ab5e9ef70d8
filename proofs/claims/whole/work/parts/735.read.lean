/-! The script's text: the class's reader. -/
def CP (n : Nat) (d : Nat → Nat) (m : me) (p : Nat) (f : Int32) : Prop := n ≤ 120 ∧ (∀ i, i < n → d i ≤ 127) ∧ m.1 111 0 = nI n ∧ m.1 111 4 = nI p ∧ m.1 111 5 = f ∧ p ≤ n ∧ ∀ i, i < n → m.1 113 i = nI (d i)
def fp (a b : me) : Prop := (∀ q, q ≠ 111 → q ≠ 112 → b.1 q = a.1 q) ∧ b.1 111 0 = a.1 111 0 ∧ b.2 = a.2
section PCR
variable {n p q i w : Nat} {d : Nat → Nat} {f v u : Int32} {m m1 m2 : me}
theorem fp.rf (m : me) : fp m m := ⟨fun _ _ _ => rfl, rfl, rfl⟩
theorem fp.tr (h : fp m m1) (k : fp m1 m2) : fp m m2 := ⟨fun q a b => (k.1 q a b).trans (h.1 q a b), k.2.1.trans h.2.1, k.2.2.trans h.2.2⟩
theorem fp.w1 {j : Nat} (hj : j ≠ 0) : fp m (wI m 111 j v) := ⟨fun q a b => by rw [wI_sR, sR_ne a], by rw [wI_sR, sR_get, upd_n (fun h => hj h.symm)], rfl⟩
theorem fp.w2 {j : Nat} : fp m (wI m 112 j v) := ⟨fun q a b => by rw [wI_sR, sR_ne b], by rw [wI_sR, sR_ne (by decide)], rfl⟩
theorem s_r0 {j : Nat} (hj : j ≠ 0) : (wI m 111 j v).1 111 0 = m.1 111 0 := by rw [wI_sR, sR_get, upd_n (fun h => hj h.symm)]
theorem s_e {j : Nat} : (wI m 111 j v).1 111 j = v := by rw [wI_sR, sR_get, upd_e]
theorem s_n {j k : Nat} (h : k ≠ j) : (wI m 111 j v).1 111 k = m.1 111 k := by rw [wI_sR, sR_get, upd_n h]
theorem s_13 {j : Nat} : (wI m 111 j v).1 113 = m.1 113 := by rw [wI_sR, sR_ne (by decide)]
theorem s_12 {j : Nat} : (wI m 111 j v).1 112 = m.1 112 := by rw [wI_sR, sR_ne (by decide)]
theorem s_ww {j : Nat} : wI (wI m 111 j v) 111 j u = wI m 111 j u := by rw [wI_sR, wI_sR, sR_get, sR_sR, upd_upd, ← wI_sR]
theorem CP.mv (h : CP n d m p f) (hq : q ≤ n) : CP n d (wI m 111 4 (nI q)) q f := by
  obtain ⟨h1, h2, h3, h4, h5, h6, h7⟩ := h
  exact ⟨h1, h2, by rw [s_n (by decide)]; exact h3, s_e, by rw [s_n (by decide)]; exact h5, hq, fun i hi => by rw [s_13]; exact h7 i hi⟩
theorem CP.self (h : CP n d m p f) : wI m 111 4 (nI p) = m := by rw [wI_sR, upd_self h.2.2.2.1, sR_self]
theorem CP.flt (h : CP n d m p f) (v : Int32) : CP n d (wI m 111 5 v) p v := by
  obtain ⟨h1, h2, h3, h4, h5, h6, h7⟩ := h
  exact ⟨h1, h2, by rw [s_n (by decide)]; exact h3, by rw [s_n (by decide)]; exact h4, s_e, h6, fun i hi => by rw [s_13]; exact h7 i hi⟩
theorem y_skip (h : CP n d m p f) : f_X7_skipSpaces m = some (wI m 111 4 (nI (SK n d p))) := by
  obtain ⟨h1, h2, h3, h4, h5, h6, h7⟩ := id h
  have := lo_av (n := n) (cnd := sp n d) (b := b_X7_skipSpaces_0) (g := fun q (_ : Unit) => wI m 111 4 (nI q)) (e := fun q _ => wI m 111 4 (nI q)) (φ := fun _ a => a) sp_c (fun q _ hq hc => by
    unfold sp at hc
    simp only [Bool.and_eq_true, decide_eq_true_eq] at hc
    have hn : ¬ n ≤ q := by omega
    have e := h7 q hq
    rw [hc.2] at e
    have r0 : (wI m 111 4 (nI q)).1 111 0 = nI n := by rw [s_n (by decide)]; exact h3
    unfold b_X7_skipSpaces_0
    simp (disch := omega) only [L0, L1, L2, L3, L4, L5, L6, L7, L8, L9, L10, L11, L12, L13, L14, L15, L16, L17, L18, L19, L20, L21, L22, L23, L24, L25, L26, L27, L28, L29, L30, L31, L32, L47, L48, L50, L51, L57, L59, L90, L97, L100, L120, L122, L127, L179, L187, L199, L200, L487, L974, L1000, L1461, L10000, L18498, L1000000, nI_add, pk_mul, nI_cl, nI_lts, nI_les, nI_eqs, Ln1, n1_ne, n1_ne', n1_lts, nI_ltn, n1_les, nI_len, bd_s, lt_d, gd_n, r0, s_e, if_neg hn, s_13, e, if_true, s_ww]) (fun q _ hq hc => by
    have r0 : (wI m 111 4 (nI q)).1 111 0 = nI n := by rw [s_n (by decide)]; exact h3
    unfold b_X7_skipSpaces_0
    by_cases hn : n ≤ q
    · simp (disch := omega) only [L0, L1, L2, L3, L4, L5, L6, L7, L8, L9, L10, L11, L12, L13, L14, L15, L16, L17, L18, L19, L20, L21, L22, L23, L24, L25, L26, L27, L28, L29, L30, L31, L32, L47, L48, L50, L51, L57, L59, L90, L97, L100, L120, L122, L127, L179, L187, L199, L200, L487, L974, L1000, L1461, L10000, L18498, L1000000, nI_add, pk_mul, nI_cl, nI_lts, nI_les, nI_eqs, Ln1, n1_ne, n1_ne', n1_lts, nI_ltn, n1_les, nI_len, bd_s, lt_d, gd_n, r0, s_e, if_pos hn]
    · have e := h7 q (by omega)
      have hd := h2 q (by omega)
      have h32 : ¬ d q = 32 := fun g => by
        unfold sp at hc
        rw [decide_eq_true (show q < n by omega), decide_eq_true g] at hc
        exact absurd hc (by decide)
      simp (disch := omega) only [L0, L1, L2, L3, L4, L5, L6, L7, L8, L9, L10, L11, L12, L13, L14, L15, L16, L17, L18, L19, L20, L21, L22, L23, L24, L25, L26, L27, L28, L29, L30, L31, L32, L47, L48, L50, L51, L57, L59, L90, L97, L100, L120, L122, L127, L179, L187, L199, L200, L487, L974, L1000, L1461, L10000, L18498, L1000000, nI_add, pk_mul, nI_cl, nI_lts, nI_les, nI_eqs, Ln1, n1_ne, n1_ne', n1_lts, nI_ltn, n1_les, nI_len, bd_s, lt_d, gd_n, r0, s_e, if_neg hn, s_13, e, if_neg h32]) 120 p () 2048 h6 (by omega) (by decide)
  have t : lo b_X7_skipSpaces_0 2048 (wI m 111 4 (nI p)) = some (wI m 111 4 (nI (SK n d p))) := this
  rw [h.self] at t
  unfold f_X7_skipSpaces
  rw [t, bd_s]
theorem y_byte (h : CP n d m p f) : f_X7_byteHere m = some (if p < n then nI (d p) else n1, m) := by
  obtain ⟨h1, h2, h3, h4, h5, h6, h7⟩ := id h
  unfold f_X7_byteHere
  by_cases hp : p < n
  · have hn : ¬ n ≤ p := by omega
    simp (disch := omega) only [L0, L1, L2, L3, L4, L5, L6, L7, L8, L9, L10, L11, L12, L13, L14, L15, L16, L17, L18, L19, L20, L21, L22, L23, L24, L25, L26, L27, L28, L29, L30, L31, L32, L47, L48, L50, L51, L57, L59, L90, L97, L100, L120, L122, L127, L179, L187, L199, L200, L487, L974, L1000, L1461, L10000, L18498, L1000000, nI_add, pk_mul, nI_cl, nI_lts, nI_les, nI_eqs, Ln1, n1_ne, n1_ne', n1_lts, nI_ltn, n1_les, nI_len, bd_s, lt_d, gd_n, h3, h4, if_neg hn, if_pos hp, h7 p hp]
  · have hn : n ≤ p := by omega
    simp (disch := omega) only [L0, L1, L2, L3, L4, L5, L6, L7, L8, L9, L10, L11, L12, L13, L14, L15, L16, L17, L18, L19, L20, L21, L22, L23, L24, L25, L26, L27, L28, L29, L30, L31, L32, L47, L48, L50, L51, L57, L59, L90, L97, L100, L120, L122, L127, L179, L187, L199, L200, L487, L974, L1000, L1461, L10000, L18498, L1000000, nI_add, pk_mul, nI_cl, nI_lts, nI_les, nI_eqs, Ln1, n1_ne, n1_ne', n1_lts, nI_ltn, n1_les, nI_len, bd_s, lt_d, gd_n, h3, h4, if_pos hn, if_neg hp]
theorem y_stopHere (h : CP n d m p f) : f_X7_stopHere m = some (nI 0, wI m 111 5 (nI p)) := by
  unfold f_X7_stopHere
  rw [h.2.2.2.1]
  rfl
theorem mtW_f {L : Nat} (h : mtW d w p i = false) (hi : i ≤ L) : mtW d w p L = false := by
  obtain ⟨j, rfl⟩ : ∃ j, L = i + j := ⟨L - i, by omega⟩
  clear hi
  induction j with
  | zero => exact h
  | succ j ih =>
    show (mtW d w p (i + j) && _) = false
    rw [ih]; rfl
theorem y_isWord {L : Nat} (h : CP n d m q f) (hw : w ≤ 6) (hL : p + L ≤ n) : f_X7_isWord (nI w) (nI p) (nI L) m = some (bI (isW d p L w), m) := by
  obtain ⟨h1, h2, h3, h4, h5, h6, h7⟩ := id h
  have e5 : w * 5 = 5 * w := Nat.mul_comm _ _
  unfold f_X7_isWord
  by_cases hL4 : L ≤ 4
  · obtain ⟨t, ht, hq⟩ := lo_rex (b := b_X7_isWord_15 (nI w) (nI p) (nI L) (nI (5 * w))) (s0 := (nI 0, m)) (N := 2048) (n := L)
      (P := fun i s => s = (nI i, m) ∧ mtW d w p i = true)
      (Q := fun t => (t = .inl (nI L, m) ∧ mtW d w p L = true) ∨ (t = .inr (nI 0, m) ∧ mtW d w p L = false))
      ⟨rfl, rfl⟩ (fun i s hi hP => by
        obtain ⟨rfl, k2⟩ := hP
        have hLi : ¬ L ≤ i := by omega
        obtain ⟨c1, c2⟩ := pcn_c (5 * w + i) (by omega)
        have e := h7 (p + i) (by omega)
        have hd := h2 (p + i) (by omega)
        by_cases hm : pcn (5 * w + i) = d (p + i)
        · refine Or.inl ⟨(nI (i + 1), m), ?_, rfl, ?_⟩
          · unfold b_X7_isWord_15
            simp (disch := omega) only [L0, L1, L2, L3, L4, L5, L6, L7, L8, L9, L10, L11, L12, L13, L14, L15, L16, L17, L18, L19, L20, L21, L22, L23, L24, L25, L26, L27, L28, L29, L30, L31, L32, L47, L48, L50, L51, L57, L59, L90, L97, L100, L120, L122, L127, L179, L187, L199, L200, L487, L974, L1000, L1461, L10000, L18498, L1000000, nI_add, pk_mul, nI_cl, nI_lts, nI_les, nI_eqs, Ln1, n1_ne, n1_ne', n1_lts, nI_ltn, n1_les, nI_len, bd_s, lt_d, gd_n, if_neg hLi, c1, e, if_pos hm]
          · show (mtW d w p i && decide (pcn (5 * w + i) = d (p + i))) = true
            rw [k2, decide_eq_true hm]; rfl
        · refine Or.inr ⟨.inr (nI 0, m), ?_, Or.inr ⟨rfl, mtW_f (i := i + 1) ?_ (by omega)⟩⟩
          · unfold b_X7_isWord_15
            simp (disch := omega) only [L0, L1, L2, L3, L4, L5, L6, L7, L8, L9, L10, L11, L12, L13, L14, L15, L16, L17, L18, L19, L20, L21, L22, L23, L24, L25, L26, L27, L28, L29, L30, L31, L32, L47, L48, L50, L51, L57, L59, L90, L97, L100, L120, L122, L127, L179, L187, L199, L200, L487, L974, L1000, L1461, L10000, L18498, L1000000, nI_add, pk_mul, nI_cl, nI_lts, nI_les, nI_eqs, Ln1, n1_ne, n1_ne', n1_lts, nI_ltn, n1_les, nI_len, bd_s, lt_d, gd_n, if_neg hLi, c1, e, if_neg hm]
          · show (mtW d w p i && decide (pcn (5 * w + i) = d (p + i))) = false
            rw [decide_eq_false hm, Bool.and_false]) (fun s hP => by
        obtain ⟨rfl, k2⟩ := hP
        refine ⟨.inl (nI L, m), ?_, Or.inl ⟨rfl, k2⟩⟩
        unfold b_X7_isWord_15
        simp (disch := omega) only [L0, L1, L2, L3, L4, L5, L6, L7, L8, L9, L10, L11, L12, L13, L14, L15, L16, L17, L18, L19, L20, L21, L22, L23, L24, L25, L26, L27, L28, L29, L30, L31, L32, L47, L48, L50, L51, L57, L59, L90, L97, L100, L120, L122, L127, L179, L187, L199, L200, L487, L974, L1000, L1461, L10000, L18498, L1000000, nI_add, pk_mul, nI_cl, nI_lts, nI_les, nI_eqs, Ln1, n1_ne, n1_ne', n1_lts, nI_ltn, n1_les, nI_len, bd_s, lt_d, gd_n, if_true, Nat.le_refl]) (by omega)
    obtain ⟨c1, c2⟩ := pcn_c (5 * w + L) (by omega)
    unfold isW
    rw [decide_eq_true hL4]
    rcases hq with ⟨rfl, hm⟩ | ⟨rfl, hm⟩
    · rw [hm]
      by_cases hs : pcn (5 * w + L) = 32
      · rw [decide_eq_true hs]
        simp (disch := omega) only [L0, L1, L2, L3, L4, L5, L6, L7, L8, L9, L10, L11, L12, L13, L14, L15, L16, L17, L18, L19, L20, L21, L22, L23, L24, L25, L26, L27, L28, L29, L30, L31, L32, L47, L48, L50, L51, L57, L59, L90, L97, L100, L120, L122, L127, L179, L187, L199, L200, L487, L974, L1000, L1461, L10000, L18498, L1000000, nI_add, pk_mul, nI_cl, nI_lts, nI_les, nI_eqs, Ln1, n1_ne, n1_ne', n1_lts, nI_ltn, n1_les, nI_len, bd_s, lt_d, gd_n, if_pos hL4, e5, ht, smL, c1, if_pos hs]
        rfl
      · rw [decide_eq_false hs]
        simp (disch := omega) only [L0, L1, L2, L3, L4, L5, L6, L7, L8, L9, L10, L11, L12, L13, L14, L15, L16, L17, L18, L19, L20, L21, L22, L23, L24, L25, L26, L27, L28, L29, L30, L31, L32, L47, L48, L50, L51, L57, L59, L90, L97, L100, L120, L122, L127, L179, L187, L199, L200, L487, L974, L1000, L1461, L10000, L18498, L1000000, nI_add, pk_mul, nI_cl, nI_lts, nI_les, nI_eqs, Ln1, n1_ne, n1_ne', n1_lts, nI_ltn, n1_les, nI_len, bd_s, lt_d, gd_n, if_pos hL4, e5, ht, smL, c1, if_neg hs]
        rfl
    · rw [hm]
      simp (disch := omega) only [L0, L1, L2, L3, L4, L5, L6, L7, L8, L9, L10, L11, L12, L13, L14, L15, L16, L17, L18, L19, L20, L21, L22, L23, L24, L25, L26, L27, L28, L29, L30, L31, L32, L47, L48, L50, L51, L57, L59, L90, L97, L100, L120, L122, L127, L179, L187, L199, L200, L487, L974, L1000, L1461, L10000, L18498, L1000000, nI_add, pk_mul, nI_cl, nI_lts, nI_les, nI_eqs, Ln1, n1_ne, n1_ne', n1_lts, nI_ltn, n1_les, nI_len, bd_s, lt_d, gd_n, if_pos hL4, e5, ht]
      rfl
  · unfold isW
    rw [decide_eq_false hL4]
    simp (disch := omega) only [L0, L1, L2, L3, L4, L5, L6, L7, L8, L9, L10, L11, L12, L13, L14, L15, L16, L17, L18, L19, L20, L21, L22, L23, L24, L25, L26, L27, L28, L29, L30, L31, L32, L47, L48, L50, L51, L57, L59, L90, L97, L100, L120, L122, L127, L179, L187, L199, L200, L487, L974, L1000, L1461, L10000, L18498, L1000000, nI_add, pk_mul, nI_cl, nI_lts, nI_les, nI_eqs, Ln1, n1_ne, n1_ne', n1_lts, nI_ltn, n1_les, nI_len, bd_s, lt_d, gd_n, if_neg hL4]
    rfl
theorem y_letters (h : CP n d m p f) : lo (b_X7_readWord_5 v) 2048 m = some (wI m 111 4 (nI (LE n d p))) := by
  obtain ⟨h1, h2, h3, h4, h5, h6, h7⟩ := id h
  have := lo_av (n := n) (cnd := ltr n d) (b := b_X7_readWord_5 v) (g := fun q (_ : Unit) => wI m 111 4 (nI q)) (e := fun q _ => wI m 111 4 (nI q)) (φ := fun _ a => a) ltr_c (fun q _ hq hc => by
    unfold ltr at hc
    simp only [Bool.and_eq_true, decide_eq_true_eq] at hc
    have hn : ¬ n ≤ q := by omega
    have e := h7 q hq
    have l1 : ¬ d q < 97 := by omega
    have l2 : ¬ 122 < d q := by omega
    have hd := h2 q hq
    have r0 : (wI m 111 4 (nI q)).1 111 0 = nI n := by rw [s_n (by decide)]; exact h3
    unfold b_X7_readWord_5 f_X7_isLetter
    simp (disch := omega) only [L0, L1, L2, L3, L4, L5, L6, L7, L8, L9, L10, L11, L12, L13, L14, L15, L16, L17, L18, L19, L20, L21, L22, L23, L24, L25, L26, L27, L28, L29, L30, L31, L32, L47, L48, L50, L51, L57, L59, L90, L97, L100, L120, L122, L127, L179, L187, L199, L200, L487, L974, L1000, L1461, L10000, L18498, L1000000, nI_add, pk_mul, nI_cl, nI_lts, nI_les, nI_eqs, Ln1, n1_ne, n1_ne', n1_lts, nI_ltn, n1_les, nI_len, bd_s, lt_d, gd_n, r0, s_e, if_neg hn, s_13, e, if_neg l1, if_neg l2, i10, if_false, s_ww, Nat.one_ne_zero]) (fun q _ hq hc => by
    have r0 : (wI m 111 4 (nI q)).1 111 0 = nI n := by rw [s_n (by decide)]; exact h3
    unfold b_X7_readWord_5 f_X7_isLetter
    by_cases hn : n ≤ q
    · simp (disch := omega) only [L0, L1, L2, L3, L4, L5, L6, L7, L8, L9, L10, L11, L12, L13, L14, L15, L16, L17, L18, L19, L20, L21, L22, L23, L24, L25, L26, L27, L28, L29, L30, L31, L32, L47, L48, L50, L51, L57, L59, L90, L97, L100, L120, L122, L127, L179, L187, L199, L200, L487, L974, L1000, L1461, L10000, L18498, L1000000, nI_add, pk_mul, nI_cl, nI_lts, nI_les, nI_eqs, Ln1, n1_ne, n1_ne', n1_lts, nI_ltn, n1_les, nI_len, bd_s, lt_d, gd_n, r0, s_e, if_pos hn]
    · have e := h7 q (by omega)
      have hd := h2 q (by omega)
      unfold ltr at hc
      rw [decide_eq_true (show q < n by omega)] at hc
      by_cases l1 : d q < 97
      · simp (disch := omega) only [L0, L1, L2, L3, L4, L5, L6, L7, L8, L9, L10, L11, L12, L13, L14, L15, L16, L17, L18, L19, L20, L21, L22, L23, L24, L25, L26, L27, L28, L29, L30, L31, L32, L47, L48, L50, L51, L57, L59, L90, L97, L100, L120, L122, L127, L179, L187, L199, L200, L487, L974, L1000, L1461, L10000, L18498, L1000000, nI_add, pk_mul, nI_cl, nI_lts, nI_les, nI_eqs, Ln1, n1_ne, n1_ne', n1_lts, nI_ltn, n1_les, nI_len, bd_s, lt_d, gd_n, r0, s_e, if_neg hn, s_13, e, if_pos l1, if_true]
      · have l2 : 122 < d q := by
          refine Nat.lt_of_not_le (fun g => ?_)
          rw [decide_eq_true (show 97 ≤ d q by omega), decide_eq_true g] at hc
          exact absurd hc (by decide)
        simp (disch := omega) only [L0, L1, L2, L3, L4, L5, L6, L7, L8, L9, L10, L11, L12, L13, L14, L15, L16, L17, L18, L19, L20, L21, L22, L23, L24, L25, L26, L27, L28, L29, L30, L31, L32, L47, L48, L50, L51, L57, L59, L90, L97, L100, L120, L122, L127, L179, L187, L199, L200, L487, L974, L1000, L1461, L10000, L18498, L1000000, nI_add, pk_mul, nI_cl, nI_lts, nI_les, nI_eqs, Ln1, n1_ne, n1_ne', n1_lts, nI_ltn, n1_les, nI_len, bd_s, lt_d, gd_n, r0, s_e, if_neg hn, s_13, e, if_neg l1, if_pos l2, if_true]) 120 p () 2048 h6 (by omega) (by decide)
  have t : lo (b_X7_readWord_5 v) 2048 (wI m 111 4 (nI p)) = some (wI m 111 4 (nI (LE n d p))) := this
  rw [h.self] at t
  exact t
theorem isB_0 : isB (nI 0) = true := by decide
theorem y_readWord (h : CP n d m p f) : ∃ m', f_X7_readWord m = some (if WX n d p = 7 then nI 0 else nI 1, m') ∧ fp m m' ∧ m'.1 112 = m.1 112 ∧ (WX n d p = 7 → CP n d m' p (nI p)) ∧ (¬ WX n d p = 7 → WX n d p ≤ 6 ∧ CP n d m' (LE n d p) f ∧ m'.1 111 1 = nI (WX n d p)) := by
  obtain ⟨h1, h2, h3, h4, h5, h6, h7⟩ := id h
  have l1 := LE_le (n := n) (d := d) h6
  have l2 := LE_ge (n := n) (d := d) (p := p)
  have hq := h.mv l1
  by_cases hz : LE n d p = p
  · have hw7 : WX n d p = 7 := by
      unfold WX
      refine firstW_no (fun u hu => ?_)
      rw [hz, Nat.sub_self]
      unfold isW
      have : ¬ pcn (5 * u + 0) = 32 := by
        have : u = 0 ∨ u = 1 ∨ u = 2 ∨ u = 3 ∨ u = 4 ∨ u = 5 ∨ u = 6 := by omega
        rcases this with rfl | rfl | rfl | rfl | rfl | rfl | rfl <;> decide +kernel
      rw [decide_eq_false this, Bool.and_false, Bool.and_false]
    have hs := y_stopHere hq
    rw [hz] at hs hq
    refine ⟨wI (wI m 111 4 (nI p)) 111 5 (nI p), ?_, (fp.w1 (by decide)).tr (fp.w1 (by decide)), by rw [s_12, s_12], fun _ => hq.flt _, fun g => absurd hw7 g⟩
    rw [if_pos hw7]
    unfold f_X7_readWord j_X7_readWord_44
    simp (disch := omega) only [L0, L1, L2, L3, L4, L5, L6, L7, L8, L9, L10, L11, L12, L13, L14, L15, L16, L17, L18, L19, L20, L21, L22, L23, L24, L25, L26, L27, L28, L29, L30, L31, L32, L47, L48, L50, L51, L57, L59, L90, L97, L100, L120, L122, L127, L179, L187, L199, L200, L487, L974, L1000, L1461, L10000, L18498, L1000000, bd_s, lt_d, gd_n, h4, y_letters h, hz, s_e, if_true, hs, isB_0, gd_tt]
  · have hlp : ¬ LE n d p = p := hz
    obtain ⟨t, ht, hqq⟩ := lo_rex (b := b_X7_readWord_59 (nI p)) (s0 := (nI 0, wI m 111 4 (nI (LE n d p)))) (N := 2048) (n := 7)
      (P := fun w s => s = (nI w, wI m 111 4 (nI (LE n d p))) ∧ ∀ u, u < w → isW d p (LE n d p - p) u = false)
      (Q := fun t => (∃ w, w ≤ 6 ∧ isW d p (LE n d p - p) w = true ∧ (∀ u, u < w → isW d p (LE n d p - p) u = false) ∧ t = .inr (nI 1, wI (wI m 111 4 (nI (LE n d p))) 111 1 (nI w))) ∨ ((∀ u, u < 7 → isW d p (LE n d p - p) u = false) ∧ t = .inl (nI 7, wI m 111 4 (nI (LE n d p)))))
      ⟨rfl, fun u hu => absurd hu (Nat.not_lt_zero u)⟩ (fun w s hw hP => by
        obtain ⟨rfl, k2⟩ := hP
        have h6w : ¬ 6 < w := by omega
        have hi := y_isWord (p := p) (L := LE n d p - p) hq (show w ≤ 6 by omega) (by omega)
        have e4 : (wI m 111 4 (nI (LE n d p))).1 111 4 - nI p = nI (LE n d p - p) := by rw [s_e, nI_sbs l2]
        by_cases hm : isW d p (LE n d p - p) w = true
        · refine Or.inr ⟨_, ?_, Or.inl ⟨w, by omega, hm, k2, rfl⟩⟩
          rw [hm, bI_t] at hi
          unfold b_X7_readWord_59
          simp (disch := omega) only [L0, L1, L2, L3, L4, L5, L6, L7, L8, L9, L10, L11, L12, L13, L14, L15, L16, L17, L18, L19, L20, L21, L22, L23, L24, L25, L26, L27, L28, L29, L30, L31, L32, L47, L48, L50, L51, L57, L59, L90, L97, L100, L120, L122, L127, L179, L187, L199, L200, L487, L974, L1000, L1461, L10000, L18498, L1000000, nI_add, pk_mul, nI_cl, nI_lts, nI_les, nI_eqs, Ln1, n1_ne, n1_ne', n1_lts, nI_ltn, n1_les, nI_len, bd_s, lt_d, gd_n, if_neg h6w, e4, hi, i10, if_false, Nat.one_ne_zero]
        · have hm := bf_of hm
          refine Or.inl ⟨_, ?_, rfl, fun u hu => ?_⟩
          · rw [hm, bI_f] at hi
            unfold b_X7_readWord_59
            simp (disch := omega) only [L0, L1, L2, L3, L4, L5, L6, L7, L8, L9, L10, L11, L12, L13, L14, L15, L16, L17, L18, L19, L20, L21, L22, L23, L24, L25, L26, L27, L28, L29, L30, L31, L32, L47, L48, L50, L51, L57, L59, L90, L97, L100, L120, L122, L127, L179, L187, L199, L200, L487, L974, L1000, L1461, L10000, L18498, L1000000, nI_add, pk_mul, nI_cl, nI_lts, nI_les, nI_eqs, Ln1, n1_ne, n1_ne', n1_lts, nI_ltn, n1_les, nI_len, bd_s, lt_d, gd_n, if_neg h6w, e4, hi, if_true]
          · by_cases huw : u = w
            · rw [huw]; exact hm
            · exact k2 u (by omega)) (fun s hP => by
        obtain ⟨rfl, k2⟩ := hP
        refine ⟨_, ?_, Or.inr ⟨k2, rfl⟩⟩
        unfold b_X7_readWord_59
        simp (disch := omega) only [L0, L1, L2, L3, L4, L5, L6, L7, L8, L9, L10, L11, L12, L13, L14, L15, L16, L17, L18, L19, L20, L21, L22, L23, L24, L25, L26, L27, L28, L29, L30, L31, L32, L47, L48, L50, L51, L57, L59, L90, L97, L100, L120, L122, L127, L179, L187, L199, L200, L487, L974, L1000, L1461, L10000, L18498, L1000000, nI_add, pk_mul, nI_cl, nI_lts, nI_les, nI_eqs, Ln1, n1_ne, n1_ne', n1_lts, nI_ltn, n1_les, nI_len, bd_s, lt_d, gd_n, Nat.reduceLT, if_true]) (by decide)
    rcases hqq with ⟨w, hw6, hw1, hw2, rfl⟩ | ⟨hno, rfl⟩
    · have hw : WX n d p = w := firstW_of hw1 hw2 hw6
      have hn7 : ¬ WX n d p = 7 := by omega
      refine ⟨wI (wI m 111 4 (nI (LE n d p))) 111 1 (nI w), ?_, (fp.w1 (by decide)).tr (fp.w1 (by decide)), by rw [s_12, s_12], fun g => absurd g hn7, fun _ => ⟨by omega, ?_, by rw [s_e, hw]⟩⟩
      · rw [if_neg hn7]
        unfold f_X7_readWord j_X7_readWord_44
        simp (disch := omega) only [L0, L1, L2, L3, L4, L5, L6, L7, L8, L9, L10, L11, L12, L13, L14, L15, L16, L17, L18, L19, L20, L21, L22, L23, L24, L25, L26, L27, L28, L29, L30, L31, L32, L47, L48, L50, L51, L57, L59, L90, L97, L100, L120, L122, L127, L179, L187, L199, L200, L487, L974, L1000, L1461, L10000, L18498, L1000000, nI_add, pk_mul, nI_cl, nI_lts, nI_les, nI_eqs, Ln1, n1_ne, n1_ne', n1_lts, nI_ltn, n1_les, nI_len, bd_s, lt_d, gd_n, h4, y_letters h, s_e, if_neg hlp, ht]
        rfl
      · obtain ⟨g1, g2, g3, g4, g5, g6, g7⟩ := hq
        exact ⟨g1, g2, by rw [s_n (by decide)]; exact g3, by rw [s_n (by decide)]; exact g4, by rw [s_n (by decide)]; exact g5, g6, fun i hi => by rw [s_13]; exact g7 i hi⟩
    · have hw : WX n d p = 7 := firstW_no hno
      have hb := h.mv h6
      have hs := y_stopHere hb
      refine ⟨wI (wI m 111 4 (nI p)) 111 5 (nI p), ?_, (fp.w1 (by decide)).tr (fp.w1 (by decide)), by rw [s_12, s_12], fun _ => hb.flt _, fun g => absurd hw g⟩
      rw [if_pos hw]
      unfold f_X7_readWord j_X7_readWord_44
      simp (disch := omega) only [L0, L1, L2, L3, L4, L5, L6, L7, L8, L9, L10, L11, L12, L13, L14, L15, L16, L17, L18, L19, L20, L21, L22, L23, L24, L25, L26, L27, L28, L29, L30, L31, L32, L47, L48, L50, L51, L57, L59, L90, L97, L100, L120, L122, L127, L179, L187, L199, L200, L487, L974, L1000, L1461, L10000, L18498, L1000000, nI_add, pk_mul, nI_cl, nI_lts, nI_les, nI_eqs, Ln1, n1_ne, n1_ne', n1_lts, nI_ltn, n1_les, nI_len, bd_s, lt_d, gd_n, h4, y_letters h, s_e, if_neg hlp, ht, smL, s_ww, hs, isB_0, gd_tt]
theorem y_digits (h : CP n d m p f) : lo (b_X7_readNumber_25 v (nI p)) 2048 (nI 0, m) = some (DV n d p, wI m 111 4 (nI (DG n d p))) := by
  obtain ⟨h1, h2, h3, h4, h5, h6, h7⟩ := id h
  have := lo_av (n := n) (cnd := dgt n d p) (b := b_X7_readNumber_25 v (nI p)) (g := fun q (a : Int32) => (a, wI m 111 4 (nI q))) (e := fun q a => (a, wI m 111 4 (nI q))) (φ := fun q a => nI 10 * a + nI (d q) - nI 48) dgt_c (fun q a hq hc => by
    unfold dgt at hc
    simp only [Bool.and_eq_true, decide_eq_true_eq] at hc
    have hn : ¬ n ≤ q := by omega
    have h4' : ¬ p + 4 ≤ q := by omega
    have e := h7 q hq
    have l1 : ¬ d q < 48 := by omega
    have l2 : ¬ 57 < d q := by omega
    have hd := h2 q hq
    have r0 : (wI m 111 4 (nI q)).1 111 0 = nI n := by rw [s_n (by decide)]; exact h3
    unfold b_X7_readNumber_25 f_X7_isDigit
    simp (disch := omega) only [L0, L1, L2, L3, L4, L5, L6, L7, L8, L9, L10, L11, L12, L13, L14, L15, L16, L17, L18, L19, L20, L21, L22, L23, L24, L25, L26, L27, L28, L29, L30, L31, L32, L47, L48, L50, L51, L57, L59, L90, L97, L100, L120, L122, L127, L179, L187, L199, L200, L487, L974, L1000, L1461, L10000, L18498, L1000000, nI_add, pk_mul, nI_cl, nI_lts, nI_les, nI_eqs, Ln1, n1_ne, n1_ne', n1_lts, nI_ltn, n1_les, nI_len, bd_s, lt_d, gd_n, r0, s_e, if_neg hn, if_neg h4', s_13, e, if_neg l1, if_neg l2, i10, if_false, s_ww, Nat.one_ne_zero]) (fun q a hq hc => by
    have r0 : (wI m 111 4 (nI q)).1 111 0 = nI n := by rw [s_n (by decide)]; exact h3
    unfold b_X7_readNumber_25 f_X7_isDigit
    by_cases hn : n ≤ q
    · simp (disch := omega) only [L0, L1, L2, L3, L4, L5, L6, L7, L8, L9, L10, L11, L12, L13, L14, L15, L16, L17, L18, L19, L20, L21, L22, L23, L24, L25, L26, L27, L28, L29, L30, L31, L32, L47, L48, L50, L51, L57, L59, L90, L97, L100, L120, L122, L127, L179, L187, L199, L200, L487, L974, L1000, L1461, L10000, L18498, L1000000, nI_add, pk_mul, nI_cl, nI_lts, nI_les, nI_eqs, Ln1, n1_ne, n1_ne', n1_lts, nI_ltn, n1_les, nI_len, bd_s, lt_d, gd_n, r0, s_e, if_pos hn]
    · by_cases h4' : p + 4 ≤ q
      · simp (disch := omega) only [L0, L1, L2, L3, L4, L5, L6, L7, L8, L9, L10, L11, L12, L13, L14, L15, L16, L17, L18, L19, L20, L21, L22, L23, L24, L25, L26, L27, L28, L29, L30, L31, L32, L47, L48, L50, L51, L57, L59, L90, L97, L100, L120, L122, L127, L179, L187, L199, L200, L487, L974, L1000, L1461, L10000, L18498, L1000000, nI_add, pk_mul, nI_cl, nI_lts, nI_les, nI_eqs, Ln1, n1_ne, n1_ne', n1_lts, nI_ltn, n1_les, nI_len, bd_s, lt_d, gd_n, r0, s_e, if_neg hn, if_pos h4']
      · have e := h7 q (by omega)
        have hd := h2 q (by omega)
        unfold dgt at hc
        rw [decide_eq_true (show q < n by omega), decide_eq_true (show q < p + 4 by omega)] at hc
        by_cases l1 : d q < 48
        · simp (disch := omega) only [L0, L1, L2, L3, L4, L5, L6, L7, L8, L9, L10, L11, L12, L13, L14, L15, L16, L17, L18, L19, L20, L21, L22, L23, L24, L25, L26, L27, L28, L29, L30, L31, L32, L47, L48, L50, L51, L57, L59, L90, L97, L100, L120, L122, L127, L179, L187, L199, L200, L487, L974, L1000, L1461, L10000, L18498, L1000000, nI_add, pk_mul, nI_cl, nI_lts, nI_les, nI_eqs, Ln1, n1_ne, n1_ne', n1_lts, nI_ltn, n1_les, nI_len, bd_s, lt_d, gd_n, r0, s_e, if_neg hn, if_neg h4', s_13, e, if_pos l1, if_true]
        · have l2 : 57 < d q := by
            refine Nat.lt_of_not_le (fun g => ?_)
            rw [decide_eq_true (show 48 ≤ d q by omega), decide_eq_true g] at hc
            exact absurd hc (by decide)
          simp (disch := omega) only [L0, L1, L2, L3, L4, L5, L6, L7, L8, L9, L10, L11, L12, L13, L14, L15, L16, L17, L18, L19, L20, L21, L22, L23, L24, L25, L26, L27, L28, L29, L30, L31, L32, L47, L48, L50, L51, L57, L59, L90, L97, L100, L120, L122, L127, L179, L187, L199, L200, L487, L974, L1000, L1461, L10000, L18498, L1000000, nI_add, pk_mul, nI_cl, nI_lts, nI_les, nI_eqs, Ln1, n1_ne, n1_ne', n1_lts, nI_ltn, n1_les, nI_len, bd_s, lt_d, gd_n, r0, s_e, if_neg hn, if_neg h4', s_13, e, if_neg l1, if_pos l2, if_true]) 120 p (nI 0) 2048 h6 (by omega) (by decide)
  have t : lo (b_X7_readNumber_25 v (nI p)) 2048 (nI 0, wI m 111 4 (nI p)) = some (DV n d p, wI m 111 4 (nI (DG n d p))) := this
  rw [h.self] at t
  exact t
theorem CP.num (h : CP n d m p f) {j : Nat} : CP n d (wI m 112 j v) p f := by
  obtain ⟨h1, h2, h3, h4, h5, h6, h7⟩ := h
  have e : (wI m 112 j v).1 111 = m.1 111 := by rw [wI_sR, sR_ne (by decide)]
  exact ⟨h1, h2, by rw [e]; exact h3, by rw [e]; exact h4, by rw [e]; exact h5, h6, fun i hi => by rw [wI_sR, sR_ne (by decide)]; exact h7 i hi⟩
/-- one number, as the pure reader has it -/
theorem y_readNumber (h : CP n d m p f) (hi : i < 3) : ∃ m', fp m m' ∧ m'.1 111 1 = m.1 111 1 ∧
    ((SK n d p = p ∧ f_X7_readNumber (nI i) m = some (nI 0, m') ∧ CP n d m' p (nI p)) ∨
     (¬ SK n d p = p ∧ DG n d (SK n d p) = SK n d p ∧ f_X7_readNumber (nI i) m = some (nI 0, m') ∧ CP n d m' (SK n d p) (nI (SK n d p))) ∨
     (¬ SK n d p = p ∧ ¬ DG n d (SK n d p) = SK n d p ∧ f_X7_readNumber (nI i) m = some (nI 1, m') ∧ CP n d m' (DG n d (SK n d p)) f ∧ m'.1 112 = upd (m.1 112) i (DV n d (SK n d p)))) := by
  obtain ⟨h1, h2, h3, h4, h5, h6, h7⟩ := id h
  have s1 := SK_le (n := n) (d := d) h6
  have s2 := SK_ge (n := n) (d := d) (p := p)
  have hS := h.mv s1
  have g1 := DG_le (n := n) (d := d) s1
  have g2 := DG_ge (n := n) (d := d) (p := SK n d p)
  have hD := hS.mv g1
  have hb := y_byte h
  by_cases hz : SK n d p = p
  · have hsp := SK_eq.mp hz
    have hs := y_stopHere h
    refine ⟨wI m 111 5 (nI p), fp.w1 (by decide), s_n (by decide), Or.inl ⟨hz, ?_, h.flt _⟩⟩
    unfold f_X7_readNumber
    by_cases hp : p < n
    · rw [if_pos hp] at hb
      have h32 : ¬ d p = 32 := fun g => by
        unfold sp at hsp
        rw [decide_eq_true hp, decide_eq_true g] at hsp
        exact absurd hsp (by decide)
      have hd := h2 p hp
      simp (disch := omega) only [L0, L1, L2, L3, L4, L5, L6, L7, L8, L9, L10, L11, L12, L13, L14, L15, L16, L17, L18, L19, L20, L21, L22, L23, L24, L25, L26, L27, L28, L29, L30, L31, L32, L47, L48, L50, L51, L57, L59, L90, L97, L100, L120, L122, L127, L179, L187, L199, L200, L487, L974, L1000, L1461, L10000, L18498, L1000000, nI_add, pk_mul, nI_cl, nI_lts, nI_les, nI_eqs, Ln1, n1_ne, n1_ne', n1_lts, nI_ltn, n1_les, nI_len, bd_s, lt_d, gd_n, hb, if_neg h32, hs, isB_0, gd_tt]
    · rw [if_neg hp] at hb
      simp (disch := omega) only [L0, L1, L2, L3, L4, L5, L6, L7, L8, L9, L10, L11, L12, L13, L14, L15, L16, L17, L18, L19, L20, L21, L22, L23, L24, L25, L26, L27, L28, L29, L30, L31, L32, L47, L48, L50, L51, L57, L59, L90, L97, L100, L120, L122, L127, L179, L187, L199, L200, L487, L974, L1000, L1461, L10000, L18498, L1000000, nI_add, pk_mul, nI_cl, nI_lts, nI_les, nI_eqs, Ln1, n1_ne, n1_ne', n1_lts, nI_ltn, n1_les, nI_len, bd_s, lt_d, gd_n, hb, if_false, hs, isB_0, gd_tt]
  · have hsp : sp n d p = true := by
      refine Classical.byContradiction (fun g => hz (SK_eq.mpr (bf_of g)))
    unfold sp at hsp
    simp only [Bool.and_eq_true, decide_eq_true_eq] at hsp
    rw [if_pos hsp.1, hsp.2] at hb
    have hd := y_digits (v := nI i) hS
    by_cases hg : DG n d (SK n d p) = SK n d p
    · have hs := y_stopHere hD
      rw [hg] at hs hD
      refine ⟨wI (wI (wI m 111 4 (nI (SK n d p))) 111 4 (nI (SK n d p))) 111 5 (nI (SK n d p)), ((fp.w1 (by decide)).tr (fp.w1 (by decide))).tr (fp.w1 (by decide)), by rw [s_n (by decide), s_n (by decide), s_n (by decide)], Or.inr (Or.inl ⟨hz, hg, ?_, hD.flt _⟩)⟩
      rw [hg] at hd
      unfold f_X7_readNumber j_X7_readNumber_92
      simp (disch := omega) only [L0, L1, L2, L3, L4, L5, L6, L7, L8, L9, L10, L11, L12, L13, L14, L15, L16, L17, L18, L19, L20, L21, L22, L23, L24, L25, L26, L27, L28, L29, L30, L31, L32, L47, L48, L50, L51, L57, L59, L90, L97, L100, L120, L122, L127, L179, L187, L199, L200, L487, L974, L1000, L1461, L10000, L18498, L1000000, nI_add, pk_mul, nI_cl, nI_lts, nI_les, nI_eqs, Ln1, n1_ne, n1_ne', n1_lts, nI_ltn, n1_les, nI_len, bd_s, lt_d, gd_n, hb, if_true, y_skip h, s_e, hd, hs, isB_0, gd_tt]
    · refine ⟨wI (wI (wI m 111 4 (nI (SK n d p))) 111 4 (nI (DG n d (SK n d p)))) 112 i (DV n d (SK n d p)), ((fp.w1 (by decide)).tr (fp.w1 (by decide))).tr fp.w2, by rw [wI_sR (wI (wI m 111 4 _) 111 4 _), sR_ne (by decide), s_n (by decide), s_n (by decide)], Or.inr (Or.inr ⟨hz, hg, ?_, hD.num, ?_⟩)⟩
      · unfold f_X7_readNumber j_X7_readNumber_92
        simp (disch := omega) only [L0, L1, L2, L3, L4, L5, L6, L7, L8, L9, L10, L11, L12, L13, L14, L15, L16, L17, L18, L19, L20, L21, L22, L23, L24, L25, L26, L27, L28, L29, L30, L31, L32, L47, L48, L50, L51, L57, L59, L90, L97, L100, L120, L122, L127, L179, L187, L199, L200, L487, L974, L1000, L1461, L10000, L18498, L1000000, nI_add, pk_mul, nI_cl, nI_lts, nI_les, nI_eqs, Ln1, n1_ne, n1_ne', n1_lts, nI_ltn, n1_les, nI_len, bd_s, lt_d, gd_n, hb, if_true, y_skip h, s_e, hd, if_neg hg]
      · rw [wI_sR (wI (wI m 111 4 _) 111 4 _), sR_get, s_12, s_12]
theorem rn_s0 (q i : Nat) (h : (rn n d q i).1 = true) (k : SK n d (rn n d q i).2.1 = (rn n d q i).2.1) : rn n d q (i + 1) = (false, (rn n d q i).2.1, (rn n d q i).2.2) := by rw [rn, if_pos h, if_pos k]
theorem rn_s1 (q i : Nat) (h : (rn n d q i).1 = true) (k : ¬ SK n d (rn n d q i).2.1 = (rn n d q i).2.1) (g : DG n d (SK n d (rn n d q i).2.1) = SK n d (rn n d q i).2.1) : rn n d q (i + 1) = (false, SK n d (rn n d q i).2.1, (rn n d q i).2.2) := by rw [rn, if_pos h, if_neg k, if_pos g]
theorem rn_s2 (q i : Nat) (h : (rn n d q i).1 = true) (k : ¬ SK n d (rn n d q i).2.1 = (rn n d q i).2.1) (g : ¬ DG n d (SK n d (rn n d q i).2.1) = SK n d (rn n d q i).2.1) : rn n d q (i + 1) = (true, DG n d (SK n d (rn n d q i).2.1), upd (rn n d q i).2.2 i (DV n d (SK n d (rn n d q i).2.1))) := by rw [rn, if_pos h, if_neg k, if_neg g]
theorem nums_c : ∀ w, w ≤ 6 → pm_nums w = nI (nnW w) ∧ nnW w ≤ 3 := by decide +kernel
theorem y_numbers {q0 : Nat} (h : CP n d m q0 f) (hw : w ≤ 6) (hmw : m.1 111 1 = nI w) (h12 : ∀ j, j < 3 → m.1 112 j = nI 0) : ∃ t m', lo b_X7_readCommand_48 2048 (nI 0, m) = some t ∧ fp m m' ∧ m'.1 111 1 = nI w ∧
    (((rn n d q0 (nnW w)).1 = true ∧ t = .inl (nI (nnW w), m') ∧ CP n d m' (rn n d q0 (nnW w)).2.1 f ∧ ∀ j, j < 3 → m'.1 112 j = (rn n d q0 (nnW w)).2.2 j) ∨
     ((rn n d q0 (nnW w)).1 = false ∧ t = .inr (nI 0, m') ∧ CP n d m' (rn n d q0 (nnW w)).2.1 (nI (rn n d q0 (nnW w)).2.1))) := by
  obtain ⟨c1, c2⟩ := nums_c w hw
  obtain ⟨t, ht, m', k1⟩ := lo_rex (b := b_X7_readCommand_48) (s0 := (nI 0, m)) (N := 2048) (n := nnW w)
    (P := fun i s => ∃ m', s = (nI i, m') ∧ fp m m' ∧ m'.1 111 1 = nI w ∧ (rn n d q0 i).1 = true ∧ CP n d m' (rn n d q0 i).2.1 f ∧ ∀ j, j < 3 → m'.1 112 j = (rn n d q0 i).2.2 j)
    (Q := fun t => ∃ m', fp m m' ∧ m'.1 111 1 = nI w ∧
    (((rn n d q0 (nnW w)).1 = true ∧ t = .inl (nI (nnW w), m') ∧ CP n d m' (rn n d q0 (nnW w)).2.1 f ∧ ∀ j, j < 3 → m'.1 112 j = (rn n d q0 (nnW w)).2.2 j) ∨
     ((rn n d q0 (nnW w)).1 = false ∧ t = .inr (nI 0, m') ∧ CP n d m' (rn n d q0 (nnW w)).2.1 (nI (rn n d q0 (nnW w)).2.1))))
    ⟨m, rfl, fp.rf m, hmw, rfl, h, h12⟩ (fun i s hi hP => by
      obtain ⟨m', rfl, k1, k2, k3, k4, k5⟩ := hP
      have hi3 : i < 3 := by omega
      have hni : ¬ nnW w ≤ i := by omega
      have h3i : ¬ 3 ≤ i := by omega
      obtain ⟨m2, l1, l2, l3⟩ := y_readNumber k4 hi3
      have hend : ∀ (r : Bool × Nat × (Nat → Int32)), rn n d q0 (i + 1) = r → r.1 = false → rn n d q0 (nnW w) = r := fun r hr hf => by
        have := rn_stop (n := n) (d := d) (q := q0) (i := i + 1) (by rw [hr]; exact hf) (nnW w - (i + 1))
        rw [show i + 1 + (nnW w - (i + 1)) = nnW w by omega, hr] at this
        exact this
      rcases l3 with ⟨z, e1, e2⟩ | ⟨z, z2, e1, e2⟩ | ⟨z, z2, e1, e2, e3⟩
      · refine Or.inr ⟨.inr (nI 0, m2), ?_, m2, k1.tr l1, by rw [l2]; exact k2, Or.inr ?_⟩
        · unfold b_X7_readCommand_48
          simp (disch := omega) only [L0, L1, L2, L3, L4, L5, L6, L7, L8, L9, L10, L11, L12, L13, L14, L15, L16, L17, L18, L19, L20, L21, L22, L23, L24, L25, L26, L27, L28, L29, L30, L31, L32, L47, L48, L50, L51, L57, L59, L90, L97, L100, L120, L122, L127, L179, L187, L199, L200, L487, L974, L1000, L1461, L10000, L18498, L1000000, nI_add, pk_mul, nI_cl, nI_lts, nI_les, nI_eqs, Ln1, n1_ne, n1_ne', n1_lts, nI_ltn, n1_les, nI_len, bd_s, lt_d, gd_n, k2, c1, if_neg hni, if_neg h3i, e1, if_true]
        · rw [hend _ (rn_s0 q0 i k3 z) rfl]
          exact ⟨rfl, rfl, e2⟩
      · refine Or.inr ⟨.inr (nI 0, m2), ?_, m2, k1.tr l1, by rw [l2]; exact k2, Or.inr ?_⟩
        · unfold b_X7_readCommand_48
          simp (disch := omega) only [L0, L1, L2, L3, L4, L5, L6, L7, L8, L9, L10, L11, L12, L13, L14, L15, L16, L17, L18, L19, L20, L21, L22, L23, L24, L25, L26, L27, L28, L29, L30, L31, L32, L47, L48, L50, L51, L57, L59, L90, L97, L100, L120, L122, L127, L179, L187, L199, L200, L487, L974, L1000, L1461, L10000, L18498, L1000000, nI_add, pk_mul, nI_cl, nI_lts, nI_les, nI_eqs, Ln1, n1_ne, n1_ne', n1_lts, nI_ltn, n1_les, nI_len, bd_s, lt_d, gd_n, k2, c1, if_neg hni, if_neg h3i, e1, if_true]
        · rw [hend _ (rn_s1 q0 i k3 z z2) rfl]
          exact ⟨rfl, rfl, e2⟩
      · refine Or.inl ⟨(nI (i + 1), m2), ?_, m2, rfl, k1.tr l1, by rw [l2]; exact k2, ?_⟩
        · unfold b_X7_readCommand_48
          simp (disch := omega) only [L0, L1, L2, L3, L4, L5, L6, L7, L8, L9, L10, L11, L12, L13, L14, L15, L16, L17, L18, L19, L20, L21, L22, L23, L24, L25, L26, L27, L28, L29, L30, L31, L32, L47, L48, L50, L51, L57, L59, L90, L97, L100, L120, L122, L127, L179, L187, L199, L200, L487, L974, L1000, L1461, L10000, L18498, L1000000, nI_add, pk_mul, nI_cl, nI_lts, nI_les, nI_eqs, Ln1, n1_ne, n1_ne', n1_lts, nI_ltn, n1_les, nI_len, bd_s, lt_d, gd_n, k2, c1, if_neg hni, if_neg h3i, e1, i10, if_false, Nat.one_ne_zero]
        · rw [rn_s2 q0 i k3 z z2]
          refine ⟨rfl, e2, fun j hj => ?_⟩
          rw [e3]
          show upd (m'.1 112) i _ j = upd _ i _ j
          by_cases hji : j = i
          · rw [hji, upd_e, upd_e]
          · rw [upd_n hji, upd_n hji]; exact k5 j hj) (fun s hP => by
      obtain ⟨m', rfl, k1, k2, k3, k4, k5⟩ := hP
      refine ⟨.inl (nI (nnW w), m'), ?_, m', k1, k2, Or.inl ⟨k3, rfl, k4, k5⟩⟩
      unfold b_X7_readCommand_48
      simp (disch := omega) only [L0, L1, L2, L3, L4, L5, L6, L7, L8, L9, L10, L11, L12, L13, L14, L15, L16, L17, L18, L19, L20, L21, L22, L23, L24, L25, L26, L27, L28, L29, L30, L31, L32, L47, L48, L50, L51, L57, L59, L90, L97, L100, L120, L122, L127, L179, L187, L199, L200, L487, L974, L1000, L1461, L10000, L18498, L1000000, nI_add, pk_mul, nI_cl, nI_lts, nI_les, nI_eqs, Ln1, n1_ne, n1_ne', n1_lts, nI_ltn, n1_les, nI_len, bd_s, lt_d, gd_n, k2, c1, if_true, Nat.le_refl]) (by omega)
  exact ⟨t, m', ht, k1⟩
/-- a command is read -/
theorem y_readCommand (h : CP n d m p f) : ∃ m', fp m m' ∧
    ((SK n d p = n ∧ f_X7_readCommand m = some (nI 0, m') ∧ CP n d m' n f) ∨
     (SK n d p < n ∧ (PC n d (SK n d p)).1 = true ∧ f_X7_readCommand m = some (nI 1, m') ∧ CP n d m' (PC n d (SK n d p)).2 f ∧ WX n d (SK n d p) ≤ 6 ∧ m'.1 111 1 = nI (WX n d (SK n d p)) ∧ ∀ j, j < 3 → m'.1 112 j = (rnW n d (SK n d p)).2.2 j) ∨
     (SK n d p < n ∧ (PC n d (SK n d p)).1 = false ∧ f_X7_readCommand m = some (nI 0, m') ∧ CP n d m' (PC n d (SK n d p)).2 (nI (PC n d (SK n d p)).2))) := by
  obtain ⟨h1, h2, h3, h4, h5, h6, h7⟩ := id h
  have s1 := SK_le (n := n) (d := d) h6
  have hS := h.mv s1
  have hsk := y_skip h
  have fS1 : fp m (wI m 111 4 (nI (SK n d p))) := fp.w1 (by decide)
  have r0 := hS.2.2.1
  generalize SK n d p = q at *
  by_cases hq : q < n
  · obtain ⟨m1, a1, a2, a3, a4, a5⟩ := y_readWord hS
    by_cases hw7 : WX n d q = 7
    · have hpc : PC n d q = (false, q) := by unfold PC; rw [if_pos hw7]
      rw [if_pos hw7] at a1
      refine ⟨m1, fS1.tr a2, Or.inr (Or.inr ⟨hq, by rw [hpc], ?_, by rw [hpc]; exact a4 hw7⟩)⟩
      unfold f_X7_readCommand
      simp (disch := omega) only [L0, L1, L2, L3, L4, L5, L6, L7, L8, L9, L10, L11, L12, L13, L14, L15, L16, L17, L18, L19, L20, L21, L22, L23, L24, L25, L26, L27, L28, L29, L30, L31, L32, L47, L48, L50, L51, L57, L59, L90, L97, L100, L120, L122, L127, L179, L187, L199, L200, L487, L974, L1000, L1461, L10000, L18498, L1000000, nI_add, pk_mul, nI_cl, nI_lts, nI_les, nI_eqs, Ln1, n1_ne, n1_ne', n1_lts, nI_ltn, n1_les, nI_len, bd_s, lt_d, gd_n, hsk, s_e, r0, if_pos hq, a1, if_true]
    · obtain ⟨w6, b1, b2⟩ := a5 hw7
      rw [if_neg hw7] at a1
      have hz := lo_gen (b := b_X7_readCommand_28) (fun k => (nI k, sR m1 112 (mx k (fun _ => nI 0) (m1.1 112)))) 3 (nI 3, sR m1 112 (mx 3 (fun _ => nI 0) (m1.1 112))) (fun k hk => by
        unfold b_X7_readCommand_28
        have : ¬ 3 ≤ k := by omega
        have e : upd (mx k (fun _ => nI 0) (m1.1 112)) k (nI 0) = mx (k + 1) (fun _ => nI 0) (m1.1 112) := mx_s k (fun _ => nI 0) (m1.1 112)
        simp (disch := omega) only [L0, L1, L2, L3, L4, L5, L6, L7, L8, L9, L10, L11, L12, L13, L14, L15, L16, L17, L18, L19, L20, L21, L22, L23, L24, L25, L26, L27, L28, L29, L30, L31, L32, L47, L48, L50, L51, L57, L59, L90, L97, L100, L120, L122, L127, L179, L187, L199, L200, L487, L974, L1000, L1461, L10000, L18498, L1000000, nI_add, pk_mul, nI_cl, nI_lts, nI_les, nI_eqs, Ln1, n1_ne, n1_ne', n1_lts, nI_ltn, n1_les, nI_len, bd_s, lt_d, gd_n, wI_sR, sR_get, sR_sR, sR_ne, if_neg this, e]) (by
        unfold b_X7_readCommand_28
        simp (disch := omega) only [L0, L1, L2, L3, L4, L5, L6, L7, L8, L9, L10, L11, L12, L13, L14, L15, L16, L17, L18, L19, L20, L21, L22, L23, L24, L25, L26, L27, L28, L29, L30, L31, L32, L47, L48, L50, L51, L57, L59, L90, L97, L100, L120, L122, L127, L179, L187, L199, L200, L487, L974, L1000, L1461, L10000, L18498, L1000000, nI_add, pk_mul, nI_cl, nI_lts, nI_les, nI_eqs, Ln1, n1_ne, n1_ne', n1_lts, nI_ltn, n1_les, nI_len, bd_s, lt_d, gd_n, if_true, Nat.le_refl]) (N := 2048) (by decide)
      simp only [mx_0, sR_self] at hz
      have cz : CP n d (sR m1 112 (mx 3 (fun _ => nI 0) (m1.1 112))) (LE n d q) f := by
        obtain ⟨g1, g2, g3, g4, g5, g6, g7⟩ := b1
        exact ⟨g1, g2, by rw [sR_ne (by decide)]; exact g3, by rw [sR_ne (by decide)]; exact g4, by rw [sR_ne (by decide)]; exact g5, g6, fun i hi => by rw [sR_ne (by decide)]; exact g7 i hi⟩
      have fz : fp m1 (sR m1 112 (mx 3 (fun _ => nI 0) (m1.1 112))) := ⟨fun q a b => sR_ne b, by rw [sR_ne (by decide)], rfl⟩
      obtain ⟨t, m2, c1, c2, c3, c4⟩ := y_numbers cz w6 (by rw [sR_ne (by decide)]; exact b2) (fun j hj => by rw [sR_get, mx_lt hj])
      rcases c4 with ⟨e1, rfl, e3, e4⟩ | ⟨e1, rfl, e3⟩
      · have hr : (rnW n d q).1 = true := e1
        have t1 := SK_le (n := n) (d := d) e3.2.2.2.2.2.1
        have hT := e3.mv t1
        have hsk2 := y_skip e3
        have hb := y_byte hT
        have fT : fp m2 (wI m2 111 4 (nI (SK n d (rn n d (LE n d q) (nnW (WX n d q))).2.1))) := fp.w1 (by decide)
        have er : (rnW n d q).2.1 = (rn n d (LE n d q) (nnW (WX n d q))).2.1 := rfl
        by_cases hsc : sc n d (SK n d (rnW n d q).2.1) = true
        · have hpc : PC n d q = (true, SK n d (rnW n d q).2.1 + 1) := by unfold PC; rw [if_neg hw7, if_pos hr, if_pos hsc]
          rw [er] at hsc hpc
          unfold sc at hsc
          simp only [Bool.and_eq_true, decide_eq_true_eq] at hsc
          generalize SK n d (rn n d (LE n d q) (nnW (WX n d q))).2.1 = x at *
          rw [if_pos hsc.1, hsc.2] at hb
          refine ⟨wI m2 111 4 (nI (x + 1)), ((fS1.tr a2).tr (fz.tr c2)).tr (fp.w1 (by decide)), Or.inr (Or.inl ⟨hq, by rw [hpc], ?_, by rw [hpc]; exact e3.mv (by omega), w6, by rw [s_n (by decide)]; exact c3, fun j hj => by rw [s_12]; exact e4 j hj⟩)⟩
          unfold f_X7_readCommand j_X7_readCommand_81
          simp (disch := omega) only [L0, L1, L2, L3, L4, L5, L6, L7, L8, L9, L10, L11, L12, L13, L14, L15, L16, L17, L18, L19, L20, L21, L22, L23, L24, L25, L26, L27, L28, L29, L30, L31, L32, L47, L48, L50, L51, L57, L59, L90, L97, L100, L120, L122, L127, L179, L187, L199, L200, L487, L974, L1000, L1461, L10000, L18498, L1000000, nI_add, pk_mul, nI_cl, nI_lts, nI_les, nI_eqs, Ln1, n1_ne, n1_ne', n1_lts, nI_ltn, n1_les, nI_len, bd_s, lt_d, gd_n, hsk, s_e, r0, if_pos hq, a1, i10, if_false, hz, c1, smL, hsk2, hb, if_true, s_ww, Nat.one_ne_zero]
        · have hpc : PC n d q = (false, SK n d (rnW n d q).2.1) := by unfold PC; rw [if_neg hw7, if_pos hr, if_neg hsc]
          rw [er] at hsc hpc
          have hs := y_stopHere hT
          refine ⟨wI (wI m2 111 4 (nI (SK n d (rn n d (LE n d q) (nnW (WX n d q))).2.1))) 111 5 (nI (SK n d (rn n d (LE n d q) (nnW (WX n d q))).2.1)), ((fS1.tr a2).tr (fz.tr c2)).tr (fT.tr (fp.w1 (j := 5) (by decide))), Or.inr (Or.inr ⟨hq, by rw [hpc], ?_, by rw [hpc]; exact hT.flt _⟩)⟩
          have hsc' := bf_of hsc
          unfold sc at hsc'
          generalize SK n d (rn n d (LE n d q) (nnW (WX n d q))).2.1 = x at *
          by_cases hx : x < n
          · rw [if_pos hx] at hb
            have h59 : ¬ d x = 59 := fun g => by
              rw [decide_eq_true hx, decide_eq_true g] at hsc'
              exact absurd hsc' (by decide)
            have hdx := h2 x hx
            unfold f_X7_readCommand j_X7_readCommand_81
            simp (disch := omega) only [L0, L1, L2, L3, L4, L5, L6, L7, L8, L9, L10, L11, L12, L13, L14, L15, L16, L17, L18, L19, L20, L21, L22, L23, L24, L25, L26, L27, L28, L29, L30, L31, L32, L47, L48, L50, L51, L57, L59, L90, L97, L100, L120, L122, L127, L179, L187, L199, L200, L487, L974, L1000, L1461, L10000, L18498, L1000000, nI_add, pk_mul, nI_cl, nI_lts, nI_les, nI_eqs, Ln1, n1_ne, n1_ne', n1_lts, nI_ltn, n1_les, nI_len, bd_s, lt_d, gd_n, hsk, s_e, r0, if_pos hq, a1, i10, if_false, hz, c1, smL, hsk2, hb, if_neg h59, hs, isB_0, gd_tt, Nat.one_ne_zero]
          · rw [if_neg hx] at hb
            unfold f_X7_readCommand j_X7_readCommand_81
            simp (disch := omega) only [L0, L1, L2, L3, L4, L5, L6, L7, L8, L9, L10, L11, L12, L13, L14, L15, L16, L17, L18, L19, L20, L21, L22, L23, L24, L25, L26, L27, L28, L29, L30, L31, L32, L47, L48, L50, L51, L57, L59, L90, L97, L100, L120, L122, L127, L179, L187, L199, L200, L487, L974, L1000, L1461, L10000, L18498, L1000000, nI_add, pk_mul, nI_cl, nI_lts, nI_les, nI_eqs, Ln1, n1_ne, n1_ne', n1_lts, nI_ltn, n1_les, nI_len, bd_s, lt_d, gd_n, hsk, s_e, r0, if_pos hq, a1, i10, if_false, hz, c1, smL, hsk2, hb, hs, isB_0, gd_tt, Nat.one_ne_zero]
      · have hr : ¬ (rnW n d q).1 = true := by rw [show (rnW n d q).1 = false from e1]; decide
        have hpc : PC n d q = (false, (rnW n d q).2.1) := by unfold PC; rw [if_neg hw7, if_neg hr]
        refine ⟨m2, (fS1.tr a2).tr (fz.tr c2), Or.inr (Or.inr ⟨hq, by rw [hpc], ?_, by rw [hpc]; exact e3⟩)⟩
        unfold f_X7_readCommand
        simp (disch := omega) only [L0, L1, L2, L3, L4, L5, L6, L7, L8, L9, L10, L11, L12, L13, L14, L15, L16, L17, L18, L19, L20, L21, L22, L23, L24, L25, L26, L27, L28, L29, L30, L31, L32, L47, L48, L50, L51, L57, L59, L90, L97, L100, L120, L122, L127, L179, L187, L199, L200, L487, L974, L1000, L1461, L10000, L18498, L1000000, nI_add, pk_mul, nI_cl, nI_lts, nI_les, nI_eqs, Ln1, n1_ne, n1_ne', n1_lts, nI_ltn, n1_les, nI_len, bd_s, lt_d, gd_n, hsk, s_e, r0, if_pos hq, a1, i10, if_false, hz, c1, Nat.one_ne_zero]
        rfl
  · have hqn : q = n := by omega
    subst hqn
    refine ⟨_, fS1, Or.inl ⟨rfl, ?_, hS⟩⟩
    unfold f_X7_readCommand
    simp (disch := omega) only [L0, L1, L2, L3, L4, L5, L6, L7, L8, L9, L10, L11, L12, L13, L14, L15, L16, L17, L18, L19, L20, L21, L22, L23, L24, L25, L26, L27, L28, L29, L30, L31, L32, L47, L48, L50, L51, L57, L59, L90, L97, L100, L120, L122, L127, L179, L187, L199, L200, L487, L974, L1000, L1461, L10000, L18498, L1000000, nI_add, pk_mul, nI_cl, nI_lts, nI_les, nI_eqs, Ln1, n1_ne, n1_ne', n1_lts, nI_ltn, n1_les, nI_len, bd_s, lt_d, gd_n, hsk, s_e, r0, Nat.lt_irrefl, if_false]
end PCR
