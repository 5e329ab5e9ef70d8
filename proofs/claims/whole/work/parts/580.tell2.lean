/-! More calls that tell. -/
def OPn {α : Type} (fx fm : me → Option (α × me)) (m : me) : Prop := ∃ v m1 m2, fx m = some (v, m1) ∧ fm m1 = some (v, m2) ∧ Inv m2
section PT2
variable {m : me} {S : Nat → Int32} {B T : Nat}
theorem op_time (h : Inv m) : OPn f_X11_time f_X12_time m := by
  refine ⟨m.1 129 1, m, _, ?_, rfl, h.thr⟩
  unfold f_X11_time
  rw [rd_clock h.2.1]
theorem op_links (h : Inv m) : OPn f_X11_links f_X12_links m := by
  refine ⟨m.1 129 5, m, _, ?_, rfl, h.thr⟩
  unfold f_X11_links
  rw [rd_total h.2.1]
/-- the values of a link -/
def lv (S : Nat → Int32) (l w : Nat) : Int32 := if w < 7 then S (199 + 18 * l + w) else if w = 7 then bI (ca S l) else S (199 + 18 * l + 7)
theorem bI_if (b : Bool) : (if bI b = nI 0 then some (nI 0, m) else some (nI 1, m)) = some (bI b, m) := by cases b <;> rfl
theorem x_linkValue {l w : Nat} (hl : l < 16) (hw : w ≤ 8) : f_X12_linkValue (nI l) (nI w) m = some (lv (m.1 129) l w, m) := by
  unfold f_X12_linkValue lv
  by_cases h7 : w < 7
  · rw [ifp h7]
    have : ¬ 7 ≤ w := by omega
    simp (disch := omega) only [L0, L1, L2, L3, L4, L5, L6, L7, L8, L9, L10, L11, L12, L13, L14, L15, L16, L17, L18, L19, L20, L21, L22, L23, L24, L25, L26, L27, L28, L29, L30, L31, L32, L47, L48, L50, L51, L57, L59, L90, L97, L100, L120, L122, L127, L179, L187, L199, L200, L487, L974, L1000, L1461, L10000, L18498, L1000000, nI_add, pk_mul, nI_cl, nI_lts, nI_les, nI_eqs, Ln1, n1_ne, n1_ne', n1_lts, nI_ltn, n1_les, nI_len, bd_s, lt_d, gd_n, if_neg this, x_of]
  · rw [ifn h7]
    have : 7 ≤ w := by omega
    simp (disch := omega) only [L0, L1, L2, L3, L4, L5, L6, L7, L8, L9, L10, L11, L12, L13, L14, L15, L16, L17, L18, L19, L20, L21, L22, L23, L24, L25, L26, L27, L28, L29, L30, L31, L32, L47, L48, L50, L51, L57, L59, L90, L97, L100, L120, L122, L127, L179, L187, L199, L200, L487, L974, L1000, L1461, L10000, L18498, L1000000, nI_add, pk_mul, nI_cl, nI_lts, nI_les, nI_eqs, Ln1, n1_ne, n1_ne', n1_lts, nI_ltn, n1_les, nI_len, bd_s, lt_d, gd_n, if_pos this, x_of, x_carries]
    by_cases h8 : w = 7
    · rw [ifp h8, ifp h8, bI_if]
    · rw [ifn h8, ifn h8]
theorem y_lvalue {l w : Nat} (hW : WT B T S) (hR : RN m 1 S) (hl : l < T) (hw : w ≤ 8) : f_X3_valueOf (nI l) (nI w) m = some (lv S l w, m) := by
  have w3 := hW.2.2.2.1
  have w4 := hW.2.2.2.2.1
  obtain ⟨a, b, g1, g2, g3, g4, g5, g6, g7, -⟩ := hW.2.2.2.2.2.2.2.2.2.1 l hl
  have : w = 0 ∨ w = 1 ∨ w = 2 ∨ w = 3 ∨ w = 4 ∨ w = 5 ∨ w = 6 ∨ w = 7 ∨ w = 8 := by omega
  unfold f_X3_valueOf lv
  rcases this with rfl | rfl | rfl | rfl | rfl | rfl | rfl | rfl | rfl <;> simp (disch := omega) only [L0, L1, L2, L3, L4, L5, L6, L7, L8, L9, L10, L11, L12, L13, L14, L15, L16, L17, L18, L19, L20, L21, L22, L23, L24, L25, L26, L27, L28, L29, L30, L31, L32, L47, L48, L50, L51, L57, L59, L90, L97, L100, L120, L122, L127, L179, L187, L199, L200, L487, L974, L1000, L1461, L10000, L18498, L1000000, nI_add, pk_mul, nI_cl, nI_lts, nI_les, nI_eqs, Ln1, n1_ne, n1_ne', n1_lts, nI_ltn, n1_les, nI_len, bd_s, lt_d, gd_n, y_carries hW hR hl, rd_low hR w3 w4 hl, rd_high hR w3 w4 hl, rd_base hR w3 w4 hl, rd_lcost hR w3 w4 hl, rd_up hR w3 w4 hl, rd_win hR w3 w4 hl, rd_price hR w3 w4 hl, rd_strk hR w3 w4 hl, reduceIte, Nat.reduceEqDiff, Nat.succ_ne_zero, Nat.add_zero, Nat.one_ne_zero, Nat.succ_ne_self, Nat.reduceLT, bI_if]
  rcases g7 with g7 | g7 <;> rw [g7] <;> rfl
theorem op_link (h : Inv m) (v1 v2 : Int32) : OPv (f_X11_link v1 v2) (f_X12_link v1 v2) cdIA m := by
  obtain ⟨⟨B, T, hW⟩, hR, -⟩ := id h
  have w3 := hW.2.2.2.1
  have w4 := hW.2.2.2.2.1
  have e5 := (rd_total hR).trans w3
  rcases rngT v1 T (by omega) with ⟨l, hl, rfl⟩ | hv1
  · rcases rng v2 0 8 (by decide) (by decide) with ⟨w, -, hw, rfl⟩ | hv2
    · refine op_ro h (v := lv (m.1 129) l w) ?_ (fun x => ?_)
      · unfold f_X11_link
        rw [y_has_y hl w4 e5]
        simp (disch := omega) only [L0, L1, L2, L3, L4, L5, L6, L7, L8, L9, L10, L11, L12, L13, L14, L15, L16, L17, L18, L19, L20, L21, L22, L23, L24, L25, L26, L27, L28, L29, L30, L31, L32, L47, L48, L50, L51, L57, L59, L90, L97, L100, L120, L122, L127, L179, L187, L199, L200, L487, L974, L1000, L1461, L10000, L18498, L1000000, bd_s, lt_d, gd_n, y_out_n, y_lvalue hW hR hl hw, if_true, i10, if_false]
      · unfold f_X12_link
        rw [x_isLink_y (m := wJ m 137 0 x) hl w4 w3]
        simp (disch := omega) only [L0, L1, L2, L3, L4, L5, L6, L7, L8, L9, L10, L11, L12, L13, L14, L15, L16, L17, L18, L19, L20, L21, L22, L23, L24, L25, L26, L27, L28, L29, L30, L31, L32, L47, L48, L50, L51, L57, L59, L90, L97, L100, L120, L122, L127, L179, L187, L199, L200, L487, L974, L1000, L1461, L10000, L18498, L1000000, bd_s, lt_d, gd_n, i10, if_false, x_inn, x_linkValue, x_tells]
        rfl
    · refine op_th h (e := 1) (c := nI 2) (b := nI 0) ?_ rfl (by decide) ?_
      · unfold f_X11_link
        rw [y_has_y hl w4 e5]
        simp (disch := omega) only [L0, L1, L2, L3, L4, L5, L6, L7, L8, L9, L10, L11, L12, L13, L14, L15, L16, L17, L18, L19, L20, L21, L22, L23, L24, L25, L26, L27, L28, L29, L30, L31, L32, L47, L48, L50, L51, L57, L59, L90, L97, L100, L120, L122, L127, L179, L187, L199, L200, L487, L974, L1000, L1461, L10000, L18498, L1000000, bd_s, lt_d, gd_n, y_out_y hv2, if_true, i10, if_false]
      · unfold f_X12_link
        rw [x_isLink_y hl w4 w3]
        simp (disch := omega) only [L0, L1, L2, L3, L4, L5, L6, L7, L8, L9, L10, L11, L12, L13, L14, L15, L16, L17, L18, L19, L20, L21, L22, L23, L24, L25, L26, L27, L28, L29, L30, L31, L32, L47, L48, L50, L51, L57, L59, L90, L97, L100, L120, L122, L127, L179, L187, L199, L200, L487, L974, L1000, L1461, L10000, L18498, L1000000, bd_s, lt_d, gd_n, i10, if_false, x_in_n hv2, if_true, x_fails]
  · refine op_th h (e := 0) (c := nI 1) (b := nI 0) ?_ rfl (by decide) ?_
    · unfold f_X11_link
      rw [y_has_n hv1 e5]
      simp (disch := omega) only [L0, L1, L2, L3, L4, L5, L6, L7, L8, L9, L10, L11, L12, L13, L14, L15, L16, L17, L18, L19, L20, L21, L22, L23, L24, L25, L26, L27, L28, L29, L30, L31, L32, L47, L48, L50, L51, L57, L59, L90, L97, L100, L120, L122, L127, L179, L187, L199, L200, L487, L974, L1000, L1461, L10000, L18498, L1000000, bd_s, lt_d, gd_n, if_true]
    · unfold f_X12_link
      rw [x_isLink_n w4 hv1 w3]
      simp (disch := omega) only [L0, L1, L2, L3, L4, L5, L6, L7, L8, L9, L10, L11, L12, L13, L14, L15, L16, L17, L18, L19, L20, L21, L22, L23, L24, L25, L26, L27, L28, L29, L30, L31, L32, L47, L48, L50, L51, L57, L59, L90, L97, L100, L120, L122, L127, L179, L187, L199, L200, L487, L974, L1000, L1461, L10000, L18498, L1000000, bd_s, lt_d, gd_n, if_true, x_fails]
theorem op_port (h : Inv m) (v1 v3 : Int32) (e : Nat) (he : e < 2) : OPv (f_X11_port v1 (nI e) v3) (f_X12_port v1 (nI e) v3) cdIA m := by
  obtain ⟨⟨B, T, hW⟩, hR, -⟩ := id h
  have w3 := hW.2.2.2.1
  have w4 := hW.2.2.2.2.1
  have e5 := (rd_total hR).trans w3
  rcases rngT v1 T (by omega) with ⟨l, hl, rfl⟩ | hv1
  · rcases rng v3 0 2 (by decide) (by decide) with ⟨w, -, hw, rfl⟩ | hv2
    · refine op_ro h (v := m.1 129 (199 + 18 * l + (8 + 3 * e + w))) ?_ (fun x => ?_)
      · unfold f_X11_port
        rw [y_has_y hl w4 e5]
        have h1 : e = 0 ∨ e = 1 := by omega
        have h2 : w = 0 ∨ w = 1 ∨ w = 2 := by omega
        rcases h1 with rfl | rfl <;> rcases h2 with rfl | rfl | rfl <;> simp (disch := omega) only [L0, L1, L2, L3, L4, L5, L6, L7, L8, L9, L10, L11, L12, L13, L14, L15, L16, L17, L18, L19, L20, L21, L22, L23, L24, L25, L26, L27, L28, L29, L30, L31, L32, L47, L48, L50, L51, L57, L59, L90, L97, L100, L120, L122, L127, L179, L187, L199, L200, L487, L974, L1000, L1461, L10000, L18498, L1000000, nI_add, pk_mul, nI_cl, nI_lts, nI_les, nI_eqs, Ln1, n1_ne, n1_ne', n1_lts, nI_ltn, n1_les, nI_len, bd_s, lt_d, gd_n, y_out_n, if_true, i10, if_false, reduceIte, Nat.reduceEqDiff, Nat.one_ne_zero, Nat.succ_ne_self, j_X11_port_58, rd_rolea hR w3 w4 hl, rd_stata hR w3 w4 hl, rd_timra hR w3 w4 hl, rd_roleb hR w3 w4 hl, rd_statb hR w3 w4 hl, rd_timrb hR w3 w4 hl, Nat.reduceAdd, Nat.reduceMul, Nat.succ_ne_zero]
      · unfold f_X12_port
        rw [x_isLink_y (m := wJ m 137 0 x) hl w4 w3]
        have h1 : e = 0 ∨ e = 1 := by omega
        rcases h1 with rfl | rfl <;> simp (disch := omega) only [L0, L1, L2, L3, L4, L5, L6, L7, L8, L9, L10, L11, L12, L13, L14, L15, L16, L17, L18, L19, L20, L21, L22, L23, L24, L25, L26, L27, L28, L29, L30, L31, L32, L47, L48, L50, L51, L57, L59, L90, L97, L100, L120, L122, L127, L179, L187, L199, L200, L487, L974, L1000, L1461, L10000, L18498, L1000000, nI_add, pk_mul, nI_cl, nI_lts, nI_les, nI_eqs, Ln1, n1_ne, n1_ne', n1_lts, nI_ltn, n1_les, nI_len, bd_s, lt_d, gd_n, i10, if_false, if_true, x_inn, j_X12_port_37, x_of, x_tells, Nat.one_ne_zero] <;> rfl
    · refine op_th h (e := 1) (c := nI 2) (b := nI 0) ?_ rfl (by decide) ?_
      · unfold f_X11_port
        rw [y_has_y hl w4 e5]
        simp (disch := omega) only [L0, L1, L2, L3, L4, L5, L6, L7, L8, L9, L10, L11, L12, L13, L14, L15, L16, L17, L18, L19, L20, L21, L22, L23, L24, L25, L26, L27, L28, L29, L30, L31, L32, L47, L48, L50, L51, L57, L59, L90, L97, L100, L120, L122, L127, L179, L187, L199, L200, L487, L974, L1000, L1461, L10000, L18498, L1000000, bd_s, lt_d, gd_n, y_out_y hv2, if_true, i10, if_false]
      · unfold f_X12_port
        rw [x_isLink_y hl w4 w3]
        simp (disch := omega) only [L0, L1, L2, L3, L4, L5, L6, L7, L8, L9, L10, L11, L12, L13, L14, L15, L16, L17, L18, L19, L20, L21, L22, L23, L24, L25, L26, L27, L28, L29, L30, L31, L32, L47, L48, L50, L51, L57, L59, L90, L97, L100, L120, L122, L127, L179, L187, L199, L200, L487, L974, L1000, L1461, L10000, L18498, L1000000, bd_s, lt_d, gd_n, i10, if_false, x_in_n hv2, if_true, x_fails]
  · refine op_th h (e := 0) (c := nI 1) (b := nI 0) ?_ rfl (by decide) ?_
    · unfold f_X11_port
      rw [y_has_n hv1 e5]
      simp (disch := omega) only [L0, L1, L2, L3, L4, L5, L6, L7, L8, L9, L10, L11, L12, L13, L14, L15, L16, L17, L18, L19, L20, L21, L22, L23, L24, L25, L26, L27, L28, L29, L30, L31, L32, L47, L48, L50, L51, L57, L59, L90, L97, L100, L120, L122, L127, L179, L187, L199, L200, L487, L974, L1000, L1461, L10000, L18498, L1000000, bd_s, lt_d, gd_n, if_true]
    · unfold f_X12_port
      rw [x_isLink_n w4 hv1 w3]
      simp (disch := omega) only [L0, L1, L2, L3, L4, L5, L6, L7, L8, L9, L10, L11, L12, L13, L14, L15, L16, L17, L18, L19, L20, L21, L22, L23, L24, L25, L26, L27, L28, L29, L30, L31, L32, L47, L48, L50, L51, L57, L59, L90, L97, L100, L120, L122, L127, L179, L187, L199, L200, L487, L974, L1000, L1461, L10000, L18498, L1000000, bd_s, lt_d, gd_n, if_true, x_fails]
/-- the valid entry -/
def ev1 (S : Nat → Int32) (b h : Nat) : Int32 := if S (51 + 16 * b + 2 * h) = n1 then n1 else if nI 50 < S 1 - S (51 + 16 * b + 2 * h + 1) then n1 else S (51 + 16 * b + 2 * h)
theorem x_entryOf {b k : Nat} (hb : b < 8) (hk : k < 8) : f_X12_entryOf (nI b) (nI k) m = some (ev1 (m.1 129) b k, m) := by
  unfold f_X12_entryOf ev1
  simp (disch := omega) only [L0, L1, L2, L3, L4, L5, L6, L7, L8, L9, L10, L11, L12, L13, L14, L15, L16, L17, L18, L19, L20, L21, L22, L23, L24, L25, L26, L27, L28, L29, L30, L31, L32, L47, L48, L50, L51, L57, L59, L90, L97, L100, L120, L122, L127, L179, L187, L199, L200, L487, L974, L1000, L1461, L10000, L18498, L1000000, nI_add, pk_mul, nI_cl, nI_lts, nI_les, nI_eqs, Ln1, n1_ne, n1_ne', n1_lts, nI_ltn, n1_les, nI_len, bd_s, lt_d, gd_n]
  by_cases h1 : m.1 129 (51 + 16 * b + 2 * k) = n1
  · rw [ifp h1, ifp h1]
  · rw [ifn h1, ifn h1]
    by_cases h2 : nI 50 < m.1 129 1 - m.1 129 (51 + 16 * b + 2 * k + 1)
    · rw [ifp h2, ifp h2]
    · rw [ifn h2, ifn h2]
theorem y_entryOf {b k : Nat} (hR : RN m 1 S) (hb : b < 8) (hk : k < 8) : f_X1_validEntry (nI b) (nI k) (S 1) m = some (ev1 S b k, m) := by
  unfold f_X1_validEntry ev1
  have e8 : b * 8 = 8 * b := Nat.mul_comm _ _
  simp (disch := omega) only [L0, L1, L2, L3, L4, L5, L6, L7, L8, L9, L10, L11, L12, L13, L14, L15, L16, L17, L18, L19, L20, L21, L22, L23, L24, L25, L26, L27, L28, L29, L30, L31, L32, L47, L48, L50, L51, L57, L59, L90, L97, L100, L120, L122, L127, L179, L187, L199, L200, L487, L974, L1000, L1461, L10000, L18498, L1000000, nI_add, pk_mul, nI_cl, nI_lts, nI_les, nI_eqs, Ln1, n1_ne, n1_ne', n1_lts, nI_ltn, n1_les, nI_len, bd_s, lt_d, gd_n, e8, rd_via hR hb hk]
  by_cases h1 : S (51 + 16 * b + 2 * k) = n1
  · rw [ifp h1, h1]
    by_cases h2 : nI 50 < S 1 - m.1 10 (8 * b + k)
    · rw [ifp h2]
    · rw [ifn h2]
  · rw [ifn h1, rd_made hR hb hk h1]
    by_cases h2 : nI 50 < S 1 - S (51 + 16 * b + 2 * k + 1)
    · rw [ifp h2, ifp h2]
    · rw [ifn h2, ifn h2]
theorem y_faultOfMove_n {v1 v2 : Int32} (hB : 2 ≤ B) (e0 : m.1 1 0 = nI B) (h : (v1 < nI 0 ∨ nI 7 < v1) ∨ (v2 < nI 0 ∨ nI (B - 1) < v2)) : f_X4_faultOfMove v1 v2 m = some (nI 1, m) := by
  unfold f_X4_faultOfMove
  by_cases h1 : v1 < nI 0 ∨ nI 7 < v1
  · simp (disch := omega) only [L0, L1, L2, L3, L4, L5, L6, L7, L8, L9, L10, L11, L12, L13, L14, L15, L16, L17, L18, L19, L20, L21, L22, L23, L24, L25, L26, L27, L28, L29, L30, L31, L32, L47, L48, L50, L51, L57, L59, L90, L97, L100, L120, L122, L127, L179, L187, L199, L200, L487, L974, L1000, L1461, L10000, L18498, L1000000, bd_s, lt_d, gd_n, y_out_y h1, i10, if_false, j_X4_faultOfMove_28, j_X4_faultOfMove_29, if_true]
  · have h2 := h.resolve_left h1
    obtain ⟨k, -, hk, rfl⟩ := (rng v1 0 7 (by decide) (by decide)).resolve_right h1
    simp (disch := omega) only [L0, L1, L2, L3, L4, L5, L6, L7, L8, L9, L10, L11, L12, L13, L14, L15, L16, L17, L18, L19, L20, L21, L22, L23, L24, L25, L26, L27, L28, L29, L30, L31, L32, L47, L48, L50, L51, L57, L59, L90, L97, L100, L120, L122, L127, L179, L187, L199, L200, L487, L974, L1000, L1461, L10000, L18498, L1000000, bd_s, lt_d, gd_n, y_out_n, if_true, e0, nI_sbs, y_out_y h2, i10, if_false, j_X4_faultOfMove_28, j_X4_faultOfMove_29]
theorem y_faultOfMove_y {k b : Nat} (hB : 2 ≤ B) (hB8 : B ≤ 8) (e0 : m.1 1 0 = nI B) (hk : k ≤ 7) (hb : b < B) : f_X4_faultOfMove (nI k) (nI b) m = some (nI 0, m) := by
  unfold f_X4_faultOfMove
  simp (disch := omega) only [L0, L1, L2, L3, L4, L5, L6, L7, L8, L9, L10, L11, L12, L13, L14, L15, L16, L17, L18, L19, L20, L21, L22, L23, L24, L25, L26, L27, L28, L29, L30, L31, L32, L47, L48, L50, L51, L57, L59, L90, L97, L100, L120, L122, L127, L179, L187, L199, L200, L487, L974, L1000, L1461, L10000, L18498, L1000000, bd_s, lt_d, gd_n, y_out_n, if_true, e0, nI_sbs, i10, if_false, j_X4_faultOfMove_28, j_X4_faultOfMove_29]
theorem y_throw0 : f_X11_throwFor (nI 0) m = some (.inl (), m) := rfl
theorem y_throw1 : f_X11_throwFor (nI 1) m = some (.inr 0, m) := rfl
theorem y_throw2 : f_X11_throwFor (nI 2) m = some (.inr 1, m) := rfl
theorem y_throw3 : f_X11_throwFor (nI 3) m = some (.inr 2, m) := rfl
theorem trl {R β : Type} {v : R} {k : R → Option β} {kx : Nat → Option β} : tr (.inl v) k kx = k v := rfl
theorem trr {R β : Type} {e : Nat} {k : R → Option β} {kx : Nat → Option β} : tr (.inr e) k kx = kx e := rfl
theorem op_entry (h : Inv m) (v1 v2 : Int32) : OPv (f_X11_entry v1 v2) (f_X12_entry v1 v2) cdI m := by
  obtain ⟨⟨B, T, hW⟩, hR, -⟩ := id h
  have e0 := (rd_size hR).trans hW.1
  have hB := hW.2.1
  have hB8 := hW.2.2.1
  by_cases h1 : v1 < nI 0 ∨ nI (B - 1) < v1
  · refine op_th h (e := 0) (c := nI 1) (b := nI 0) ?_ rfl (by decide) ?_
    · unfold f_X11_entry
      rw [y_faultOfMove_n hB e0 (Or.inr h1)]
      rfl
    · unfold f_X12_entry
      rw [x_isBridge_n hB h1 hW.1]
      rfl
  · obtain ⟨b, -, hb, rfl⟩ := (rng v1 0 (B - 1) (by omega) (by omega)).resolve_right h1
    by_cases h2 : v2 < nI 0 ∨ nI 7 < v2
    · refine op_th h (e := 0) (c := nI 1) (b := nI 0) ?_ rfl (by decide) ?_
      · unfold f_X11_entry
        rw [y_faultOfMove_n hB e0 (Or.inl h2)]
        rfl
      · unfold f_X12_entry
        rw [x_isBridge_y (show b < B by omega) hB8 hW.1]
        simp only [L0, L1, L2, L3, L4, L5, L6, L7, L8, L9, L10, L11, L12, L13, L14, L15, L16, L17, L18, L19, L20, L21, L22, L23, L24, L25, L26, L27, L28, L29, L30, L31, L32, L47, L48, L50, L51, L57, L59, L90, L97, L100, L120, L122, L127, L179, L187, L199, L200, L487, L974, L1000, L1461, L10000, L18498, L1000000, bd_s, lt_d, gd_n, i10, if_false, x_isHost_n h2, if_true, j_X12_entry_28, x_fails]
    · obtain ⟨k, -, hk, rfl⟩ := (rng v2 0 7 (by omega) (by omega)).resolve_right h2
      refine op_ro h (v := ev1 (m.1 129) b k) ?_ (fun x => ?_)
      · unfold f_X11_entry
        rw [y_faultOfMove_y hB hB8 e0 hk (show b < B by omega)]
        simp (disch := omega) only [bd_s, y_throw0, trl, rd_clock hR, y_entryOf hR (show b < 8 by omega) (show k < 8 by omega)]
      · unfold f_X12_entry
        rw [x_isBridge_y (m := wJ m 137 0 x) (show b < B by omega) hB8 hW.1]
        simp (disch := omega) only [L0, L1, L2, L3, L4, L5, L6, L7, L8, L9, L10, L11, L12, L13, L14, L15, L16, L17, L18, L19, L20, L21, L22, L23, L24, L25, L26, L27, L28, L29, L30, L31, L32, L47, L48, L50, L51, L57, L59, L90, L97, L100, L120, L122, L127, L179, L187, L199, L200, L487, L974, L1000, L1461, L10000, L18498, L1000000, bd_s, lt_d, gd_n, i10, if_false, x_isHost_y, x_entryOf, x_tells]
        rfl
end PT2
