/-! The calls that tell. -/
def cnt (p : Nat → Bool) : Nat → Nat
  | 0 => 0
  | n + 1 => cnt p n + (if p n = true then 1 else 0)
def bI (b : Bool) : Int32 := if b = true then nI 1 else nI 0
theorem cnt_le (p : Nat → Bool) : ∀ n, cnt p n ≤ n
  | 0 => Nat.le_refl 0
  | n + 1 => by
    have := cnt_le p n
    unfold cnt
    split <;> omega
theorem cnt_t {p : Nat → Bool} {n : Nat} (h : p n = true) : cnt p (n + 1) = cnt p n + 1 := by rw [cnt, if_pos h]
theorem cnt_f {p : Nat → Bool} {n : Nat} (h : p n = false) : cnt p (n + 1) = cnt p n := by rw [cnt, if_neg (by rw [h]; decide), Nat.add_zero]
theorem cnt_cg {p q : Nat → Bool} : ∀ {n : Nat}, (∀ k, k < n → p k = q k) → cnt p n = cnt q n
  | 0, _ => rfl
  | n + 1, h => by rw [cnt, cnt, cnt_cg (fun k hk => h k (by omega)), h n (by omega)]
/-- a link carries frames -/
def ca (S : Nat → Int32) (l : Nat) : Bool := decide (S (199 + 18 * l + 4) = nI 1) && (decide (S (199 + 18 * l + 9) = nI 3) && decide (S (199 + 18 * l + 12) = nI 3))
section PT
variable {m : me} {S : Nat → Int32} {B T : Nat}
theorem bI_t : bI true = nI 1 := rfl
theorem bI_f : bI false = nI 0 := rfl
theorem x_carries {l : Nat} (hl : l < 16) : f_X12_carries (nI l) m = some (bI (ca (m.1 129) l), m) := by
  unfold f_X12_carries ca
  simp (disch := omega) only [L0, L1, L2, L3, L4, L5, L6, L7, L8, L9, L10, L11, L12, L13, L14, L15, L16, L17, L18, L19, L20, L21, L22, L23, L24, L25, L26, L27, L28, L29, L30, L31, L32, L47, L48, L50, L51, L57, L59, L90, L97, L100, L120, L122, L127, L179, L187, L199, L200, L487, L974, L1000, L1461, L10000, L18498, L1000000, bd_s, lt_d, gd_n, x_of]
  by_cases h1 : m.1 129 (199 + 18 * l + 4) = nI 1
  · rw [ifp h1, decide_eq_true h1]
    by_cases h2 : m.1 129 (199 + 18 * l + 9) = nI 3
    · rw [ifp h2, decide_eq_true h2]
      by_cases h3 : m.1 129 (199 + 18 * l + 12) = nI 3
      · rw [ifp h3, decide_eq_true h3]; rfl
      · rw [ifn h3, decide_eq_false h3]; rfl
    · rw [ifn h2, decide_eq_false h2]; rfl
  · rw [ifn h1, decide_eq_false h1]; rfl
theorem y_carries {l : Nat} (hW : WT B T S) (hR : RN m 1 S) (hl : l < T) : f_X3_carries (nI l) m = some (bI (ca S l), m) := by
  obtain ⟨w0, w1, w2, w3, w4, w5, w6, w7, w8, w9, w10⟩ := hW
  obtain ⟨a, b, g1, g2, g3, g4, g5, g6, g7, -⟩ := w9 l hl
  have e5 : m.1 11 0 = nI T := (rd_total hR).trans w3
  unfold f_X3_carries ca
  rw [y_has_y hl w4 e5, bd_s]
  simp (disch := omega) only [L0, L1, L2, L3, L4, L5, L6, L7, L8, L9, L10, L11, L12, L13, L14, L15, L16, L17, L18, L19, L20, L21, L22, L23, L24, L25, L26, L27, L28, L29, L30, L31, L32, L47, L48, L50, L51, L57, L59, L90, L97, L100, L120, L122, L127, L179, L187, L199, L200, L487, L974, L1000, L1461, L10000, L18498, L1000000, nI_add, pk_mul, nI_cl, nI_lts, nI_les, nI_eqs, Ln1, n1_ne, n1_ne', n1_lts, nI_ltn, n1_les, nI_len, bd_s, lt_d, gd_n, rd_up hR w3 w4 hl, rd_stata hR w3 w4 hl, rd_statb hR w3 w4 hl, i10, if_false]
  rcases g7 with g7 | g7
  · rw [g7, ifp rfl]; rfl
  · rw [g7, ifn (by decide)]
    by_cases h2 : S (199 + 18 * l + 9) = nI 3
    · rw [ifp h2, decide_eq_true h2]
      by_cases h3 : S (199 + 18 * l + 12) = nI 3
      · rw [ifp h3, decide_eq_true h3]; rfl
      · rw [ifn h3, decide_eq_false h3]; rfl
    · rw [ifn h2, decide_eq_false h2]; rfl
theorem y_carries_n {v : Int32} (hW : WT B T S) (hR : RN m 1 S) (hv : v < nI 0 ∨ nI T ≤ v) : f_X3_carries v m = some (nI 0, m) := by
  have e5 : m.1 11 0 = nI T := (rd_total hR).trans hW.2.2.2.1
  unfold f_X3_carries
  rw [y_has_n hv e5, bd_s]
  rfl
/-- an entry stands -/
def en1 (S : Nat → Int32) (b h : Nat) : Bool := !decide (S (51 + 16 * b + 2 * h) = n1)
theorem x_entries {b : Nat} (hb : b < 8) : f_X12_entries (nI b) m = some (nI (cnt (en1 (m.1 129) b) 8), m) := by
  unfold f_X12_entries
  have h := lo_gen (b := b_X12_entries_4 (nI b)) (fun k => (nI (cnt (en1 (m.1 129) b) k), nI k, m)) 8 (nI (cnt (en1 (m.1 129) b) 8), nI 8, m) (fun k hk => by
    unfold b_X12_entries_4
    have : ¬ 8 ≤ k := by omega
    simp (disch := omega) only [L0, L1, L2, L3, L4, L5, L6, L7, L8, L9, L10, L11, L12, L13, L14, L15, L16, L17, L18, L19, L20, L21, L22, L23, L24, L25, L26, L27, L28, L29, L30, L31, L32, L47, L48, L50, L51, L57, L59, L90, L97, L100, L120, L122, L127, L179, L187, L199, L200, L487, L974, L1000, L1461, L10000, L18498, L1000000, nI_add, pk_mul, nI_cl, nI_lts, nI_les, nI_eqs, Ln1, n1_ne, n1_ne', n1_lts, nI_ltn, n1_les, nI_len, bd_s, lt_d, gd_n, ifn this]
    by_cases h1 : m.1 129 (51 + 16 * b + 2 * k) = n1
    · have e : en1 (m.1 129) b k = false := by unfold en1; rw [decide_eq_true h1]; rfl
      rw [ifp h1, cnt_f e, Nat.add_zero]
    · have e : en1 (m.1 129) b k = true := by unfold en1; rw [decide_eq_false h1]; rfl
      rw [ifn h1, cnt_t e]) (by
    unfold b_X12_entries_4
    simp (disch := omega) only [L0, L1, L2, L3, L4, L5, L6, L7, L8, L9, L10, L11, L12, L13, L14, L15, L16, L17, L18, L19, L20, L21, L22, L23, L24, L25, L26, L27, L28, L29, L30, L31, L32, L47, L48, L50, L51, L57, L59, L90, L97, L100, L120, L122, L127, L179, L187, L199, L200, L487, L974, L1000, L1461, L10000, L18498, L1000000, nI_add, pk_mul, nI_cl, nI_lts, nI_les, nI_eqs, Ln1, n1_ne, n1_ne', n1_lts, nI_ltn, n1_les, nI_len, bd_s, lt_d, gd_n, if_true, Nat.le_refl]) (N := 2048) (by decide)
  simp only [cnt] at h
  simp only [L0, L1, L2, L3, L4, L5, L6, L7, L8, L9, L10, L11, L12, L13, L14, L15, L16, L17, L18, L19, L20, L21, L22, L23, L24, L25, L26, L27, L28, L29, L30, L31, L32, L47, L48, L50, L51, L57, L59, L90, L97, L100, L120, L122, L127, L179, L187, L199, L200, L487, L974, L1000, L1461, L10000, L18498, L1000000, h, bd_s, cnt]
theorem y_entries {b : Nat} (hR : RN m 1 S) (hb : b < 8) : f_X1_countEntries (nI b) m = some (nI (cnt (en1 S b) 8), m) := by
  unfold f_X1_countEntries
  have h := lo_gen (b := b_X1_countEntries_4 (nI b)) (fun k => (nI (cnt (en1 S b) k), nI k, m)) 8 (nI (cnt (en1 S b) 8), nI 8, m) (fun k hk => by
    unfold b_X1_countEntries_4
    have : ¬ 8 ≤ k := by omega
    have e8 : b * 8 = 8 * b := Nat.mul_comm _ _
    simp (disch := omega) only [L0, L1, L2, L3, L4, L5, L6, L7, L8, L9, L10, L11, L12, L13, L14, L15, L16, L17, L18, L19, L20, L21, L22, L23, L24, L25, L26, L27, L28, L29, L30, L31, L32, L47, L48, L50, L51, L57, L59, L90, L97, L100, L120, L122, L127, L179, L187, L199, L200, L487, L974, L1000, L1461, L10000, L18498, L1000000, nI_add, pk_mul, nI_cl, nI_lts, nI_les, nI_eqs, Ln1, n1_ne, n1_ne', n1_lts, nI_ltn, n1_les, nI_len, bd_s, lt_d, gd_n, ifn this, e8, rd_via hR hb hk]
    by_cases h1 : S (51 + 16 * b + 2 * k) = n1
    · have e : en1 S b k = false := by unfold en1; rw [decide_eq_true h1]; rfl
      rw [ifp h1, cnt_f e]
    · have e : en1 S b k = true := by unfold en1; rw [decide_eq_false h1]; rfl
      rw [ifn h1, cnt_t e]) (by
    unfold b_X1_countEntries_4
    simp (disch := omega) only [L0, L1, L2, L3, L4, L5, L6, L7, L8, L9, L10, L11, L12, L13, L14, L15, L16, L17, L18, L19, L20, L21, L22, L23, L24, L25, L26, L27, L28, L29, L30, L31, L32, L47, L48, L50, L51, L57, L59, L90, L97, L100, L120, L122, L127, L179, L187, L199, L200, L487, L974, L1000, L1461, L10000, L18498, L1000000, nI_add, pk_mul, nI_cl, nI_lts, nI_les, nI_eqs, Ln1, n1_ne, n1_ne', n1_lts, nI_ltn, n1_les, nI_len, bd_s, lt_d, gd_n, if_true, Nat.le_refl]) (N := 2048) (by decide)
  simp only [cnt] at h
  simp only [L0, L1, L2, L3, L4, L5, L6, L7, L8, L9, L10, L11, L12, L13, L14, L15, L16, L17, L18, L19, L20, L21, L22, L23, L24, L25, L26, L27, L28, L29, L30, L31, L32, L47, L48, L50, L51, L57, L59, L90, L97, L100, L120, L122, L127, L179, L187, L199, L200, L487, L974, L1000, L1461, L10000, L18498, L1000000, h, bd_s, cnt]
/-- the values of a bridge -/
def bv (S : Nat → Int32) (b w : Nat) : Int32 := if w = 0 then nI 10 * S (11 + 5 * b) + nI b else if w = 5 then nI (cnt (en1 S b) 8) else S (11 + 5 * b + w)
theorem x_bridgeValue {b w : Nat} (hb : b < 8) (hw : w ≤ 5) : f_X12_bridgeValue (nI b) (nI w) m = some (bv (m.1 129) b w, m) := by
  unfold f_X12_bridgeValue bv
  simp (disch := omega) only [L0, L1, L2, L3, L4, L5, L6, L7, L8, L9, L10, L11, L12, L13, L14, L15, L16, L17, L18, L19, L20, L21, L22, L23, L24, L25, L26, L27, L28, L29, L30, L31, L32, L47, L48, L50, L51, L57, L59, L90, L97, L100, L120, L122, L127, L179, L187, L199, L200, L487, L974, L1000, L1461, L10000, L18498, L1000000, nI_add, pk_mul, nI_cl, nI_lts, nI_les, nI_eqs, Ln1, n1_ne, n1_ne', n1_lts, nI_ltn, n1_les, nI_len, bd_s, lt_d, gd_n, x_idOf, x_entries]
  by_cases h0 : w = 0
  · rw [ifp h0, ifp h0]
  · rw [ifn h0, ifn h0]
    by_cases h5 : w = 5
    · rw [ifp h5, ifp h5]
    · rw [ifn h5, ifn h5]
theorem y_idOf {b : Nat} (hR : RN m 1 S) (hb : b < 8) : f_X1_idOf (nI b) m = some (nI 10 * S (11 + 5 * b) + nI b, m) := by
  unfold f_X1_idOf
  simp (disch := omega) only [L0, L1, L2, L3, L4, L5, L6, L7, L8, L9, L10, L11, L12, L13, L14, L15, L16, L17, L18, L19, L20, L21, L22, L23, L24, L25, L26, L27, L28, L29, L30, L31, L32, L47, L48, L50, L51, L57, L59, L90, L97, L100, L120, L122, L127, L179, L187, L199, L200, L487, L974, L1000, L1461, L10000, L18498, L1000000, nI_add, pk_mul, nI_cl, nI_lts, nI_les, nI_eqs, Ln1, n1_ne, n1_ne', n1_lts, nI_ltn, n1_les, nI_len, bd_s, lt_d, gd_n, rd_prio hR hb]
theorem y_bvalue {b w : Nat} (hR : RN m 1 S) (hb : b < 8) (hw : w ≤ 5) : f_X1_valueOf (nI b) (nI w) m = some (bv S b w, m) := by
  unfold f_X1_valueOf bv
  have : w = 0 ∨ w = 1 ∨ w = 2 ∨ w = 3 ∨ w = 4 ∨ w = 5 := by omega
  rcases this with rfl | rfl | rfl | rfl | rfl | rfl <;> simp (disch := omega) only [L0, L1, L2, L3, L4, L5, L6, L7, L8, L9, L10, L11, L12, L13, L14, L15, L16, L17, L18, L19, L20, L21, L22, L23, L24, L25, L26, L27, L28, L29, L30, L31, L32, L47, L48, L50, L51, L57, L59, L90, L97, L100, L120, L122, L127, L179, L187, L199, L200, L487, L974, L1000, L1461, L10000, L18498, L1000000, nI_add, pk_mul, nI_cl, nI_lts, nI_les, nI_eqs, Ln1, n1_ne, n1_ne', n1_lts, nI_ltn, n1_les, nI_len, bd_s, lt_d, gd_n, y_idOf hR hb, y_entries hR hb, rd_root hR hb, rd_cost hR hb, rd_age hR hb, rd_rlk hR hb, reduceIte, Nat.reduceEqDiff, Nat.succ_ne_zero, Nat.add_zero, Nat.one_ne_zero, Nat.succ_ne_self]
theorem op_bridge (h : Inv m) (v1 v2 : Int32) : OPv (f_X11_bridge v1 v2) (f_X12_bridge v1 v2) cdIA m := by
  obtain ⟨⟨B, T, hW⟩, hR, -⟩ := id h
  have e0 := (rd_size hR).trans hW.1
  rcases rng v1 0 (B - 1) (by omega) (by have := hW.2.2.1; omega) with ⟨b, -, hb, rfl⟩ | hv1
  · have hbB : b < B := by have := hW.2.1; omega
    have hB := hW.2.2.1
    rcases rng v2 0 5 (by decide) (by decide) with ⟨w, -, hw, rfl⟩ | hv2
    · refine op_ro h (v := bv (m.1 129) b w) ?_ (fun x => ?_)
      · unfold f_X11_bridge
        simp (disch := omega) only [L0, L1, L2, L3, L4, L5, L6, L7, L8, L9, L10, L11, L12, L13, L14, L15, L16, L17, L18, L19, L20, L21, L22, L23, L24, L25, L26, L27, L28, L29, L30, L31, L32, L47, L48, L50, L51, L57, L59, L90, L97, L100, L120, L122, L127, L179, L187, L199, L200, L487, L974, L1000, L1461, L10000, L18498, L1000000, bd_s, lt_d, gd_n, e0, nI_sbs, y_out_n, y_bvalue hR (show b < 8 by omega) hw, if_true]
      · unfold f_X12_bridge
        rw [x_isBridge_y (m := wJ m 137 0 x) hbB hB hW.1]
        simp (disch := omega) only [L0, L1, L2, L3, L4, L5, L6, L7, L8, L9, L10, L11, L12, L13, L14, L15, L16, L17, L18, L19, L20, L21, L22, L23, L24, L25, L26, L27, L28, L29, L30, L31, L32, L47, L48, L50, L51, L57, L59, L90, L97, L100, L120, L122, L127, L179, L187, L199, L200, L487, L974, L1000, L1461, L10000, L18498, L1000000, bd_s, lt_d, gd_n, i10, if_false, x_inn, x_bridgeValue, x_tells]
        rfl
    · refine op_th h (e := 1) (c := nI 2) (b := nI 0) ?_ rfl (by decide) ?_
      · unfold f_X11_bridge
        simp (disch := omega) only [L0, L1, L2, L3, L4, L5, L6, L7, L8, L9, L10, L11, L12, L13, L14, L15, L16, L17, L18, L19, L20, L21, L22, L23, L24, L25, L26, L27, L28, L29, L30, L31, L32, L47, L48, L50, L51, L57, L59, L90, L97, L100, L120, L122, L127, L179, L187, L199, L200, L487, L974, L1000, L1461, L10000, L18498, L1000000, bd_s, lt_d, gd_n, e0, nI_sbs, y_out_n, y_out_y hv2, if_true, i10, if_false]
      · unfold f_X12_bridge
        rw [x_isBridge_y hbB hB hW.1]
        simp (disch := omega) only [L0, L1, L2, L3, L4, L5, L6, L7, L8, L9, L10, L11, L12, L13, L14, L15, L16, L17, L18, L19, L20, L21, L22, L23, L24, L25, L26, L27, L28, L29, L30, L31, L32, L47, L48, L50, L51, L57, L59, L90, L97, L100, L120, L122, L127, L179, L187, L199, L200, L487, L974, L1000, L1461, L10000, L18498, L1000000, bd_s, lt_d, gd_n, i10, if_false, x_in_n hv2, if_true, x_fails]
  · refine op_th h (e := 0) (c := nI 1) (b := nI 0) ?_ rfl (by decide) ?_
    · unfold f_X11_bridge
      have := hW.2.1
      simp (disch := omega) only [L0, L1, L2, L3, L4, L5, L6, L7, L8, L9, L10, L11, L12, L13, L14, L15, L16, L17, L18, L19, L20, L21, L22, L23, L24, L25, L26, L27, L28, L29, L30, L31, L32, L47, L48, L50, L51, L57, L59, L90, L97, L100, L120, L122, L127, L179, L187, L199, L200, L487, L974, L1000, L1461, L10000, L18498, L1000000, bd_s, lt_d, gd_n, e0, nI_sbs, y_out_y hv1, i10, if_false]
    · unfold f_X12_bridge
      rw [x_isBridge_n hW.2.1 hv1 hW.1]
      simp (disch := omega) only [L0, L1, L2, L3, L4, L5, L6, L7, L8, L9, L10, L11, L12, L13, L14, L15, L16, L17, L18, L19, L20, L21, L22, L23, L24, L25, L26, L27, L28, L29, L30, L31, L32, L47, L48, L50, L51, L57, L59, L90, L97, L100, L120, L122, L127, L179, L187, L199, L200, L487, L974, L1000, L1461, L10000, L18498, L1000000, bd_s, lt_d, gd_n, if_true, x_fails]
end PT
