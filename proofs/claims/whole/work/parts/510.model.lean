/-! The model's small methods, over its row. -/
section PM1
variable {m : me}
theorem x_in_y {v a b : Int32} (h1 : ¬ v < a) (h2 : ¬ b < v) : f_X12_in v a b m = some (nI 1, m) := by
  unfold f_X12_in; rw [if_neg h1, if_neg h2]; rfl
theorem x_in_n {v a b : Int32} (h : v < a ∨ b < v) : f_X12_in v a b m = some (nI 0, m) := by
  unfold f_X12_in
  by_cases h1 : v < a
  · rw [if_pos h1]; rfl
  · rw [if_neg h1, if_pos (h.resolve_left h1)]; rfl
theorem x_idOf {b : Nat} (hb : b < 8) : f_X12_idOf (nI b) m = some (nI 10 * m.1 129 (11 + 5 * b) + nI b, m) := by
  unfold f_X12_idOf
  simp (disch := omega) only [L0, L1, L2, L3, L4, L5, L6, L7, L8, L9, L10, L11, L12, L13, L14, L15, L16, L17, L18, L19, L20, L21, L22, L23, L24, L25, L26, L27, L28, L29, L30, L31, L32, L47, L48, L50, L51, L57, L59, L90, L97, L100, L120, L122, L127, L179, L187, L199, L200, L487, L974, L1000, L1461, L10000, L18498, L1000000, nI_add, pk_mul, nI_cl, nI_lts, nI_les, nI_eqs, Ln1, n1_ne, n1_ne', n1_lts, nI_ltn, n1_les, nI_len, bd_s, lt_d, gd_n]
theorem x_of {l k : Nat} (hl : l < 16) (hk : k < 18) : f_X12_of (nI l) (nI k) m = some (m.1 129 (199 + 18 * l + k), m) := by
  unfold f_X12_of
  simp (disch := omega) only [L0, L1, L2, L3, L4, L5, L6, L7, L8, L9, L10, L11, L12, L13, L14, L15, L16, L17, L18, L19, L20, L21, L22, L23, L24, L25, L26, L27, L28, L29, L30, L31, L32, L47, L48, L50, L51, L57, L59, L90, L97, L100, L120, L122, L127, L179, L187, L199, L200, L487, L974, L1000, L1461, L10000, L18498, L1000000, nI_add, pk_mul, nI_cl, nI_lts, nI_les, nI_eqs, Ln1, n1_ne, n1_ne', n1_lts, nI_ltn, n1_les, nI_len, bd_s, lt_d, gd_n]
theorem x_puts {l k : Nat} {v : Int32} (hl : l < 16) (hk : k < 18) : f_X12_puts (nI l) (nI k) v m = some (sR m 129 (upd (m.1 129) (199 + 18 * l + k) v)) := by
  unfold f_X12_puts
  simp (disch := omega) only [L0, L1, L2, L3, L4, L5, L6, L7, L8, L9, L10, L11, L12, L13, L14, L15, L16, L17, L18, L19, L20, L21, L22, L23, L24, L25, L26, L27, L28, L29, L30, L31, L32, L47, L48, L50, L51, L57, L59, L90, L97, L100, L120, L122, L127, L179, L187, L199, L200, L487, L974, L1000, L1461, L10000, L18498, L1000000, nI_add, pk_mul, nI_cl, nI_lts, nI_les, nI_eqs, Ln1, n1_ne, n1_ne', n1_lts, nI_ltn, n1_les, nI_len, bd_s, lt_d, gd_n, wI_sR, sR_get, sR_sR, sR_ne]
/-- a bridge's vector begins anew -/
def sSt (b : Nat) (S : Nat → Int32) : Nat → Int32 := upd (upd (upd (upd S (11 + 5 * b + 1) (nI 10 * S (11 + 5 * b) + nI b)) (11 + 5 * b + 2) (nI 0)) (11 + 5 * b + 3) (nI 0)) (11 + 5 * b + 4) n1
theorem x_startsAnew {b : Nat} (hb : b < 8) : f_X12_startsAnew (nI b) m = some (sR m 129 (sSt b (m.1 129))) := by
  unfold f_X12_startsAnew sSt
  simp (disch := omega) only [L0, L1, L2, L3, L4, L5, L6, L7, L8, L9, L10, L11, L12, L13, L14, L15, L16, L17, L18, L19, L20, L21, L22, L23, L24, L25, L26, L27, L28, L29, L30, L31, L32, L47, L48, L50, L51, L57, L59, L90, L97, L100, L120, L122, L127, L179, L187, L199, L200, L487, L974, L1000, L1461, L10000, L18498, L1000000, nI_add, pk_mul, nI_cl, nI_lts, nI_les, nI_eqs, Ln1, n1_ne, n1_ne', n1_lts, nI_ltn, n1_les, nI_len, bd_s, lt_d, gd_n, wI_sR, sR_get, sR_sR, sR_ne, x_idOf]
/-- a bridge's table is emptied -/
def sFl (b : Nat) (S : Nat → Int32) : Nat → Int32 := it (fun h S => upd S (51 + 16 * b + 2 * h) n1) 8 S
theorem x_flushes {b : Nat} (hb : b < 8) : f_X12_flushes (nI b) m = some (sR m 129 (sFl b (m.1 129))) := by
  unfold f_X12_flushes
  have h := lo_gen (b := b_X12_flushes_2 (nI b)) (fun k => (nI k, sR m 129 (it (fun h S => upd S (51 + 16 * b + 2 * h) n1) k (m.1 129)))) 8 (nI 8, sR m 129 (sFl b (m.1 129))) (fun k hk => by
    unfold b_X12_flushes_2
    have : ¬ 8 ≤ k := by omega
    simp (disch := omega) only [L0, L1, L2, L3, L4, L5, L6, L7, L8, L9, L10, L11, L12, L13, L14, L15, L16, L17, L18, L19, L20, L21, L22, L23, L24, L25, L26, L27, L28, L29, L30, L31, L32, L47, L48, L50, L51, L57, L59, L90, L97, L100, L120, L122, L127, L179, L187, L199, L200, L487, L974, L1000, L1461, L10000, L18498, L1000000, nI_add, pk_mul, nI_cl, nI_lts, nI_les, nI_eqs, Ln1, n1_ne, n1_ne', n1_lts, nI_ltn, n1_les, nI_len, bd_s, lt_d, gd_n, wI_sR, sR_get, sR_sR, sR_ne, if_neg this, it]) (by
    unfold b_X12_flushes_2
    simp (disch := omega) only [L0, L1, L2, L3, L4, L5, L6, L7, L8, L9, L10, L11, L12, L13, L14, L15, L16, L17, L18, L19, L20, L21, L22, L23, L24, L25, L26, L27, L28, L29, L30, L31, L32, L47, L48, L50, L51, L57, L59, L90, L97, L100, L120, L122, L127, L179, L187, L199, L200, L487, L974, L1000, L1461, L10000, L18498, L1000000, nI_add, pk_mul, nI_cl, nI_lts, nI_les, nI_eqs, Ln1, n1_ne, n1_ne', n1_lts, nI_ltn, n1_les, nI_len, bd_s, lt_d, gd_n, wI_sR, sR_get, sR_sR, sR_ne, sFl, if_true, Nat.le_refl]) (N := 2048) (by decide)
  simp only [it, sR_self] at h
  simp only [L0, L1, L2, L3, L4, L5, L6, L7, L8, L9, L10, L11, L12, L13, L14, L15, L16, L17, L18, L19, L20, L21, L22, L23, L24, L25, L26, L27, L28, L29, L30, L31, L32, L47, L48, L50, L51, L57, L59, L90, L97, L100, L120, L122, L127, L179, L187, L199, L200, L487, L974, L1000, L1461, L10000, L18498, L1000000, h, bd_s]
theorem x_hold : f_X12_hold m = some (sR m 131 (mx 487 (m.1 129) (m.1 131))) := by
  unfold f_X12_hold
  have h := lo_gen (b := b_X12_hold_2) (fun k => (nI k, sR m 131 (mx k (m.1 129) (m.1 131)))) 487 (nI 487, sR m 131 (mx 487 (m.1 129) (m.1 131))) (fun k hk => by
    unfold b_X12_hold_2
    have : ¬ 487 ≤ k := by omega
    simp (disch := omega) only [L0, L1, L2, L3, L4, L5, L6, L7, L8, L9, L10, L11, L12, L13, L14, L15, L16, L17, L18, L19, L20, L21, L22, L23, L24, L25, L26, L27, L28, L29, L30, L31, L32, L47, L48, L50, L51, L57, L59, L90, L97, L100, L120, L122, L127, L179, L187, L199, L200, L487, L974, L1000, L1461, L10000, L18498, L1000000, nI_add, pk_mul, nI_cl, nI_lts, nI_les, nI_eqs, Ln1, n1_ne, n1_ne', n1_lts, nI_ltn, n1_les, nI_len, bd_s, lt_d, gd_n, wI_sR, sR_get, sR_sR, sR_ne, if_neg this, mx_s]) (by
    unfold b_X12_hold_2
    simp (disch := omega) only [L0, L1, L2, L3, L4, L5, L6, L7, L8, L9, L10, L11, L12, L13, L14, L15, L16, L17, L18, L19, L20, L21, L22, L23, L24, L25, L26, L27, L28, L29, L30, L31, L32, L47, L48, L50, L51, L57, L59, L90, L97, L100, L120, L122, L127, L179, L187, L199, L200, L487, L974, L1000, L1461, L10000, L18498, L1000000, nI_add, pk_mul, nI_cl, nI_lts, nI_les, nI_eqs, Ln1, n1_ne, n1_ne', n1_lts, nI_ltn, n1_les, nI_len, bd_s, lt_d, gd_n, wI_sR, sR_get, sR_sR, sR_ne, if_true, Nat.le_refl]) (N := 2048) (by decide)
  simp only [mx_0, sR_self] at h
  simp only [L0, L1, L2, L3, L4, L5, L6, L7, L8, L9, L10, L11, L12, L13, L14, L15, L16, L17, L18, L19, L20, L21, L22, L23, L24, L25, L26, L27, L28, L29, L30, L31, L32, L47, L48, L50, L51, L57, L59, L90, L97, L100, L120, L122, L127, L179, L187, L199, L200, L487, L974, L1000, L1461, L10000, L18498, L1000000, h, bd_s]
theorem x_tells {v : Int32} : f_X12_tells v m = some (v, sR m 128 (upd (m.1 128) 6 (nI 0))) := rfl
theorem x_fails {v : Int32} : f_X12_fails v m = some (nI 0, sR m 128 (upd (m.1 128) 6 v)) := rfl
end PM1
