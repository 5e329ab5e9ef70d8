/-! The model's past. -/
section PE
variable {m : me} {k : Nat}
/-- the first n places of the state at k are written -/
def ppn (P : Nat → Int32) (k : Nat) (A : Nat → Int32) (n : Nat) : Nat → Int32 := fun j => if 487 * k ≤ j ∧ j < 487 * k + n then A (j - 487 * k) else P j
theorem ppn_0 (P A : Nat → Int32) (k : Nat) : ppn P k A 0 = P := by funext j; unfold ppn; rw [if_neg (by omega)]
theorem ppn_s (P A : Nat → Int32) (k n : Nat) : upd (ppn P k A n) (487 * k + n) (A n) = ppn P k A (n + 1) := by
  funext j
  unfold upd ppn
  by_cases h : j = 487 * k + n
  · rw [if_pos h, if_pos (by omega)]
    rw [h, Nat.add_sub_cancel_left]
  · rw [if_neg h]
    by_cases h2 : 487 * k ≤ j ∧ j < 487 * k + n
    · rw [if_pos h2, if_pos (by omega)]
    · rw [if_neg h2, if_neg (by omega)]
theorem ppn_all (P A : Nat → Int32) (k : Nat) : ppn P k A 487 = ppt P k A := rfl
theorem psn_s (P : Nat → Int32) (n : Nat) (hn : n < 974) : upd (mx n (fun j => P (j + 487)) P) n (mx n (fun j => P (j + 487)) P (n + 487)) = mx (n + 1) (fun j => P (j + 487)) P := by
  have e : mx n (fun j => P (j + 487)) P (n + 487) = P (n + 487) := if_neg (by omega)
  rw [e]
  exact mx_s n (fun j => P (j + 487)) P
theorem x_ends49 {v : Int32} (hk : m.1 128 3 = nI k) (h3 : k < 3) : j_X12_ends_49 v m = some (v, sR (sR m 130 (ppt (m.1 130) k (m.1 131))) 128 (upd (upd (m.1 128) 3 (nI (k + 1))) 6 (nI 0))) := by
  unfold j_X12_ends_49
  have h := lo_gen (b := b_X12_ends_51 v) (fun n => (nI n, sR m 130 (ppn (m.1 130) k (m.1 131) n))) 487 (nI 487, sR m 130 (ppn (m.1 130) k (m.1 131) 487)) (fun n hn => by
    unfold b_X12_ends_51
    have : ¬ 487 ≤ n := by omega
    simp (disch := omega) only [L0, L1, L2, L3, L4, L5, L6, L7, L8, L9, L10, L11, L12, L13, L14, L15, L16, L17, L18, L19, L20, L21, L22, L23, L24, L25, L26, L27, L28, L29, L30, L31, L32, L47, L48, L50, L51, L57, L59, L90, L97, L100, L120, L122, L127, L179, L187, L199, L200, L487, L974, L1000, L1461, L10000, L18498, L1000000, nI_add, pk_mul, nI_cl, nI_lts, nI_les, nI_eqs, Ln1, n1_ne, n1_ne', n1_lts, nI_ltn, n1_les, nI_len, bd_s, lt_d, gd_n, wI_sR, sR_get, sR_sR, sR_ne, if_neg this, hk, ppn_s]) (by
    unfold b_X12_ends_51
    simp (disch := omega) only [L0, L1, L2, L3, L4, L5, L6, L7, L8, L9, L10, L11, L12, L13, L14, L15, L16, L17, L18, L19, L20, L21, L22, L23, L24, L25, L26, L27, L28, L29, L30, L31, L32, L47, L48, L50, L51, L57, L59, L90, L97, L100, L120, L122, L127, L179, L187, L199, L200, L487, L974, L1000, L1461, L10000, L18498, L1000000, nI_add, pk_mul, nI_cl, nI_lts, nI_les, nI_eqs, Ln1, n1_ne, n1_ne', n1_lts, nI_ltn, n1_les, nI_len, bd_s, lt_d, gd_n, wI_sR, sR_get, sR_sR, sR_ne, if_true, Nat.le_refl]) (N := 2048) (by decide)
  simp only [ppn_0, sR_self, ppn_all] at h
  simp (disch := decide) only [L0, L1, h, bd_s, lt_d, x_tells, wI_sR, sR_ne, sR_get, sR_sR, hk, nI_add]
theorem x_ends {v : Int32} (hk : m.1 128 3 = nI k) (h3 : k ≤ 3) : f_X12_ends v m = some (v, sR (sR m 130 (ppt (if k = 3 then psh (m.1 130) else m.1 130) (if k = 3 then 2 else k) (m.1 131))) 128 (upd (upd (m.1 128) 3 (nI (if k = 3 then 3 else k + 1))) 6 (nI 0))) := by
  unfold f_X12_ends
  by_cases hk3 : k = 3
  · subst hk3
    have h := lo_gen (b := b_X12_ends_10 v) (fun n => (nI n, sR m 130 (mx n (fun j => m.1 130 (j + 487)) (m.1 130)))) 974 (nI 974, sR m 130 (psh (m.1 130))) (fun n hn => by
      unfold b_X12_ends_10
      have : ¬ 974 ≤ n := by omega
      have e := psn_s (m.1 130) n hn
      simp (disch := omega) only [L0, L1, L2, L3, L4, L5, L6, L7, L8, L9, L10, L11, L12, L13, L14, L15, L16, L17, L18, L19, L20, L21, L22, L23, L24, L25, L26, L27, L28, L29, L30, L31, L32, L47, L48, L50, L51, L57, L59, L90, L97, L100, L120, L122, L127, L179, L187, L199, L200, L487, L974, L1000, L1461, L10000, L18498, L1000000, nI_add, pk_mul, nI_cl, nI_lts, nI_les, nI_eqs, Ln1, n1_ne, n1_ne', n1_lts, nI_ltn, n1_les, nI_len, bd_s, lt_d, gd_n, wI_sR, sR_get, sR_sR, sR_ne, if_neg this, e]) (by
      unfold b_X12_ends_10
      simp (disch := omega) only [L0, L1, L2, L3, L4, L5, L6, L7, L8, L9, L10, L11, L12, L13, L14, L15, L16, L17, L18, L19, L20, L21, L22, L23, L24, L25, L26, L27, L28, L29, L30, L31, L32, L47, L48, L50, L51, L57, L59, L90, L97, L100, L120, L122, L127, L179, L187, L199, L200, L487, L974, L1000, L1461, L10000, L18498, L1000000, nI_add, pk_mul, nI_cl, nI_lts, nI_les, nI_eqs, Ln1, n1_ne, n1_ne', n1_lts, nI_ltn, n1_les, nI_len, bd_s, lt_d, gd_n, wI_sR, sR_get, sR_sR, sR_ne, if_true, Nat.le_refl, psh]) (N := 2048) (by decide)
    simp only [mx_0, sR_self] at h
    have e2 : nI 3 - nI 1 = nI 2 := by decide
    have h9 := x_ends49 (m := sR (sR m 130 (psh (m.1 130))) 128 (upd (m.1 128) 3 (nI 2))) (v := v) (k := 2) (by rw [sR_get, upd_e]) (by decide)
    simp (disch := decide) only [L0, L1, L2, L3, L4, L5, L6, L7, L8, L9, L10, L11, L12, L13, L14, L15, L16, L17, L18, L19, L20, L21, L22, L23, L24, L25, L26, L27, L28, L29, L30, L31, L32, L47, L48, L50, L51, L57, L59, L90, L97, L100, L120, L122, L127, L179, L187, L199, L200, L487, L974, L1000, L1461, L10000, L18498, L1000000, hk, if_true, h, bd_s, lt_d, wI_sR, sR_ne, sR_get, e2, h9, reduceIte]
    refine congrArg some (congrArg (Prod.mk v) ?_)
    rw [sR_cm (show 128 ≠ 130 by decide), sR_sR, sR_sR]
    refine congrArg (sR _ 128) ?_
    funext j
    unfold upd
    by_cases h6 : j = 6
    · rw [if_pos h6, if_pos h6]
    · rw [if_neg h6, if_neg h6]
      by_cases h7 : j = 3
      · rw [if_pos h7, if_pos h7]
      · rw [if_neg h7, if_neg h7, if_neg h7]
  · rw [hk, L3, if_neg (by rw [nI_eqs (by omega) (by decide)]; exact hk3), x_ends49 hk (by omega), if_neg hk3, if_neg hk3, if_neg hk3]
theorem x_undo0 (hk : m.1 128 3 = nI 0) : f_X12_undo m = some (nI 0, sR m 128 (upd (m.1 128) 6 (nI 1))) := by
  unfold f_X12_undo
  simp only [L0, L1, L2, L3, L4, L5, L6, L7, L8, L9, L10, L11, L12, L13, L14, L15, L16, L17, L18, L19, L20, L21, L22, L23, L24, L25, L26, L27, L28, L29, L30, L31, L32, L47, L48, L50, L51, L57, L59, L90, L97, L100, L120, L122, L127, L179, L187, L199, L200, L487, L974, L1000, L1461, L10000, L18498, L1000000, hk, if_true, x_fails, bd_s]
theorem x_undo (hk : m.1 128 3 = nI (k + 1)) (h3 : k < 3) : f_X12_undo m = some (nI k, sR (sR m 129 (mx 487 (fun j => m.1 130 (487 * k + j)) (m.1 129))) 128 (upd (upd (m.1 128) 3 (nI k)) 6 (nI 0))) := by
  unfold f_X12_undo
  have e5 : nI (k + 1) - nI 1 = nI k := nI_sbs (by omega)
  have h := lo_gen (b := b_X12_undo_25) (fun n => (nI n, sR (sR m 128 (upd (m.1 128) 3 (nI k))) 129 (mx n (fun j => m.1 130 (487 * k + j)) (m.1 129)))) 487 (nI 487, sR (sR m 128 (upd (m.1 128) 3 (nI k))) 129 (mx 487 (fun j => m.1 130 (487 * k + j)) (m.1 129))) (fun n hn => by
    unfold b_X12_undo_25
    have : ¬ 487 ≤ n := by omega
    have e := mx_s n (fun j => m.1 130 (487 * k + j)) (m.1 129)
    simp (disch := omega) only [L0, L1, L2, L3, L4, L5, L6, L7, L8, L9, L10, L11, L12, L13, L14, L15, L16, L17, L18, L19, L20, L21, L22, L23, L24, L25, L26, L27, L28, L29, L30, L31, L32, L47, L48, L50, L51, L57, L59, L90, L97, L100, L120, L122, L127, L179, L187, L199, L200, L487, L974, L1000, L1461, L10000, L18498, L1000000, nI_add, pk_mul, nI_cl, nI_lts, nI_les, nI_eqs, Ln1, n1_ne, n1_ne', n1_lts, nI_ltn, n1_les, nI_len, bd_s, lt_d, gd_n, wI_sR, sR_get, sR_sR, sR_ne, if_neg this, upd_e, e]) (by
    unfold b_X12_undo_25
    simp (disch := omega) only [L0, L1, L2, L3, L4, L5, L6, L7, L8, L9, L10, L11, L12, L13, L14, L15, L16, L17, L18, L19, L20, L21, L22, L23, L24, L25, L26, L27, L28, L29, L30, L31, L32, L47, L48, L50, L51, L57, L59, L90, L97, L100, L120, L122, L127, L179, L187, L199, L200, L487, L974, L1000, L1461, L10000, L18498, L1000000, nI_add, pk_mul, nI_cl, nI_lts, nI_les, nI_eqs, Ln1, n1_ne, n1_ne', n1_lts, nI_ltn, n1_les, nI_len, bd_s, lt_d, gd_n, wI_sR, sR_get, sR_sR, sR_ne, if_true, Nat.le_refl]) (N := 2048) (by decide)
  have e6 : sR (sR m 128 (upd (m.1 128) 3 (nI k))) 129 (m.1 129) = sR m 128 (upd (m.1 128) 3 (nI k)) := by
    have := sR_self (sR m 128 (upd (m.1 128) 3 (nI k))) 129
    rw [sR_ne (by decide)] at this
    exact this
  simp only [mx_0, e6] at h
  rw [hk, L0, if_neg (by rw [nI_eqs (by omega) (by decide)]; omega)]
  simp (disch := decide) only [L0, L1, L2, L3, L4, L5, L6, L7, L8, L9, L10, L11, L12, L13, L14, L15, L16, L17, L18, L19, L20, L21, L22, L23, L24, L25, L26, L27, L28, L29, L30, L31, L32, L47, L48, L50, L51, L57, L59, L90, L97, L100, L120, L122, L127, L179, L187, L199, L200, L487, L974, L1000, L1461, L10000, L18498, L1000000, h, bd_s, lt_d, x_tells, wI_sR, sR_ne, sR_get, upd_e, e5]
  refine congrArg some (congrArg (Prod.mk (nI k)) ?_)
  rw [sR_cm (show 128 ≠ 129 by decide), sR_sR]
end PE
