/-! Auctions: the model's side. -/
section PAM
variable {M : me} {S : Nat → Int32} {B T : Nat}
theorem x_counts {l t : Nat} (hW : WT B T (M.1 129)) (hl : l < T) (ht : t < 4) : f_X12_counts (nI t) (nI l) M = some (bI (decide (0 < ofr (M.1 129) l t)), M) := by
  have w4 := hW.2.2.2.2.1
  obtain ⟨e1, e2⟩ := hW.bids hl ht
  unfold f_X12_counts
  simp (disch := omega) only [L0, L1, L2, L3, L4, L5, L6, L7, L8, L9, L10, L11, L12, L13, L14, L15, L16, L17, L18, L19, L20, L21, L22, L23, L24, L25, L26, L27, L28, L29, L30, L31, L32, L47, L48, L50, L51, L57, L59, L90, L97, L100, L120, L122, L127, L179, L187, L199, L200, L487, L974, L1000, L1461, L10000, L18498, L1000000, nI_add, pk_mul, nI_cl, nI_lts, nI_les, nI_eqs, Ln1, n1_ne, n1_ne', n1_lts, nI_ltn, n1_les, nI_len, bd_s, lt_d, gd_n, x_of]
  by_cases hc : M.1 129 (187 + 3 * t) < M.1 129 (199 + 18 * l + (14 + t))
  · have ho : ofr (M.1 129) l t = 0 := if_pos hc
    rw [ho, ifp hc, ite_self]
    rfl
  · have ho : ofr (M.1 129) l t = nv (M.1 129 (199 + 18 * l + (14 + t))) := if_neg hc
    rw [ho, ifn hc]
    by_cases h0 : nv (M.1 129 (199 + 18 * l + (14 + t))) ≤ 0
    · have h1 : M.1 129 (199 + 18 * l + (14 + t)) ≤ nI 0 := by
        rw [e1, nI_les (by omega) (by omega)]; exact h0
      rw [ifp h1, decide_eq_false (by omega)]; rfl
    · have h1 : ¬ M.1 129 (199 + 18 * l + (14 + t)) ≤ nI 0 := by
        rw [e1, nI_les (by omega) (by omega)]; exact h0
      rw [ifn h1, decide_eq_true (by omega)]; rfl
theorem enc_eq {k but : Nat} (hk : k < 4) (hb : but ≤ 4) : (nI k = encW but) = (k = but) := by
  by_cases h4 : but = 4
  · rw [h4, encW4, n1_ne' (by omega)]
    exact propext ⟨fun h => h.elim, fun h => by omega⟩
  · rw [encW_lt (by omega), nI_eqs (by omega) (by omega)]
theorem enc_n1 {w : Nat} (h : w = 4 ∨ w < 4) : (encW w = n1) = (w = 4) := by
  rcases h with h | h
  · rw [h, encW4]; exact propext ⟨fun _ => rfl, fun _ => rfl⟩
  · rw [encW_lt h, n1_ne' (by omega)]
    exact propext ⟨fun h => h.elim, fun h => by omega⟩
theorem ofr_pos {l t : Nat} (h : 0 < ofr S l t) : nv (S (199 + 18 * l + (14 + t))) = ofr S l t := by
  unfold ofr at h ⊢
  by_cases hc : S (187 + 3 * t) < S (199 + 18 * l + (14 + t))
  · rw [if_pos hc] at h; omega
  · rw [if_neg hc]
theorem x_greatest {l but : Nat} (hW : WT B T (M.1 129)) (hl : l < T) (hb : but ≤ 4) : f_X12_greatest (nI l) (encW but) M = some (encW (gt (ofr (M.1 129) l) but 4), M) := by
  have w4 := hW.2.2.2.2.1
  have h := lo_gen (b := b_X12_greatest_5 (nI l) (encW but)) (fun k => (encW (gt (ofr (M.1 129) l) but k), nI k, M)) 4 (encW (gt (ofr (M.1 129) l) but 4), nI 4, M) (fun k hk => by
    have hk4 : ¬ 4 ≤ k := by omega
    have hg := gtv (o := ofr (M.1 129) l) but k (by omega)
    have hg4 : gt (ofr (M.1 129) l) but k = 4 ∨ gt (ofr (M.1 129) l) but k < 4 := by rcases hg with ⟨g, -⟩ | ⟨g, -⟩ <;> omega
    unfold b_X12_greatest_5
    rw [gt]
    by_cases hkb : k = but
    · rw [if_pos hkb]
      simp (disch := omega) only [L0, L1, L2, L3, L4, L5, L6, L7, L8, L9, L10, L11, L12, L13, L14, L15, L16, L17, L18, L19, L20, L21, L22, L23, L24, L25, L26, L27, L28, L29, L30, L31, L32, L47, L48, L50, L51, L57, L59, L90, L97, L100, L120, L122, L127, L179, L187, L199, L200, L487, L974, L1000, L1461, L10000, L18498, L1000000, nI_add, pk_mul, nI_cl, nI_lts, nI_les, nI_eqs, Ln1, n1_ne, n1_ne', n1_lts, nI_ltn, n1_les, nI_len, bd_s, lt_d, gd_n, if_neg hk4, enc_eq hk hb, if_pos hkb]
    · rw [if_neg hkb]
      by_cases h0 : ofr (M.1 129) l k = 0
      · rw [if_pos h0]
        have e0 : decide (0 < ofr (M.1 129) l k) = false := decide_eq_false (by omega)
        simp (disch := omega) only [L0, L1, L2, L3, L4, L5, L6, L7, L8, L9, L10, L11, L12, L13, L14, L15, L16, L17, L18, L19, L20, L21, L22, L23, L24, L25, L26, L27, L28, L29, L30, L31, L32, L47, L48, L50, L51, L57, L59, L90, L97, L100, L120, L122, L127, L179, L187, L199, L200, L487, L974, L1000, L1461, L10000, L18498, L1000000, nI_add, pk_mul, nI_cl, nI_lts, nI_les, nI_eqs, Ln1, n1_ne, n1_ne', n1_lts, nI_ltn, n1_les, nI_len, bd_s, lt_d, gd_n, if_neg hk4, enc_eq hk hb, if_neg hkb, x_counts hW hl hk, e0, bI_f, if_true]
      · rw [if_neg h0]
        have e0 : decide (0 < ofr (M.1 129) l k) = true := decide_eq_true (by omega)
        by_cases h4 : gt (ofr (M.1 129) l) but k = 4
        · rw [if_pos h4, h4, encW4, encW_lt hk]
          simp (disch := omega) only [L0, L1, L2, L3, L4, L5, L6, L7, L8, L9, L10, L11, L12, L13, L14, L15, L16, L17, L18, L19, L20, L21, L22, L23, L24, L25, L26, L27, L28, L29, L30, L31, L32, L47, L48, L50, L51, L57, L59, L90, L97, L100, L120, L122, L127, L179, L187, L199, L200, L487, L974, L1000, L1461, L10000, L18498, L1000000, nI_add, pk_mul, nI_cl, nI_lts, nI_les, nI_eqs, Ln1, n1_ne, n1_ne', n1_lts, nI_ltn, n1_les, nI_len, bd_s, lt_d, gd_n, if_neg hk4, enc_eq hk hb, if_neg hkb, x_counts hW hl hk, e0, bI_t, i10, if_false, if_true, Nat.one_ne_zero]
        · rw [if_neg h4]
          have hlt : gt (ofr (M.1 129) l) but k < 4 := hg4.resolve_left h4
          obtain ⟨-, -, g3, g4⟩ := hg.resolve_left (fun g => h4 g.1)
          obtain ⟨p1, p2⟩ := hW.bids hl hk
          obtain ⟨q1, q2⟩ := hW.bids hl hlt
          have r1 := ofr_pos (S := M.1 129) (l := l) (t := k) (by omega)
          have r2 := ofr_pos (S := M.1 129) (l := l) (t := gt (ofr (M.1 129) l) but k) (by omega)
          rw [r1] at p1 p2
          rw [r2] at q1 q2
          rw [encW_lt hlt]
          by_cases hle : ofr (M.1 129) l k ≤ ofr (M.1 129) l (gt (ofr (M.1 129) l) but k)
          · rw [if_pos hle, encW_lt hlt]
            simp (disch := omega) only [L0, L1, L2, L3, L4, L5, L6, L7, L8, L9, L10, L11, L12, L13, L14, L15, L16, L17, L18, L19, L20, L21, L22, L23, L24, L25, L26, L27, L28, L29, L30, L31, L32, L47, L48, L50, L51, L57, L59, L90, L97, L100, L120, L122, L127, L179, L187, L199, L200, L487, L974, L1000, L1461, L10000, L18498, L1000000, nI_add, pk_mul, nI_cl, nI_lts, nI_les, nI_eqs, Ln1, n1_ne, n1_ne', n1_lts, nI_ltn, n1_les, nI_len, bd_s, lt_d, gd_n, if_neg hk4, enc_eq hk hb, if_neg hkb, x_counts hW hl hk, e0, bI_t, i10, if_false, x_of, p1, q1, if_pos hle, Nat.one_ne_zero]
          · rw [if_neg hle, encW_lt hk]
            simp (disch := omega) only [L0, L1, L2, L3, L4, L5, L6, L7, L8, L9, L10, L11, L12, L13, L14, L15, L16, L17, L18, L19, L20, L21, L22, L23, L24, L25, L26, L27, L28, L29, L30, L31, L32, L47, L48, L50, L51, L57, L59, L90, L97, L100, L120, L122, L127, L179, L187, L199, L200, L487, L974, L1000, L1461, L10000, L18498, L1000000, nI_add, pk_mul, nI_cl, nI_lts, nI_les, nI_eqs, Ln1, n1_ne, n1_ne', n1_lts, nI_ltn, n1_les, nI_len, bd_s, lt_d, gd_n, if_neg hk4, enc_eq hk hb, if_neg hkb, x_counts hW hl hk, e0, bI_t, i10, if_false, x_of, p1, q1, if_neg hle, Nat.one_ne_zero]) (by
    unfold b_X12_greatest_5
    simp (disch := omega) only [L0, L1, L2, L3, L4, L5, L6, L7, L8, L9, L10, L11, L12, L13, L14, L15, L16, L17, L18, L19, L20, L21, L22, L23, L24, L25, L26, L27, L28, L29, L30, L31, L32, L47, L48, L50, L51, L57, L59, L90, L97, L100, L120, L122, L127, L179, L187, L199, L200, L487, L974, L1000, L1461, L10000, L18498, L1000000, nI_add, pk_mul, nI_cl, nI_lts, nI_les, nI_eqs, Ln1, n1_ne, n1_ne', n1_lts, nI_ltn, n1_les, nI_len, bd_s, lt_d, gd_n, if_true, Nat.le_refl]) (N := 2048) (by decide)
  have h' : lo (b_X12_greatest_5 (nI l) (encW but)) 2048 (n1, nI 0, M) = _ := h
  unfold f_X12_greatest
  simp only [L0, L1, Ln1, h', bd_s]
theorem x_adj {l : Nat} {v : Int32} (hW : WT B T (M.1 129)) (hl : l < T) (hv : v = M.1 129 (199 + 18 * l + 6)) : j_X12_sells_122 (nI l) v M = some (sR M 129 (sAdj l (M.1 129))) := by
  have w4 := hW.2.2.2.2.1
  have hl16 : l < 16 := by omega
  obtain ⟨e2, e3, e6, e7, e4, c2, c3, c6, c7, c4⟩ := hW.cst hl
  rw [hv]
  unfold sAdj
  generalize nv (M.1 129 (199 + 18 * l + 2)) = a at *
  generalize nv (M.1 129 (199 + 18 * l + 3)) = c at *
  generalize nv (M.1 129 (199 + 18 * l + 6)) = p at *
  generalize nv (M.1 129 (199 + 18 * l + 7)) = k at *
  generalize nv (M.1 129 4) = h at *
  have hneg : -(nI (a + p) - nI c) = nI c - nI (a + p) := by rw [neg0, nsub]
  have u3 : ∀ x : Int32, upd (M.1 129) (199 + 18 * l + 3) x (199 + 18 * l + 7) = nI k := fun x => by rw [upd_n (by omega)]; exact e7
  unfold j_X12_sells_122 j_X12_sells_158 j_X12_sells_189 j_X12_sells_194 j_X12_sells_222 j_X12_sells_240
  by_cases hac : a + p = c
  · have x1 : adC (a + p) c h k = c := by unfold adC stk; rw [if_pos hac, if_neg (by omega)]
    have x2 : adK (a + p) c h k = 0 := by unfold adK stk; rw [if_pos hac, if_neg (by omega)]
    have n1 : ¬ h + c < a + p := by omega
    have n2 : ¬ h + (a + p) < c := by omega
    rw [x1, x2]
    simp (disch := omega) only [L0, L1, L2, L3, L4, L5, L6, L7, L8, L9, L10, L11, L12, L13, L14, L15, L16, L17, L18, L19, L20, L21, L22, L23, L24, L25, L26, L27, L28, L29, L30, L31, L32, L47, L48, L50, L51, L57, L59, L90, L97, L100, L120, L122, L127, L179, L187, L199, L200, L487, L974, L1000, L1461, L10000, L18498, L1000000, nI_add, pk_mul, nI_cl, nI_lts, nI_les, nI_eqs, Ln1, n1_ne, n1_ne', n1_lts, nI_ltn, n1_les, nI_len, bd_s, lt_d, gd_n, wI_sR, sR_get, sR_sR, sR_ne, x_of, x_puts, e2, e3, e6, e7, e4, sub0, lt_sb, hneg, if_pos hac, if_neg n1, if_neg n2, if_true, if_false, Nat.reduceEqDiff, Nat.succ_ne_zero, reduceIte]
  · have hst : stk (a + p) c k = k + 1 := by unfold stk; rw [if_neg hac]
    by_cases h1 : h + c < a + p
    · have x1 : adC (a + p) c h k = a + p := by unfold adC; rw [if_pos (Or.inl h1)]
      have x2 : adK (a + p) c h k = 0 := by unfold adK; rw [if_pos (Or.inl h1)]
      rw [x1, x2]
      simp (disch := omega) only [L0, L1, L2, L3, L4, L5, L6, L7, L8, L9, L10, L11, L12, L13, L14, L15, L16, L17, L18, L19, L20, L21, L22, L23, L24, L25, L26, L27, L28, L29, L30, L31, L32, L47, L48, L50, L51, L57, L59, L90, L97, L100, L120, L122, L127, L179, L187, L199, L200, L487, L974, L1000, L1461, L10000, L18498, L1000000, nI_add, pk_mul, nI_cl, nI_lts, nI_les, nI_eqs, Ln1, n1_ne, n1_ne', n1_lts, nI_ltn, n1_les, nI_len, bd_s, lt_d, gd_n, wI_sR, sR_get, sR_sR, sR_ne, x_of, x_puts, e2, e3, e6, e7, e4, sub0, lt_sb, hneg, if_neg hac, if_pos h1, if_true, if_false, Nat.one_ne_zero, i10]
    · by_cases h2 : h + (a + p) < c
      · have x1 : adC (a + p) c h k = a + p := by unfold adC; rw [if_pos (Or.inr (Or.inl h2))]
        have x2 : adK (a + p) c h k = 0 := by unfold adK; rw [if_pos (Or.inr (Or.inl h2))]
        rw [x1, x2]
        simp (disch := omega) only [L0, L1, L2, L3, L4, L5, L6, L7, L8, L9, L10, L11, L12, L13, L14, L15, L16, L17, L18, L19, L20, L21, L22, L23, L24, L25, L26, L27, L28, L29, L30, L31, L32, L47, L48, L50, L51, L57, L59, L90, L97, L100, L120, L122, L127, L179, L187, L199, L200, L487, L974, L1000, L1461, L10000, L18498, L1000000, nI_add, pk_mul, nI_cl, nI_lts, nI_les, nI_eqs, Ln1, n1_ne, n1_ne', n1_lts, nI_ltn, n1_les, nI_len, bd_s, lt_d, gd_n, wI_sR, sR_get, sR_sR, sR_ne, x_of, x_puts, e2, e3, e6, e7, e4, sub0, lt_sb, hneg, if_neg hac, if_neg h1, if_pos h2, if_true, if_false, Nat.one_ne_zero, i10]
      · by_cases h3 : k + 1 = 3
        · have x1 : adC (a + p) c h k = a + p := by unfold adC; rw [hst, if_pos (Or.inr (Or.inr h3))]
          have x2 : adK (a + p) c h k = 0 := by unfold adK; rw [hst, if_pos (Or.inr (Or.inr h3))]
          rw [x1, x2]
          simp (disch := omega) only [L0, L1, L2, L3, L4, L5, L6, L7, L8, L9, L10, L11, L12, L13, L14, L15, L16, L17, L18, L19, L20, L21, L22, L23, L24, L25, L26, L27, L28, L29, L30, L31, L32, L47, L48, L50, L51, L57, L59, L90, L97, L100, L120, L122, L127, L179, L187, L199, L200, L487, L974, L1000, L1461, L10000, L18498, L1000000, nI_add, pk_mul, nI_cl, nI_lts, nI_les, nI_eqs, Ln1, n1_ne, n1_ne', n1_lts, nI_ltn, n1_les, nI_len, bd_s, lt_d, gd_n, wI_sR, sR_get, sR_sR, sR_ne, x_of, x_puts, e2, e3, e6, e7, e4, sub0, lt_sb, hneg, if_neg hac, if_neg h1, if_neg h2, if_pos h3, if_true, if_false, Nat.one_ne_zero, i10]
        · have x1 : adC (a + p) c h k = c := by unfold adC; rw [hst, if_neg (by omega)]
          have x2 : adK (a + p) c h k = k + 1 := by unfold adK; rw [hst, if_neg (by omega)]
          rw [x1, x2]
          simp (disch := omega) only [L0, L1, L2, L3, L4, L5, L6, L7, L8, L9, L10, L11, L12, L13, L14, L15, L16, L17, L18, L19, L20, L21, L22, L23, L24, L25, L26, L27, L28, L29, L30, L31, L32, L47, L48, L50, L51, L57, L59, L90, L97, L100, L120, L122, L127, L179, L187, L199, L200, L487, L974, L1000, L1461, L10000, L18498, L1000000, nI_add, pk_mul, nI_cl, nI_lts, nI_les, nI_eqs, Ln1, n1_ne, n1_ne', n1_lts, nI_ltn, n1_les, nI_len, bd_s, lt_d, gd_n, wI_sR, sR_get, sR_sR, sR_ne, x_of, x_puts, e2, e3, e6, e7, e4, sub0, lt_sb, hneg, if_neg hac, if_neg h1, if_neg h2, if_neg h3, if_true, if_false, Nat.one_ne_zero, i10]
theorem x_sell64 {l : Nat} (hW : WT B T (M.1 129)) (hl : l < T) : j_X12_sells_64 (nI l) (encW (wS (M.1 129) l)) (if wS (M.1 129) l = 4 then nI 0 else nI (pS1 (ofr (M.1 129) l) (wS (M.1 129) l))) M = some (sR M 129 (sAdj l (sSell l (M.1 129)))) := by
  have w4 := hW.2.2.2.2.1
  have hl16 : l < 16 := by omega
  have hWs := hW.sell hl
  unfold j_X12_sells_64
  rcases wS_lt (S := M.1 129) l with h4 | h4
  · have hs : sSell l (M.1 129) = upd (upd (M.1 129) (199 + 18 * l + 5) n1) (199 + 18 * l + 6) (nI 0) := by unfold sSell; rw [if_pos h4]
    have hx := x_adj (M := sR M 129 (sSell l (M.1 129))) (l := l) (v := nI 0) (B := B) (T := T) (by rw [sR_get]; exact hWs) hl (by rw [sR_get, hs, upd_e])
    rw [sR_get, sR_sR] at hx
    rw [hs] at hx ⊢
    rw [h4, encW4, if_pos rfl]
    simp (disch := omega) only [L0, L1, L2, L3, L4, L5, L6, L7, L8, L9, L10, L11, L12, L13, L14, L15, L16, L17, L18, L19, L20, L21, L22, L23, L24, L25, L26, L27, L28, L29, L30, L31, L32, L47, L48, L50, L51, L57, L59, L90, L97, L100, L120, L122, L127, L179, L187, L199, L200, L487, L974, L1000, L1461, L10000, L18498, L1000000, nI_add, pk_mul, nI_cl, nI_lts, nI_les, nI_eqs, Ln1, n1_ne, n1_ne', n1_lts, nI_ltn, n1_les, nI_len, bd_s, lt_d, gd_n, wI_sR, sR_get, sR_sR, sR_ne, x_puts, if_true, hx]
  · have hs : sSell l (M.1 129) = upd (upd (upd (upd (M.1 129) (199 + 18 * l + 5) (nI (wS (M.1 129) l))) (199 + 18 * l + 6) (nI (pS1 (ofr (M.1 129) l) (wS (M.1 129) l)))) (187 + 3 * wS (M.1 129) l) (M.1 129 (187 + 3 * wS (M.1 129) l) - nI (pS1 (ofr (M.1 129) l) (wS (M.1 129) l)))) (187 + 3 * wS (M.1 129) l + 1) (M.1 129 (187 + 3 * wS (M.1 129) l + 1) + nI (pS1 (ofr (M.1 129) l) (wS (M.1 129) l))) := by unfold sSell; rw [if_neg (by omega)]
    have hx := x_adj (M := sR M 129 (sSell l (M.1 129))) (l := l) (v := nI (pS1 (ofr (M.1 129) l) (wS (M.1 129) l))) (B := B) (T := T) (by rw [sR_get]; exact hWs) hl (by rw [sR_get, hs, upd_n (by omega), upd_n (by omega), upd_e])
    rw [sR_get, sR_sR] at hx
    rw [hs] at hx ⊢
    rw [encW_lt h4, if_neg (by omega)]
    simp (disch := omega) only [L0, L1, L2, L3, L4, L5, L6, L7, L8, L9, L10, L11, L12, L13, L14, L15, L16, L17, L18, L19, L20, L21, L22, L23, L24, L25, L26, L27, L28, L29, L30, L31, L32, L47, L48, L50, L51, L57, L59, L90, L97, L100, L120, L122, L127, L179, L187, L199, L200, L487, L974, L1000, L1461, L10000, L18498, L1000000, nI_add, pk_mul, nI_cl, nI_lts, nI_les, nI_eqs, Ln1, n1_ne, n1_ne', n1_lts, nI_ltn, n1_les, nI_len, bd_s, lt_d, gd_n, wI_sR, sR_get, sR_sR, sR_ne, x_puts, Nat.not_lt_zero, if_false, upd_n, hx]
theorem x_sells {l : Nat} (hW : WT B T (M.1 129)) (hl : l < T) : f_X12_sells (nI l) M = some (sR M 129 (sAdj l (sSell l (M.1 129)))) := by
  have w4 := hW.2.2.2.2.1
  have hl16 : l < 16 := by omega
  have h64 := x_sell64 hW hl
  obtain ⟨a, b, k1, k2, k3, k4, k5, k6, k7, k8⟩ := id (hW.2.2.2.2.2.2.2.2.2.1 l hl)
  unfold f_X12_sells j_X12_sells_20 j_X12_sells_36
  rcases k7 with k7 | k7
  · have hw : wS (M.1 129) l = 4 := by unfold wS; rw [k7, if_neg (by decide)]
    rw [hw, encW4, if_pos rfl] at h64
    simp (disch := omega) only [L0, L1, L2, L3, L4, L5, L6, L7, L8, L9, L10, L11, L12, L13, L14, L15, L16, L17, L18, L19, L20, L21, L22, L23, L24, L25, L26, L27, L28, L29, L30, L31, L32, L47, L48, L50, L51, L57, L59, L90, L97, L100, L120, L122, L127, L179, L187, L199, L200, L487, L974, L1000, L1461, L10000, L18498, L1000000, nI_add, pk_mul, nI_cl, nI_lts, nI_les, nI_eqs, Ln1, n1_ne, n1_ne', n1_lts, nI_ltn, n1_les, nI_len, bd_s, lt_d, gd_n, x_of, k7, if_true, if_false, Nat.zero_ne_one, h64]
  · have hw : wS (M.1 129) l = gt (ofr (M.1 129) l) 4 4 := by unfold wS; rw [k7, if_pos rfl]
    have hg := x_greatest (but := 4) hW hl (by decide)
    rw [← hw, encW4] at hg
    rcases wS_lt (S := M.1 129) l with h4 | h4
    · rw [h4, encW4] at hg
      rw [h4, encW4, if_pos rfl] at h64
      simp (disch := omega) only [L0, L1, L2, L3, L4, L5, L6, L7, L8, L9, L10, L11, L12, L13, L14, L15, L16, L17, L18, L19, L20, L21, L22, L23, L24, L25, L26, L27, L28, L29, L30, L31, L32, L47, L48, L50, L51, L57, L59, L90, L97, L100, L120, L122, L127, L179, L187, L199, L200, L487, L974, L1000, L1461, L10000, L18498, L1000000, nI_add, pk_mul, nI_cl, nI_lts, nI_les, nI_eqs, Ln1, n1_ne, n1_ne', n1_lts, nI_ltn, n1_les, nI_len, bd_s, lt_d, gd_n, x_of, k7, if_true, hg, h64]
    · have hg2 := x_greatest (but := wS (M.1 129) l) hW hl (by omega)
      rw [encW_lt h4] at hg hg2 h64
      rw [if_neg (by omega)] at h64
      have hv := gtv (o := ofr (M.1 129) l) (wS (M.1 129) l) 4 (by decide)
      rcases hv with ⟨v1, v2⟩ | ⟨v1, v2, v3, v4⟩
      · have ep : pS1 (ofr (M.1 129) l) (wS (M.1 129) l) = 1 := by unfold pS1; rw [if_pos v2]
        rw [ep] at h64
        rw [v1, encW4] at hg2
        simp (disch := omega) only [L0, L1, L2, L3, L4, L5, L6, L7, L8, L9, L10, L11, L12, L13, L14, L15, L16, L17, L18, L19, L20, L21, L22, L23, L24, L25, L26, L27, L28, L29, L30, L31, L32, L47, L48, L50, L51, L57, L59, L90, L97, L100, L120, L122, L127, L179, L187, L199, L200, L487, L974, L1000, L1461, L10000, L18498, L1000000, nI_add, pk_mul, nI_cl, nI_lts, nI_les, nI_eqs, Ln1, n1_ne, n1_ne', n1_lts, nI_ltn, n1_les, nI_len, bd_s, lt_d, gd_n, x_of, k7, if_true, hg, hg2, h64, if_false]
      · have ep : pS1 (ofr (M.1 129) l) (wS (M.1 129) l) = ofr (M.1 129) l (gt (ofr (M.1 129) l) (wS (M.1 129) l) 4) := by unfold pS1; rw [if_neg (by omega), v3]
        rw [ep] at h64
        rw [encW_lt v1] at hg2
        obtain ⟨q1, q2⟩ := hW.bids hl v1
        have r2 := ofr_pos (S := M.1 129) (l := l) (t := gt (ofr (M.1 129) l) (wS (M.1 129) l) 4) (by omega)
        rw [r2] at q1 q2
        simp (disch := omega) only [L0, L1, L2, L3, L4, L5, L6, L7, L8, L9, L10, L11, L12, L13, L14, L15, L16, L17, L18, L19, L20, L21, L22, L23, L24, L25, L26, L27, L28, L29, L30, L31, L32, L47, L48, L50, L51, L57, L59, L90, L97, L100, L120, L122, L127, L179, L187, L199, L200, L487, L974, L1000, L1461, L10000, L18498, L1000000, nI_add, pk_mul, nI_cl, nI_lts, nI_les, nI_eqs, Ln1, n1_ne, n1_ne', n1_lts, nI_ltn, n1_les, nI_len, bd_s, lt_d, gd_n, x_of, k7, if_true, hg, hg2, q1, h64, if_false]
theorem x_auctions (hW : WT B T (M.1 129)) : f_X12_auctions M = some (sR M 129 (sAu T (M.1 129))) := by
  have w4 := hW.2.2.2.2.1
  have hWd := hW.dec
  have h1 := lo_gen (b := b_X12_auctions_13) (fun k => (nI k, sR M 129 (sDec k (upd (M.1 129) 6 (M.1 129 6 + nI 1))))) 4 (nI 4, sR M 129 (sDec 4 (upd (M.1 129) 6 (M.1 129 6 + nI 1)))) (fun k hk => by
    unfold b_X12_auctions_13
    have : ¬ 4 ≤ k := by omega
    simp (disch := omega) only [L0, L1, L2, L3, L4, L5, L6, L7, L8, L9, L10, L11, L12, L13, L14, L15, L16, L17, L18, L19, L20, L21, L22, L23, L24, L25, L26, L27, L28, L29, L30, L31, L32, L47, L48, L50, L51, L57, L59, L90, L97, L100, L120, L122, L127, L179, L187, L199, L200, L487, L974, L1000, L1461, L10000, L18498, L1000000, nI_add, pk_mul, nI_cl, nI_lts, nI_les, nI_eqs, Ln1, n1_ne, n1_ne', n1_lts, nI_ltn, n1_les, nI_len, bd_s, lt_d, gd_n, wI_sR, sR_get, sR_sR, sR_ne, if_neg this]
    rfl) (by
    unfold b_X12_auctions_13
    simp (disch := omega) only [L0, L1, L2, L3, L4, L5, L6, L7, L8, L9, L10, L11, L12, L13, L14, L15, L16, L17, L18, L19, L20, L21, L22, L23, L24, L25, L26, L27, L28, L29, L30, L31, L32, L47, L48, L50, L51, L57, L59, L90, L97, L100, L120, L122, L127, L179, L187, L199, L200, L487, L974, L1000, L1461, L10000, L18498, L1000000, nI_add, pk_mul, nI_cl, nI_lts, nI_les, nI_eqs, Ln1, n1_ne, n1_ne', n1_lts, nI_ltn, n1_les, nI_len, bd_s, lt_d, gd_n, if_true, Nat.le_refl]) (N := 2048) (by decide)
  have h2 := lo_gen (b := b_X12_auctions_59) (fun k => (nI k, sR M 129 (it (fun l S => sAdj l (sSell l S)) k (sDec 4 (upd (M.1 129) 6 (M.1 129 6 + nI 1)))))) T (nI T, sR M 129 (sAu T (M.1 129))) (fun k hk => by
    unfold b_X12_auctions_59
    have : ¬ T ≤ k := by omega
    have hWk := hWd.both k (by omega)
    have hx := x_sells (M := sR M 129 (it (fun l S => sAdj l (sSell l S)) k (sDec 4 (upd (M.1 129) 6 (M.1 129 6 + nI 1))))) (l := k) (B := B) (T := T) (by rw [sR_get]; exact hWk) hk
    rw [sR_get, sR_sR] at hx
    simp (disch := omega) only [L0, L1, L2, L3, L4, L5, L6, L7, L8, L9, L10, L11, L12, L13, L14, L15, L16, L17, L18, L19, L20, L21, L22, L23, L24, L25, L26, L27, L28, L29, L30, L31, L32, L47, L48, L50, L51, L57, L59, L90, L97, L100, L120, L122, L127, L179, L187, L199, L200, L487, L974, L1000, L1461, L10000, L18498, L1000000, nI_add, pk_mul, nI_cl, nI_lts, nI_les, nI_eqs, Ln1, n1_ne, n1_ne', n1_lts, nI_ltn, n1_les, nI_len, bd_s, lt_d, gd_n, sR_get, hWk.2.2.2.1, if_neg this, hx]
    rfl) (by
    have hWk := hWd.both T (Nat.le_refl T)
    unfold b_X12_auctions_59
    simp (disch := omega) only [L0, L1, L2, L3, L4, L5, L6, L7, L8, L9, L10, L11, L12, L13, L14, L15, L16, L17, L18, L19, L20, L21, L22, L23, L24, L25, L26, L27, L28, L29, L30, L31, L32, L47, L48, L50, L51, L57, L59, L90, L97, L100, L120, L122, L127, L179, L187, L199, L200, L487, L974, L1000, L1461, L10000, L18498, L1000000, nI_add, pk_mul, nI_cl, nI_lts, nI_les, nI_eqs, Ln1, n1_ne, n1_ne', n1_lts, nI_ltn, n1_les, nI_len, bd_s, lt_d, gd_n, sR_get, hWk.2.2.2.1, if_true, Nat.le_refl]
    rfl) (N := 2048) (by omega)
  have h1' : lo (b_X12_auctions_13) 2048 (nI 0, sR M 129 (upd (M.1 129) 6 (M.1 129 6 + nI 1))) = _ := h1
  have h2' : lo (b_X12_auctions_59) 2048 (nI 0, sR M 129 (sDec 4 (upd (M.1 129) 6 (M.1 129 6 + nI 1)))) = _ := h2
  unfold f_X12_auctions
  simp only [L0, L1, lt_d, wI_sR, h1', bd_s, h2']
end PAM
