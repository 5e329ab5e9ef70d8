/-! Vectors. -/
abbrev vT : Type := Int32 × Int32 × Int32 × Int32 × Int32
def idS (S : Nat → Int32) (b : Nat) : Int32 := nI 10 * S (11 + 5 * b) + nI b
/-- whether (root, cost, from) of the first is better -/
def bet (r c i r' c' i' : Int32) : Bool := if r = r' then (if c = c' then decide (i < i') else decide (c < c')) else decide (r < r')
def v0 (S : Nat → Int32) (b : Nat) : vT := (idS S b, nI 0, nI 0, n1, idS S b)
/-- a candidate from the bridge o over the link l -/
def cand (S : Nat → Int32) (l o : Nat) (v : vT) : vT := if nI 10 ≤ S (11 + 5 * o + 3) then v else
  if bet (S (11 + 5 * o + 1)) (S (11 + 5 * o + 2) + S (199 + 18 * l + 3)) (idS S o) v.1 v.2.1 v.2.2.2.2 = true then (S (11 + 5 * o + 1), S (11 + 5 * o + 2) + S (199 + 18 * l + 3), S (11 + 5 * o + 3) + nI 1, nI l, idS S o) else v
def vst (S : Nat → Int32) (b l : Nat) (v : vT) : vT := if S (199 + 18 * l + 4) = nI 1 then (if lx S l = b then cand S l (ly S l) v else if ly S l = b then cand S l (lx S l) v else v) else v
def vv (S : Nat → Int32) (b : Nat) : Nat → vT
  | 0 => v0 S b
  | l + 1 => vst S b l (vv S b l)
def cmpV (v : vT) (j : Nat) : Int32 := if j = 1 then v.1 else if j = 2 then v.2.1 else if j = 3 then v.2.2.1 else v.2.2.2.1
def sV (S : Nat → Int32) (B T : Nat) : Nat → Int32 := fun i => if 11 ≤ i ∧ i < 11 + 5 * B ∧ (i - 11) % 5 ≠ 0 then cmpV (vv S ((i - 11) / 5) T) ((i - 11) % 5) else S i
section PV
variable {m m0 M : me} {S : Nat → Int32} {B T : Nat}
theorem WT.vec (hW : WT B T S) : WT B T (sV S B T) := hW.cg (fun i hi => by
  have := hW.2.2.1
  unfold wx at hi
  unfold sV
  rw [if_neg (by omega)])
theorem i32_irr {x y : Int32} (h : x < y) : ¬ x = y := fun e => by
  rw [e, Int32.lt_iff_toInt_lt] at h
  omega
theorem x_other {l b : Nat} (hW : WT B T (M.1 129)) (hl : l < T) (hb : b < 8) : f_X12_other (nI l) (nI b) M = some (nI (if lx (M.1 129) l = b then ly (M.1 129) l else lx (M.1 129) l), M) := by
  have w4 := hW.2.2.2.2.1
  obtain ⟨g1, g2, -, -⟩ := hW.ends hl
  obtain ⟨g5, g6⟩ := hW.end8 l hl
  unfold f_X12_other
  simp (disch := omega) only [L0, L1, L2, L3, L4, L5, L6, L7, L8, L9, L10, L11, L12, L13, L14, L15, L16, L17, L18, L19, L20, L21, L22, L23, L24, L25, L26, L27, L28, L29, L30, L31, L32, L47, L48, L50, L51, L57, L59, L90, L97, L100, L120, L122, L127, L179, L187, L199, L200, L487, L974, L1000, L1461, L10000, L18498, L1000000, nI_add, pk_mul, nI_cl, nI_lts, nI_les, nI_eqs, Ln1, n1_ne, n1_ne', n1_lts, nI_ltn, n1_les, nI_len, bd_s, lt_d, gd_n, x_of, Nat.add_zero, g1, g2]
  by_cases h : lx (M.1 129) l = b
  · rw [ifp h, if_pos h]
  · rw [ifn h, if_neg h]
theorem x_isAt {l b : Nat} (hW : WT B T (M.1 129)) (hl : l < T) (hb : b < 8) : f_X12_isAt (nI l) (nI b) M = some (bI (decide (lx (M.1 129) l = b) || decide (ly (M.1 129) l = b)), M) := by
  have w4 := hW.2.2.2.2.1
  obtain ⟨g1, g2, -, -⟩ := hW.ends hl
  obtain ⟨g5, g6⟩ := hW.end8 l hl
  unfold f_X12_isAt
  simp (disch := omega) only [L0, L1, L2, L3, L4, L5, L6, L7, L8, L9, L10, L11, L12, L13, L14, L15, L16, L17, L18, L19, L20, L21, L22, L23, L24, L25, L26, L27, L28, L29, L30, L31, L32, L47, L48, L50, L51, L57, L59, L90, L97, L100, L120, L122, L127, L179, L187, L199, L200, L487, L974, L1000, L1461, L10000, L18498, L1000000, nI_add, pk_mul, nI_cl, nI_lts, nI_les, nI_eqs, Ln1, n1_ne, n1_ne', n1_lts, nI_ltn, n1_les, nI_len, bd_s, lt_d, gd_n, x_of, Nat.add_zero, g1, g2]
  by_cases h : lx (M.1 129) l = b
  · rw [ifp h, decide_eq_true h]; rfl
  · rw [ifn h, decide_eq_false h]
    by_cases h2 : ly (M.1 129) l = b
    · rw [ifp h2, decide_eq_true h2]; rfl
    · rw [ifn h2, decide_eq_false h2]; rfl
theorem bet_if {α : Type} {r c i r' c' i' : Int32} (X Y : α) : (if r < r' then X else if r = r' then (if c < c' then X else if c = c' then (if i' ≤ i then Y else X) else Y) else Y) = if bet r c i r' c' i' = true then X else Y := by
  unfold bet
  by_cases h1 : r < r'
  · rw [if_pos h1, if_neg (i32_irr h1), if_pos (decide_eq_true h1)]
  · rw [if_neg h1]
    by_cases h2 : r = r'
    · rw [if_pos h2, if_pos h2]
      by_cases h3 : c < c'
      · rw [if_pos h3, if_neg (i32_irr h3), if_pos (decide_eq_true h3)]
      · rw [if_neg h3]
        by_cases h4 : c = c'
        · rw [if_pos h4, if_pos h4]
          by_cases h5 : i' ≤ i
          · rw [if_pos h5, if_neg (by rw [decide_eq_true_eq]; exact Int32.not_lt.mpr h5)]
          · rw [if_neg h5, if_pos (decide_eq_true (Int32.not_le.mp h5))]
        · rw [if_neg h4, if_neg h4, if_neg (by rw [decide_eq_true_eq]; exact h3)]
    · rw [if_neg h2, if_neg h2, if_neg (by rw [decide_eq_true_eq]; exact h1)]
theorem x_finds {b : Nat} (hW : WT B T (M.1 129)) (hb : b < 8) : f_X12_finds (nI b) M = some (sR M 133 (upd (upd (upd (upd (M.1 133) (4 * b) (vv (M.1 129) b T).1) (4 * b + 1) (vv (M.1 129) b T).2.1) (4 * b + 2) (vv (M.1 129) b T).2.2.1) (4 * b + 3) (vv (M.1 129) b T).2.2.2.1)) := by
  have w3 := hW.2.2.2.1
  have w4 := hW.2.2.2.2.1
  have h := lo_gen (b := b_X12_finds_24 (nI b)) (fun k => ((vv (M.1 129) b k).1, (vv (M.1 129) b k).2.1, (vv (M.1 129) b k).2.2.1, (vv (M.1 129) b k).2.2.2.1, (vv (M.1 129) b k).2.2.2.2, nI k, M)) T ((vv (M.1 129) b T).1, (vv (M.1 129) b T).2.1, (vv (M.1 129) b T).2.2.1, (vv (M.1 129) b T).2.2.2.1, (vv (M.1 129) b T).2.2.2.2, nI T, M) (fun k hk => by
    have hT : ¬ T ≤ k := by omega
    have hk16 : k < 16 := by omega
    obtain ⟨g1, g2, g3, g4⟩ := hW.ends hk
    obtain ⟨g5, g6⟩ := hW.end8 k hk
    obtain ⟨a, b', -, -, -, -, -, -, u7, -⟩ := id (hW.2.2.2.2.2.2.2.2.2.1 k hk)
    have ho := x_other hW hk hb
    have ha := x_isAt hW hk hb
    have evv : vv (M.1 129) b (k + 1) = vst (M.1 129) b k (vv (M.1 129) b k) := rfl
    rw [evv]
    generalize vv (M.1 129) b k = v
    obtain ⟨vr, vc, va, vb', vf⟩ := v
    unfold b_X12_finds_24 j_X12_finds_160 vst
    by_cases hat : lx (M.1 129) k = b ∨ ly (M.1 129) k = b
    · have hat' : (decide (lx (M.1 129) k = b) || decide (ly (M.1 129) k = b)) = true := by
        rcases hat with h | h
        · rw [decide_eq_true h]; rfl
        · rw [decide_eq_true h]; exact Bool.or_true _
      rw [hat', bI_t] at ha
      have ho8 : (if lx (M.1 129) k = b then ly (M.1 129) k else lx (M.1 129) k) < 8 := by split <;> omega
      have hv : ∀ v : vT, (if lx (M.1 129) k = b then cand (M.1 129) k (ly (M.1 129) k) v else if ly (M.1 129) k = b then cand (M.1 129) k (lx (M.1 129) k) v else v) = cand (M.1 129) k (if lx (M.1 129) k = b then ly (M.1 129) k else lx (M.1 129) k) v := fun v => by
        by_cases h1 : lx (M.1 129) k = b
        · rw [if_pos h1, if_pos h1]
        · rw [if_neg h1, if_neg h1, if_pos (hat.resolve_left h1)]
      rw [hv]
      generalize (if lx (M.1 129) k = b then ly (M.1 129) k else lx (M.1 129) k) = o at *
      rcases u7 with u7 | u7
      · rw [u7, if_neg (show ¬ nI 0 = nI 1 by decide)]
        simp (maxSteps := 3000000) (disch := omega) only [L0, L1, L2, L3, L4, L5, L6, L7, L8, L9, L10, L11, L12, L13, L14, L15, L16, L17, L18, L19, L20, L21, L22, L23, L24, L25, L26, L27, L28, L29, L30, L31, L32, L47, L48, L50, L51, L57, L59, L90, L97, L100, L120, L122, L127, L179, L187, L199, L200, L487, L974, L1000, L1461, L10000, L18498, L1000000, nI_add, pk_mul, nI_cl, nI_lts, nI_les, nI_eqs, Ln1, n1_ne, n1_ne', n1_lts, nI_ltn, n1_les, nI_len, bd_s, lt_d, gd_n, w3, if_neg hT, ho, ha, i10, if_false, x_of, u7, Nat.zero_ne_one, Nat.one_ne_zero]
      · rw [u7, if_pos rfl]
        unfold cand
        by_cases hag : nI 10 ≤ M.1 129 (11 + 5 * o + 3)
        · rw [if_pos hag]
          simp (maxSteps := 3000000) (disch := omega) only [L0, L1, L2, L3, L4, L5, L6, L7, L8, L9, L10, L11, L12, L13, L14, L15, L16, L17, L18, L19, L20, L21, L22, L23, L24, L25, L26, L27, L28, L29, L30, L31, L32, L47, L48, L50, L51, L57, L59, L90, L97, L100, L120, L122, L127, L179, L187, L199, L200, L487, L974, L1000, L1461, L10000, L18498, L1000000, nI_add, pk_mul, nI_cl, nI_lts, nI_les, nI_eqs, Ln1, n1_ne, n1_ne', n1_lts, nI_ltn, n1_les, nI_len, bd_s, lt_d, gd_n, w3, if_neg hT, ho, ha, i10, if_false, x_of, u7, if_true, hag, Nat.one_ne_zero]
        · rw [if_neg hag]
          simp (maxSteps := 3000000) (disch := omega) only [L0, L1, L2, L3, L4, L5, L6, L7, L8, L9, L10, L11, L12, L13, L14, L15, L16, L17, L18, L19, L20, L21, L22, L23, L24, L25, L26, L27, L28, L29, L30, L31, L32, L47, L48, L50, L51, L57, L59, L90, L97, L100, L120, L122, L127, L179, L187, L199, L200, L487, L974, L1000, L1461, L10000, L18498, L1000000, nI_add, pk_mul, nI_cl, nI_lts, nI_les, nI_eqs, Ln1, n1_ne, n1_ne', n1_lts, nI_ltn, n1_les, nI_len, bd_s, lt_d, gd_n, w3, if_neg hT, ho, ha, i10, if_false, x_of, u7, if_true, hag, x_idOf, Nat.one_ne_zero]
          rw [bet_if]
          by_cases hbt : bet (M.1 129 (11 + 5 * o + 1)) (M.1 129 (11 + 5 * o + 2) + M.1 129 (199 + 18 * k + 3)) (idS (M.1 129) o) vr vc vf = true
          · rw [if_pos hbt]
            exact if_pos hbt
          · rw [if_neg hbt]
            exact if_neg hbt
    · have h1 : ¬ lx (M.1 129) k = b := fun h => hat (Or.inl h)
      have h2 : ¬ ly (M.1 129) k = b := fun h => hat (Or.inr h)
      rw [decide_eq_false h1, decide_eq_false h2] at ha
      rw [if_neg h1, if_neg h2, ite_self]
      rw [if_neg h1] at ho
      have ha' : f_X12_isAt (nI k) (nI b) M = some (nI 0, M) := ha
      simp (maxSteps := 3000000) (disch := omega) only [L0, L1, L2, L3, L4, L5, L6, L7, L8, L9, L10, L11, L12, L13, L14, L15, L16, L17, L18, L19, L20, L21, L22, L23, L24, L25, L26, L27, L28, L29, L30, L31, L32, L47, L48, L50, L51, L57, L59, L90, L97, L100, L120, L122, L127, L179, L187, L199, L200, L487, L974, L1000, L1461, L10000, L18498, L1000000, nI_add, pk_mul, nI_cl, nI_lts, nI_les, nI_eqs, Ln1, n1_ne, n1_ne', n1_lts, nI_ltn, n1_les, nI_len, bd_s, lt_d, gd_n, w3, if_neg hT, ho, ha', if_true]) (by
    unfold b_X12_finds_24
    simp (maxSteps := 3000000) (disch := omega) only [L0, L1, L2, L3, L4, L5, L6, L7, L8, L9, L10, L11, L12, L13, L14, L15, L16, L17, L18, L19, L20, L21, L22, L23, L24, L25, L26, L27, L28, L29, L30, L31, L32, L47, L48, L50, L51, L57, L59, L90, L97, L100, L120, L122, L127, L179, L187, L199, L200, L487, L974, L1000, L1461, L10000, L18498, L1000000, nI_add, pk_mul, nI_cl, nI_lts, nI_les, nI_eqs, Ln1, n1_ne, n1_ne', n1_lts, nI_ltn, n1_les, nI_len, bd_s, lt_d, gd_n, w3, if_true, Nat.le_refl]) (N := 2048) (by omega)
  have h' : lo (b_X12_finds_24 (nI b)) 2048 (nI 10 * M.1 129 (11 + 5 * b) + nI b, nI 0, nI 0, n1, nI 10 * M.1 129 (11 + 5 * b) + nI b, nI 0, M) = _ := h
  unfold f_X12_finds
  simp (maxSteps := 3000000) (disch := omega) only [L0, L1, L2, L3, L4, L5, L6, L7, L8, L9, L10, L11, L12, L13, L14, L15, L16, L17, L18, L19, L20, L21, L22, L23, L24, L25, L26, L27, L28, L29, L30, L31, L32, L47, L48, L50, L51, L57, L59, L90, L97, L100, L120, L122, L127, L179, L187, L199, L200, L487, L974, L1000, L1461, L10000, L18498, L1000000, nI_add, pk_mul, nI_cl, nI_lts, nI_les, nI_eqs, Ln1, n1_ne, n1_ne', n1_lts, nI_ltn, n1_les, nI_len, bd_s, lt_d, gd_n, wI_sR, sR_get, sR_sR, sR_ne, x_idOf, h']
def sVk (S : Nat → Int32) (n k T : Nat) : Nat → Int32 := fun i => if (11 ≤ i ∧ i < 11 + 5 * n ∧ (i - 11) % 5 ≠ 0) ∨ (11 + 5 * n + 1 ≤ i ∧ i < 11 + 5 * n + 1 + k) then cmpV (vv S ((i - 11) / 5) T) ((i - 11) % 5) else S i
theorem sVk_0 (n : Nat) : sVk S n 0 T = sV S n T := by
  funext i
  unfold sVk sV
  by_cases h : 11 ≤ i ∧ i < 11 + 5 * n ∧ (i - 11) % 5 ≠ 0
  · rw [if_pos (Or.inl h), if_pos h]
  · rw [if_neg (by omega), if_neg h]
theorem sVk_4 (n : Nat) : sVk S n 4 T = sV S (n + 1) T := by
  funext i
  unfold sVk sV
  by_cases h : 11 ≤ i ∧ i < 11 + 5 * (n + 1) ∧ (i - 11) % 5 ≠ 0
  · rw [if_pos (by omega), if_pos h]
  · rw [if_neg (by omega), if_neg h]
theorem sVk_s {n k : Nat} (hk : k < 4) : upd (sVk S n k T) (11 + 5 * n + 1 + k) (cmpV (vv S n T) (k + 1)) = sVk S n (k + 1) T := by
  funext i
  by_cases h : i = 11 + 5 * n + 1 + k
  · subst h
    rw [upd_e]
    unfold sVk
    rw [if_pos (by omega), show (11 + 5 * n + 1 + k - 11) / 5 = n by omega, show (11 + 5 * n + 1 + k - 11) % 5 = k + 1 by omega]
  · rw [upd_n h]
    unfold sVk
    by_cases h2 : (11 ≤ i ∧ i < 11 + 5 * n ∧ (i - 11) % 5 ≠ 0) ∨ (11 + 5 * n + 1 ≤ i ∧ i < 11 + 5 * n + 1 + k)
    · rw [if_pos h2, if_pos (by omega)]
    · rw [if_neg h2, if_neg (by omega)]
theorem sV_0 : sV S 0 T = S := by
  funext i
  unfold sV
  rw [if_neg (by omega)]
theorem x_vectors (hW : WT B T (M.1 129)) : ∃ F, f_X12_vectors M = some (sR (sR M 133 F) 129 (sV (M.1 129) B T)) := by
  have w0 := hW.1
  have hB8 := hW.2.2.1
  obtain ⟨t, ht, F, k1, k2⟩ := lo_rel (b := b_X12_vectors_2) (s0 := (nI 0, M)) (N := 2048) (n := B)
    (P := fun k s => ∃ F, s = (nI k, sR M 133 F) ∧ ∀ b, b < k → ∀ j, j < 4 → F (4 * b + j) = cmpV (vv (M.1 129) b T) (j + 1))
    (Q := fun t => ∃ F, t = (nI B, sR M 133 F) ∧ ∀ b, b < B → ∀ j, j < 4 → F (4 * b + j) = cmpV (vv (M.1 129) b T) (j + 1))
    ⟨M.1 133, by rw [sR_self], fun b hb => absurd hb (Nat.not_lt_zero b)⟩ (fun k s hk hP => by
      obtain ⟨F, rfl, k2⟩ := hP
      have hx := x_finds (M := sR M 133 F) (b := k) (B := B) (T := T) (by rw [sR_ne (by decide)]; exact hW) (by omega)
      rw [sR_get, sR_sR, sR_ne (show 129 ≠ 133 by decide)] at hx
      have : ¬ B ≤ k := by omega
      unfold b_X12_vectors_2
      simp (disch := omega) only [L0, L1, L2, L3, L4, L5, L6, L7, L8, L9, L10, L11, L12, L13, L14, L15, L16, L17, L18, L19, L20, L21, L22, L23, L24, L25, L26, L27, L28, L29, L30, L31, L32, L47, L48, L50, L51, L57, L59, L90, L97, L100, L120, L122, L127, L179, L187, L199, L200, L487, L974, L1000, L1461, L10000, L18498, L1000000, nI_add, pk_mul, nI_cl, nI_lts, nI_les, nI_eqs, Ln1, n1_ne, n1_ne', n1_lts, nI_ltn, n1_les, nI_len, bd_s, lt_d, gd_n, sR_ne, w0, if_neg this, hx]
      refine ⟨_, rfl, _, rfl, fun b hb j hj => ?_⟩
      by_cases hbk : b = k
      · subst hbk
        have : j = 0 ∨ j = 1 ∨ j = 2 ∨ j = 3 := by omega
        rcases this with rfl | rfl | rfl | rfl
        · rw [upd_n (by omega), upd_n (by omega), upd_n (by omega), Nat.add_zero, upd_e]; rfl
        · rw [upd_n (by omega), upd_n (by omega), upd_e]; rfl
        · rw [upd_n (by omega), upd_e]; rfl
        · rw [upd_e]; rfl
      · rw [upd_n (by omega), upd_n (by omega), upd_n (by omega), upd_n (by omega)]
        exact k2 b (by omega) j hj) (fun s hP => by
      obtain ⟨F, rfl, k2⟩ := hP
      refine ⟨_, ?_, F, rfl, k2⟩
      unfold b_X12_vectors_2
      simp (disch := omega) only [L0, L1, L2, L3, L4, L5, L6, L7, L8, L9, L10, L11, L12, L13, L14, L15, L16, L17, L18, L19, L20, L21, L22, L23, L24, L25, L26, L27, L28, L29, L30, L31, L32, L47, L48, L50, L51, L57, L59, L90, L97, L100, L120, L122, L127, L179, L187, L199, L200, L487, L974, L1000, L1461, L10000, L18498, L1000000, nI_add, pk_mul, nI_cl, nI_lts, nI_les, nI_eqs, Ln1, n1_ne, n1_ne', n1_lts, nI_ltn, n1_les, nI_len, bd_s, lt_d, gd_n, sR_ne, w0, if_true, Nat.le_refl]) (by omega)
  have e0 : ∀ k, sV (M.1 129) k T 0 = nI B := fun k => by unfold sV; rw [if_neg (by omega)]; exact w0
  have h2 := lo_gen (b := b_X12_vectors_25) (fun k => (nI k, sR (sR M 133 F) 129 (sV (M.1 129) k T))) B (nI B, sR (sR M 133 F) 129 (sV (M.1 129) B T)) (fun k hk => by
    have hin := lo_gen (b := b_X12_vectors_37 (nI k)) (fun j => (nI j, sR (sR M 133 F) 129 (sVk (M.1 129) k j T))) 4 (nI 4, sR (sR M 133 F) 129 (sV (M.1 129) (k + 1) T)) (fun j hj => by
      unfold b_X12_vectors_37
      have : ¬ 4 ≤ j := by omega
      simp (disch := omega) only [L0, L1, L2, L3, L4, L5, L6, L7, L8, L9, L10, L11, L12, L13, L14, L15, L16, L17, L18, L19, L20, L21, L22, L23, L24, L25, L26, L27, L28, L29, L30, L31, L32, L47, L48, L50, L51, L57, L59, L90, L97, L100, L120, L122, L127, L179, L187, L199, L200, L487, L974, L1000, L1461, L10000, L18498, L1000000, nI_add, pk_mul, nI_cl, nI_lts, nI_les, nI_eqs, Ln1, n1_ne, n1_ne', n1_lts, nI_ltn, n1_les, nI_len, bd_s, lt_d, gd_n, wI_sR, sR_get, sR_sR, sR_ne, if_neg this, k2 k hk j hj, sVk_s hj]) (by
      unfold b_X12_vectors_37
      simp (disch := omega) only [L0, L1, L2, L3, L4, L5, L6, L7, L8, L9, L10, L11, L12, L13, L14, L15, L16, L17, L18, L19, L20, L21, L22, L23, L24, L25, L26, L27, L28, L29, L30, L31, L32, L47, L48, L50, L51, L57, L59, L90, L97, L100, L120, L122, L127, L179, L187, L199, L200, L487, L974, L1000, L1461, L10000, L18498, L1000000, nI_add, pk_mul, nI_cl, nI_lts, nI_les, nI_eqs, Ln1, n1_ne, n1_ne', n1_lts, nI_ltn, n1_les, nI_len, bd_s, lt_d, gd_n, if_true, Nat.le_refl, sVk_4]) (N := 2048) (by decide)
    simp only [sVk_0] at hin
    have : ¬ B ≤ k := by omega
    unfold b_X12_vectors_25
    simp (disch := omega) only [L0, L1, L2, L3, L4, L5, L6, L7, L8, L9, L10, L11, L12, L13, L14, L15, L16, L17, L18, L19, L20, L21, L22, L23, L24, L25, L26, L27, L28, L29, L30, L31, L32, L47, L48, L50, L51, L57, L59, L90, L97, L100, L120, L122, L127, L179, L187, L199, L200, L487, L974, L1000, L1461, L10000, L18498, L1000000, nI_add, pk_mul, nI_cl, nI_lts, nI_les, nI_eqs, Ln1, n1_ne, n1_ne', n1_lts, nI_ltn, n1_les, nI_len, bd_s, lt_d, gd_n, sR_get, e0, if_neg this, hin]) (by
    unfold b_X12_vectors_25
    simp (disch := omega) only [L0, L1, L2, L3, L4, L5, L6, L7, L8, L9, L10, L11, L12, L13, L14, L15, L16, L17, L18, L19, L20, L21, L22, L23, L24, L25, L26, L27, L28, L29, L30, L31, L32, L47, L48, L50, L51, L57, L59, L90, L97, L100, L120, L122, L127, L179, L187, L199, L200, L487, L974, L1000, L1461, L10000, L18498, L1000000, nI_add, pk_mul, nI_cl, nI_lts, nI_les, nI_eqs, Ln1, n1_ne, n1_ne', n1_lts, nI_ltn, n1_les, nI_len, bd_s, lt_d, gd_n, sR_get, e0, if_true, Nat.le_refl]) (N := 2048) (by omega)
  have es : sR (sR M 133 F) 129 (M.1 129) = sR M 133 F := by
    have := sR_self (sR M 133 F) 129
    rw [sR_ne (by decide)] at this
    exact this
  simp only [sV_0, es] at h2
  refine ⟨F, ?_⟩
  unfold f_X12_vectors
  simp only [L0, ht, k1, bd_s, h2]
/-- the class's new vector of a bridge -/
def VR (m : me) (b : Nat) (v : vT) : Prop := m.1 115 b = v.1 ∧ m.1 116 b = v.2.1 ∧ m.1 117 b = v.2.2.1 ∧ m.1 118 b = v.2.2.2.1 ∧ m.1 119 b = v.2.2.2.2
def fv (a b : me) : Prop := (∀ q, ¬ (115 ≤ q ∧ q < 120) → b.1 q = a.1 q) ∧ b.2 = a.2
theorem fv.rf (m : me) : fv m m := ⟨fun _ _ => rfl, rfl⟩
theorem fv.tr {a b c : me} (h : fv a b) (k : fv b c) : fv a c := ⟨fun q hq => (k.1 q hq).trans (h.1 q hq), k.2.trans h.2⟩
theorem fv.w {a b : me} (h : fv a b) {q j : Nat} {v : Int32} (hq : 115 ≤ q ∧ q < 120) : fv a (wI b q j v) := ⟨fun o ho => by rw [wI_sR, sR_ne (by omega)]; exact h.1 o ho, h.2⟩
theorem fv.RN (h : fv m M) (hR : RN m 1 S) : RN M 1 S := hR.cg (fun r hr => h.1 _ (by omega))
theorem y_isBetter {b : Nat} {r c i : Int32} {v : vT} (hb : b < 8) (hV : VR m b v) : f_X10_isBetter (nI b) r c i m = some (bI (bet r c i v.1 v.2.1 v.2.2.2.2), m) := by
  obtain ⟨h1, h2, h3, h4, h5⟩ := hV
  unfold f_X10_isBetter bet
  simp (disch := omega) only [L0, L1, L2, L3, L4, L5, L6, L7, L8, L9, L10, L11, L12, L13, L14, L15, L16, L17, L18, L19, L20, L21, L22, L23, L24, L25, L26, L27, L28, L29, L30, L31, L32, L47, L48, L50, L51, L57, L59, L90, L97, L100, L120, L122, L127, L179, L187, L199, L200, L487, L974, L1000, L1461, L10000, L18498, L1000000, nI_add, pk_mul, nI_cl, nI_lts, nI_les, nI_eqs, Ln1, n1_ne, n1_ne', n1_lts, nI_ltn, n1_les, nI_len, bd_s, lt_d, gd_n, h1, h2, h5]
  by_cases k1 : r = v.1
  · rw [ifp k1, if_pos k1]
    by_cases k2 : c = v.2.1
    · rw [ifp k2, if_pos k2]
      by_cases k3 : v.2.2.2.2 ≤ i
      · rw [ifp k3, decide_eq_false (Int32.not_lt.mpr k3)]; rfl
      · rw [ifn k3, decide_eq_true (Int32.not_le.mp k3)]; rfl
    · rw [ifn k2, if_neg k2]
      by_cases k3 : v.2.1 ≤ c
      · rw [ifp k3, decide_eq_false (Int32.not_lt.mpr k3)]; rfl
      · rw [ifn k3, decide_eq_true (Int32.not_le.mp k3)]; rfl
  · rw [ifn k1, if_neg k1]
    by_cases k3 : v.1 ≤ r
    · rw [ifp k3, decide_eq_false (Int32.not_lt.mpr k3)]; rfl
    · rw [ifn k3, decide_eq_true (Int32.not_le.mp k3)]; rfl
theorem y_consider {l b o : Nat} {v : vT} (hR : RN m 1 S) (w3 : S 5 = nI T) (w4 : T ≤ 16) (hl : l < T) (hb : b < 8) (ho : o < 8) (hV : VR m b v) : ∃ m', f_X10_consider (nI l) (nI b) (nI o) m = some m' ∧ fv m m' ∧ VR m' b (cand S l o v) ∧ ∀ x, x ≠ b → ∀ u, VR m x u → VR m' x u := by
  have hl16 : l < 16 := by omega
  have eid : nI 10 * S (11 + 5 * o) + nI o = idS S o := rfl
  unfold cand
  by_cases hag : nI 10 ≤ S (11 + 5 * o + 3)
  · refine ⟨m, ?_, fv.rf m, by rw [if_pos hag]; exact hV, fun x hx u hu => hu⟩
    unfold f_X10_consider
    simp (disch := omega) only [L0, L1, L2, L3, L4, L5, L6, L7, L8, L9, L10, L11, L12, L13, L14, L15, L16, L17, L18, L19, L20, L21, L22, L23, L24, L25, L26, L27, L28, L29, L30, L31, L32, L47, L48, L50, L51, L57, L59, L90, L97, L100, L120, L122, L127, L179, L187, L199, L200, L487, L974, L1000, L1461, L10000, L18498, L1000000, nI_add, pk_mul, nI_cl, nI_lts, nI_les, nI_eqs, Ln1, n1_ne, n1_ne', n1_lts, nI_ltn, n1_les, nI_len, bd_s, lt_d, gd_n, y_idOf hR ho, rd_age hR ho, hag, if_true]
  · rw [if_neg hag]
    by_cases hbt : bet (S (11 + 5 * o + 1)) (S (11 + 5 * o + 2) + S (199 + 18 * l + 3)) (idS S o) v.1 v.2.1 v.2.2.2.2 = true
    · rw [if_pos hbt]
      refine ⟨wI (wI (wI (wI (wI m 119 b (idS S o)) 115 b (S (11 + 5 * o + 1))) 116 b (S (11 + 5 * o + 2) + S (199 + 18 * l + 3))) 117 b (S (11 + 5 * o + 3) + nI 1)) 118 b (nI l), ?_, ?_, ?_, fun x hx u hu => ?_⟩
      · unfold f_X10_consider
        have e6 : (wI (wI (wI m 119 b (idS S o)) 115 b (S (11 + 5 * o + 1))) 116 b (S (11 + 5 * o + 2) + S (199 + 18 * l + 3))).1 6 o = S (11 + 5 * o + 3) := by
          rw [wI_sR, sR_ne (by decide), wI_sR, sR_ne (by decide), wI_sR, sR_ne (by decide)]
          exact rd_age hR ho
        simp (disch := omega) only [L0, L1, L2, L3, L4, L5, L6, L7, L8, L9, L10, L11, L12, L13, L14, L15, L16, L17, L18, L19, L20, L21, L22, L23, L24, L25, L26, L27, L28, L29, L30, L31, L32, L47, L48, L50, L51, L57, L59, L90, L97, L100, L120, L122, L127, L179, L187, L199, L200, L487, L974, L1000, L1461, L10000, L18498, L1000000, nI_add, pk_mul, nI_cl, nI_lts, nI_les, nI_eqs, Ln1, n1_ne, n1_ne', n1_lts, nI_ltn, n1_les, nI_len, bd_s, lt_d, gd_n, y_idOf hR ho, eid, rd_age hR ho, hag, if_false, rd_root hR ho, rd_cost hR ho, rd_lcost hR w3 w4 hl, y_isBetter hb hV, hbt, bI_t, i10, e6, Nat.one_ne_zero]
      · exact (((((fv.rf m).w (by omega)).w (by omega)).w (by omega)).w (by omega)).w (by omega)
      · refine ⟨?_, ?_, ?_, ?_, ?_⟩
        · simp (disch := decide) only [wI_sR, sR_ne, sR_get, upd_e]
        · simp (disch := decide) only [wI_sR, sR_ne, sR_get, upd_e]
        · simp (disch := decide) only [wI_sR, sR_ne, sR_get, upd_e]
        · simp (disch := decide) only [wI_sR, sR_ne, sR_get, upd_e]
        · simp (disch := decide) only [wI_sR, sR_ne, sR_get, upd_e]
      · obtain ⟨u1, u2, u3, u4, u5⟩ := hu
        refine ⟨?_, ?_, ?_, ?_, ?_⟩
        · rw [← u1]; simp (disch := decide) only [wI_sR, sR_ne, sR_get]; exact upd_n hx
        · rw [← u2]; simp (disch := decide) only [wI_sR, sR_ne, sR_get]; exact upd_n hx
        · rw [← u3]; simp (disch := decide) only [wI_sR, sR_ne, sR_get]; exact upd_n hx
        · rw [← u4]; simp (disch := decide) only [wI_sR, sR_ne, sR_get]; exact upd_n hx
        · rw [← u5]; simp (disch := decide) only [wI_sR, sR_ne, sR_get]; exact upd_n hx
    · rw [if_neg hbt]
      refine ⟨m, ?_, fv.rf m, hV, fun x hx u hu => hu⟩
      have hbf : bet (S (11 + 5 * o + 1)) (S (11 + 5 * o + 2) + S (199 + 18 * l + 3)) (idS S o) v.1 v.2.1 v.2.2.2.2 = false := by revert hbt; cases bet (S (11 + 5 * o + 1)) (S (11 + 5 * o + 2) + S (199 + 18 * l + 3)) (idS S o) v.1 v.2.1 v.2.2.2.2 <;> simp
      unfold f_X10_consider
      simp (disch := omega) only [L0, L1, L2, L3, L4, L5, L6, L7, L8, L9, L10, L11, L12, L13, L14, L15, L16, L17, L18, L19, L20, L21, L22, L23, L24, L25, L26, L27, L28, L29, L30, L31, L32, L47, L48, L50, L51, L57, L59, L90, L97, L100, L120, L122, L127, L179, L187, L199, L200, L487, L974, L1000, L1461, L10000, L18498, L1000000, nI_add, pk_mul, nI_cl, nI_lts, nI_les, nI_eqs, Ln1, n1_ne, n1_ne', n1_lts, nI_ltn, n1_les, nI_len, bd_s, lt_d, gd_n, y_idOf hR ho, eid, rd_age hR ho, hag, if_false, rd_root hR ho, rd_cost hR ho, rd_lcost hR w3 w4 hl, y_isBetter hb hV, hbf, bI_f, if_true]
theorem pl_vec : ∀ i, i < 487 → ¬ (11 ≤ i ∧ i < 51 ∧ (i - 11) % 5 ≠ 0) → ¬ (3 ≤ (pl i).1 ∧ (pl i).1 ≤ 6) := by decide +kernel
theorem pl_vec2 : ∀ i, i < 51 → 11 ≤ i → pl i = (2 + (i - 11) % 5, (i - 11) / 5) := by decide +kernel
theorem y_vectors (hW : WT B T S) (hC : Cl m0 m S) : ∃ m1, f_X10_renew m = some m1 ∧ Cl m0 m1 (sV S B T) := by
  have hR := hC.1
  have w0 := hW.1
  have hB8 := hW.2.2.1
  have w3 := hW.2.2.2.1
  have w4 := hW.2.2.2.2.1
  obtain ⟨t, ht, m1, a1, a2, a3⟩ := lo_rel (b := b_X10_renew_2) (s0 := (nI 0, m)) (N := 2048) (n := B)
    (P := fun k s => ∃ m1, s = (nI k, m1) ∧ fv m m1 ∧ ∀ b, b < k → VR m1 b (v0 S b))
    (Q := fun t => ∃ m1, t = (nI B, m1) ∧ fv m m1 ∧ ∀ b, b < B → VR m1 b (v0 S b))
    ⟨m, rfl, fv.rf m, fun b hb => absurd hb (Nat.not_lt_zero b)⟩ (fun k s hk hP => by
      obtain ⟨m1, rfl, k2, k3⟩ := hP
      have hR1 := k2.RN hR
      have e0 := (rd_size hR1).trans w0
      have : ¬ B ≤ k := by omega
      have hk8 : k < 8 := by omega
      have eid : nI 10 * S (11 + 5 * k) + nI k = idS S k := rfl
      unfold b_X10_renew_2
      simp (disch := omega) only [L0, L1, L2, L3, L4, L5, L6, L7, L8, L9, L10, L11, L12, L13, L14, L15, L16, L17, L18, L19, L20, L21, L22, L23, L24, L25, L26, L27, L28, L29, L30, L31, L32, L47, L48, L50, L51, L57, L59, L90, L97, L100, L120, L122, L127, L179, L187, L199, L200, L487, L974, L1000, L1461, L10000, L18498, L1000000, nI_add, pk_mul, nI_cl, nI_lts, nI_les, nI_eqs, Ln1, n1_ne, n1_ne', n1_lts, nI_ltn, n1_les, nI_len, bd_s, lt_d, gd_n, e0, if_neg this, y_idOf hR1 hk8, eid]
      refine ⟨_, rfl, _, rfl, ((((k2.w (by omega)).w (by omega)).w (by omega)).w (by omega)).w (by omega), fun b hb => ?_⟩
      by_cases hbk : b = k
      · subst hbk
        refine ⟨?_, ?_, ?_, ?_, ?_⟩
        · simp (disch := decide) only [wI_sR, sR_ne, sR_get, upd_e]; rfl
        · simp (disch := decide) only [wI_sR, sR_ne, sR_get, upd_e]; rfl
        · simp (disch := decide) only [wI_sR, sR_ne, sR_get, upd_e]; rfl
        · simp (disch := decide) only [wI_sR, sR_ne, sR_get, upd_e]; rfl
        · simp (disch := decide) only [wI_sR, sR_ne, sR_get, upd_e]; rfl
      · obtain ⟨u1, u2, u3, u4, u5⟩ := k3 b (by omega)
        refine ⟨?_, ?_, ?_, ?_, ?_⟩
        · rw [← u1]; simp (disch := decide) only [wI_sR, sR_ne, sR_get]; exact upd_n hbk
        · rw [← u2]; simp (disch := decide) only [wI_sR, sR_ne, sR_get]; exact upd_n hbk
        · rw [← u3]; simp (disch := decide) only [wI_sR, sR_ne, sR_get]; exact upd_n hbk
        · rw [← u4]; simp (disch := decide) only [wI_sR, sR_ne, sR_get]; exact upd_n hbk
        · rw [← u5]; simp (disch := decide) only [wI_sR, sR_ne, sR_get]; exact upd_n hbk) (fun s hP => by
      obtain ⟨m1, rfl, k2, k3⟩ := hP
      have e0 := (rd_size (k2.RN hR)).trans w0
      refine ⟨_, ?_, m1, rfl, k2, k3⟩
      unfold b_X10_renew_2
      simp (disch := omega) only [L0, L1, L2, L3, L4, L5, L6, L7, L8, L9, L10, L11, L12, L13, L14, L15, L16, L17, L18, L19, L20, L21, L22, L23, L24, L25, L26, L27, L28, L29, L30, L31, L32, L47, L48, L50, L51, L57, L59, L90, L97, L100, L120, L122, L127, L179, L187, L199, L200, L487, L974, L1000, L1461, L10000, L18498, L1000000, nI_add, pk_mul, nI_cl, nI_lts, nI_les, nI_eqs, Ln1, n1_ne, n1_ne', n1_lts, nI_ltn, n1_les, nI_len, bd_s, lt_d, gd_n, e0, if_true, Nat.le_refl]) (by omega)
  obtain ⟨t', ht', m2, b1, b2, b3⟩ := lo_rel (b := b_X10_renew_65) (s0 := (nI 0, m1)) (N := 2048) (n := T)
    (P := fun k s => ∃ m2, s = (nI k, m2) ∧ fv m m2 ∧ ∀ b, b < B → VR m2 b (vv S b k))
    (Q := fun t => ∃ m2, t = (nI T, m2) ∧ fv m m2 ∧ ∀ b, b < B → VR m2 b (vv S b T))
    ⟨m1, rfl, a2, a3⟩ (fun k s hk hP => by
      obtain ⟨m2, rfl, k2, k3⟩ := hP
      have hR2 := k2.RN hR
      have e5 := (rd_total hR2).trans w3
      have hT : ¬ T ≤ k := by omega
      have hk16 : k < 16 := by omega
      obtain ⟨g1, g2, g3, g4⟩ := hW.ends hk
      obtain ⟨g5, g6⟩ := hW.end8 k hk
      have eu := rd_up hR2 w3 w4 hk
      have e12 := (rd_low hR2 w3 w4 hk).trans g1
      have e13 := (rd_high hR2 w3 w4 hk).trans g2
      obtain ⟨a, b', -, -, -, -, -, -, u7, -⟩ := id (hW.2.2.2.2.2.2.2.2.2.1 k hk)
      unfold b_X10_renew_65
      rcases u7 with u7 | u7
      · simp (disch := omega) only [L0, L1, L2, L3, L4, L5, L6, L7, L8, L9, L10, L11, L12, L13, L14, L15, L16, L17, L18, L19, L20, L21, L22, L23, L24, L25, L26, L27, L28, L29, L30, L31, L32, L47, L48, L50, L51, L57, L59, L90, L97, L100, L120, L122, L127, L179, L187, L199, L200, L487, L974, L1000, L1461, L10000, L18498, L1000000, nI_add, pk_mul, nI_cl, nI_lts, nI_les, nI_eqs, Ln1, n1_ne, n1_ne', n1_lts, nI_ltn, n1_les, nI_len, bd_s, lt_d, gd_n, e5, if_neg hT, eu, u7, if_true]
        refine ⟨_, rfl, _, rfl, k2, fun b hb => ?_⟩
        show VR m2 b (vst S b k (vv S b k))
        unfold vst
        rw [u7, if_neg (by decide)]
        exact k3 b hb
      · obtain ⟨m3, c1, c2, c3, c4⟩ := y_consider (o := ly S k) hR2 w3 w4 hk g5 g6 (k3 (lx S k) (by omega))
        obtain ⟨m4, d1, d2, d3, d4⟩ := y_consider (o := lx S k) (c2.RN hR2) w3 w4 hk g6 g5 (c4 (ly S k) (by omega) _ (k3 (ly S k) g4))
        simp (disch := omega) only [L0, L1, L2, L3, L4, L5, L6, L7, L8, L9, L10, L11, L12, L13, L14, L15, L16, L17, L18, L19, L20, L21, L22, L23, L24, L25, L26, L27, L28, L29, L30, L31, L32, L47, L48, L50, L51, L57, L59, L90, L97, L100, L120, L122, L127, L179, L187, L199, L200, L487, L974, L1000, L1461, L10000, L18498, L1000000, nI_add, pk_mul, nI_cl, nI_lts, nI_les, nI_eqs, Ln1, n1_ne, n1_ne', n1_lts, nI_ltn, n1_les, nI_len, bd_s, lt_d, gd_n, e5, if_neg hT, eu, u7, if_false, e12, e13, c1, d1, Nat.one_ne_zero]
        refine ⟨_, rfl, _, rfl, k2.tr (c2.tr d2), fun b hb => ?_⟩
        show VR m4 b (vst S b k (vv S b k))
        unfold vst
        rw [u7, if_pos rfl]
        by_cases h1 : lx S k = b
        · subst h1
          rw [if_pos rfl]
          exact d4 _ (by omega) _ c3
        · rw [if_neg h1]
          by_cases h2 : ly S k = b
          · subst h2
            rw [if_pos rfl]
            exact d3
          · rw [if_neg h2]
            exact d4 _ (fun h => h2 h.symm) _ (c4 _ (fun h => h1 h.symm) _ (k3 b hb))) (fun s hP => by
      obtain ⟨m2, rfl, k2, k3⟩ := hP
      have e5 := (rd_total (k2.RN hR)).trans w3
      refine ⟨_, ?_, m2, rfl, k2, k3⟩
      unfold b_X10_renew_65
      simp (disch := omega) only [L0, L1, L2, L3, L4, L5, L6, L7, L8, L9, L10, L11, L12, L13, L14, L15, L16, L17, L18, L19, L20, L21, L22, L23, L24, L25, L26, L27, L28, L29, L30, L31, L32, L47, L48, L50, L51, L57, L59, L90, L97, L100, L120, L122, L127, L179, L187, L199, L200, L487, L974, L1000, L1461, L10000, L18498, L1000000, nI_add, pk_mul, nI_cl, nI_lts, nI_les, nI_eqs, Ln1, n1_ne, n1_ne', n1_lts, nI_ltn, n1_les, nI_len, bd_s, lt_d, gd_n, e5, if_true, Nat.le_refl]) (by omega)
  have hR2 := b2.RN hR
  have e0 := (rd_size hR2).trans w0
  refine ⟨sR (sR (sR (sR m2 4 (mx B (m2.1 115) (m2.1 4))) 5 (mx B (m2.1 116) (m2.1 5))) 6 (mx B (m2.1 117) (m2.1 6))) 7 (mx B (m2.1 118) (m2.1 7)), ?_, ⟨fun i hi hr => ?_, fun t l ht hl hTl => ?_, fun l hl => ?_⟩, fun o h1 h2 => ?_, ?_⟩
  · unfold f_X10_renew
    have hB9 : gd (inR (nI B) 9) = fun k => (k : Option me) := by funext k; exact gd_n (by omega) (by omega)
    simp (disch := omega) only [L0, L1, L2, L3, L4, L5, L6, L7, L8, L9, L10, L11, L12, L13, L14, L15, L16, L17, L18, L19, L20, L21, L22, L23, L24, L25, L26, L27, L28, L29, L30, L31, L32, L47, L48, L50, L51, L57, L59, L90, L97, L100, L120, L122, L127, L179, L187, L199, L200, L487, L974, L1000, L1461, L10000, L18498, L1000000, nI_add, pk_mul, nI_cl, nI_lts, nI_les, nI_eqs, Ln1, n1_ne, n1_ne', n1_lts, nI_ltn, n1_les, nI_len, bd_s, lt_d, gd_n, ht, a1, ht', b1, e0, cp_mx, sR_ne]
  · by_cases hv : 11 ≤ i ∧ i < 51 ∧ (i - 11) % 5 ≠ 0
    · rw [pl_vec2 i hv.2.1 hv.1]
      have hold := hR2.1 i hi ⟨fun hm => by omega, fun hm => by omega⟩
      rw [pl_vec2 i hv.2.1 hv.1] at hold
      unfold sV
      have hb : (i - 11) / 5 < 8 := by omega
      generalize hbb : (i - 11) / 5 = b at *
      have hj : (i - 11) % 5 = 1 ∨ (i - 11) % 5 = 2 ∨ (i - 11) % 5 = 3 ∨ (i - 11) % 5 = 4 := by omega
      by_cases hbB : b < B
      · rw [if_pos ⟨hv.1, by omega, hv.2.2⟩]
        obtain ⟨u1, u2, u3, u4, u5⟩ := b3 b hbB
        rcases hj with hj | hj | hj | hj
        · rw [hj]
          show (sR (sR (sR (sR m2 4 _) 5 _) 6 _) 7 _).1 4 b = _
          rw [sR_ne (by decide), sR_ne (by decide), sR_ne (by decide), sR_get, mx_lt hbB, u1]; rfl
        · rw [hj]
          show (sR (sR (sR (sR m2 4 _) 5 _) 6 _) 7 _).1 5 b = _
          rw [sR_ne (by decide), sR_ne (by decide), sR_get, mx_lt hbB, u2]; rfl
        · rw [hj]
          show (sR (sR (sR (sR m2 4 _) 5 _) 6 _) 7 _).1 6 b = _
          rw [sR_ne (by decide), sR_get, mx_lt hbB, u3]; rfl
        · rw [hj]
          show (sR (sR (sR (sR m2 4 _) 5 _) 6 _) 7 _).1 7 b = _
          rw [sR_get, mx_lt hbB, u4]; rfl
      · rw [if_neg (by omega), ← hold]
        have hmx : ∀ f g : Nat → Int32, mx B f g b = g b := fun f g => if_neg hbB
        rcases hj with hj | hj | hj | hj
        · rw [hj]
          show (sR (sR (sR (sR m2 4 _) 5 _) 6 _) 7 _).1 4 b = m2.1 4 b
          rw [sR_ne (by decide), sR_ne (by decide), sR_ne (by decide), sR_get, hmx]
        · rw [hj]
          show (sR (sR (sR (sR m2 4 _) 5 _) 6 _) 7 _).1 5 b = m2.1 5 b
          rw [sR_ne (by decide), sR_ne (by decide), sR_get, hmx]
        · rw [hj]
          show (sR (sR (sR (sR m2 4 _) 5 _) 6 _) 7 _).1 6 b = m2.1 6 b
          rw [sR_ne (by decide), sR_get, hmx]
        · rw [hj]
          show (sR (sR (sR (sR m2 4 _) 5 _) 6 _) 7 _).1 7 b = m2.1 7 b
          rw [sR_get, hmx]
    · have hp := pl_vec i hi hv
      rw [sR_ne (by omega), sR_ne (by omega), sR_ne (by omega), sR_ne (by omega)]
      have es : sV S B T i = S i := by unfold sV; rw [if_neg (by omega)]
      rw [es]
      refine hR2.1 i hi ⟨fun hm => ?_, fun hm => ?_⟩
      · have := hr.1 hm
        unfold sV at this
        rw [if_neg (by omega)] at this
        exact this
      · have := hr.2 hm
        unfold sV at this
        rw [if_neg (by omega)] at this
        exact this
  · have hTl' : (S 5).toNatClampNeg ≤ l := by
      unfold sV at hTl
      rw [if_neg (by omega)] at hTl
      exact hTl
    show (sR _ 7 _).1 27 _ = _
    rw [sR_ne (by decide), sR_ne (by decide), sR_ne (by decide), sR_ne (by decide)]
    exact hR2.2.1 t l ht hl hTl'
  · show isB ((sR _ 7 _).1 16 l) = true
    rw [sR_ne (by decide), sR_ne (by decide), sR_ne (by decide), sR_ne (by decide)]
    exact hR2.2.2 l hl
  · rw [sR_ne (by omega), sR_ne (by omega), sR_ne (by omega), sR_ne (by omega), b2.1 o (by omega)]
    exact hC.2.1 o h1 h2
  · show m2.2 = m0.2
    rw [b2.2]; exact hC.2.2
end PV
