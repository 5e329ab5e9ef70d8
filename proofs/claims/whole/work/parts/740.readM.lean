/-! The script's text: the model's reader. -/
def MP (n : Nat) (d : Nat → Nat) (M : me) (p : Nat) : Prop := n ≤ 120 ∧ (∀ i, i < n → d i ≤ 127) ∧ M.1 128 5 = nI n ∧ M.1 128 11 = nI p ∧ p ≤ n ∧ ∀ i, i < n → M.1 132 i = nI (d i)
def gp (a b : me) : Prop := (∀ q, q ≠ 128 → q ≠ 136 → b.1 q = a.1 q) ∧ (∀ j, j ≠ 11 → j ≠ 12 → b.1 128 j = a.1 128 j) ∧ b.2 = a.2
section PMR
variable {n p q i w : Nat} {d : Nat → Nat} {v u : Int32} {M M1 M2 : me}
theorem gp.rf (M : me) : gp M M := ⟨fun _ _ _ => rfl, fun _ _ _ => rfl, rfl⟩
theorem gp.tr (h : gp M M1) (k : gp M1 M2) : gp M M2 := ⟨fun q a b => (k.1 q a b).trans (h.1 q a b), fun j a b => (k.2.1 j a b).trans (h.2.1 j a b), k.2.2.trans h.2.2⟩
theorem gp.w11 : gp M (wI M 128 11 v) := ⟨fun q a b => by rw [wI_sR, sR_ne a], fun j a b => by rw [wI_sR, sR_get, upd_n a], rfl⟩
theorem gp.w12 : gp M (wI M 128 12 v) := ⟨fun q a b => by rw [wI_sR, sR_ne a], fun j a b => by rw [wI_sR, sR_get, upd_n b], rfl⟩
theorem gp.w136 {j : Nat} : gp M (wI M 136 j v) := ⟨fun q a b => by rw [wI_sR, sR_ne b], fun j a b => by rw [wI_sR, sR_ne (by decide)], rfl⟩
theorem t_e {j : Nat} : (wI M 128 j v).1 128 j = v := by rw [wI_sR, sR_get, upd_e]
theorem t_n {j k : Nat} (h : k ≠ j) : (wI M 128 j v).1 128 k = M.1 128 k := by rw [wI_sR, sR_get, upd_n h]
theorem t_32 {j : Nat} : (wI M 128 j v).1 132 = M.1 132 := by rw [wI_sR, sR_ne (by decide)]
theorem t_36 {j : Nat} : (wI M 128 j v).1 136 = M.1 136 := by rw [wI_sR, sR_ne (by decide)]
theorem t_ww {j : Nat} : wI (wI M 128 j v) 128 j u = wI M 128 j u := by rw [wI_sR, wI_sR, sR_get, sR_sR, upd_upd, ← wI_sR]
theorem MP.mv (h : MP n d M p) (hq : q ≤ n) : MP n d (wI M 128 11 (nI q)) q := by
  obtain ⟨h1, h2, h3, h4, h6, h7⟩ := h
  exact ⟨h1, h2, by rw [t_n (by decide)]; exact h3, t_e, hq, fun i hi => by rw [t_32]; exact h7 i hi⟩
theorem MP.self (h : MP n d M p) : wI M 128 11 (nI p) = M := by rw [wI_sR, upd_self h.2.2.2.1, sR_self]
theorem MP.wd (h : MP n d M p) : MP n d (wI M 128 12 v) p := by
  obtain ⟨h1, h2, h3, h4, h6, h7⟩ := h
  exact ⟨h1, h2, by rw [t_n (by decide)]; exact h3, by rw [t_n (by decide)]; exact h4, h6, fun i hi => by rw [t_32]; exact h7 i hi⟩
theorem MP.nm (h : MP n d M p) {j : Nat} : MP n d (wI M 136 j v) p := by
  obtain ⟨h1, h2, h3, h4, h6, h7⟩ := h
  have e : (wI M 136 j v).1 128 = M.1 128 := by rw [wI_sR, sR_ne (by decide)]
  exact ⟨h1, h2, by rw [e]; exact h3, by rw [e]; exact h4, h6, fun i hi => by rw [wI_sR, sR_ne (by decide)]; exact h7 i hi⟩
theorem x_isIn {a b : Nat} (h : MP n d M p) (ha : a ≤ 1000) (hb : b ≤ 1000) : f_X12_isIn (nI a) (nI b) M = some (bI (decide (p < n) && (decide (a ≤ d p) && decide (d p ≤ b))), M) := by
  obtain ⟨h1, h2, h3, h4, h6, h7⟩ := id h
  unfold f_X12_isIn f_X12_in
  by_cases hp : p < n
  · have hn : ¬ n ≤ p := by omega
    have hd := h2 p hp
    rw [decide_eq_true hp]
    by_cases g1 : a ≤ d p
    · have g1' : ¬ d p < a := by omega
      rw [decide_eq_true g1]
      by_cases g2 : d p ≤ b
      · have g2' : ¬ b < d p := by omega
        rw [decide_eq_true g2]
        simp (disch := omega) only [L0, L1, L2, L3, L4, L5, L6, L7, L8, L9, L10, L11, L12, L13, L14, L15, L16, L17, L18, L19, L20, L21, L22, L23, L24, L25, L26, L27, L28, L29, L30, L31, L32, L47, L48, L50, L51, L57, L59, L90, L97, L100, L120, L122, L127, L179, L187, L199, L200, L487, L974, L1000, L1461, L10000, L18498, L1000000, nI_add, pk_mul, nI_cl, nI_lts, nI_les, nI_eqs, Ln1, n1_ne, n1_ne', n1_lts, nI_ltn, n1_les, nI_len, bd_s, lt_d, gd_n, h3, h4, if_neg hn, h7 p hp, if_neg g1', if_neg g2', i10, if_false, Nat.one_ne_zero]
        rfl
      · have g2' : b < d p := by omega
        rw [decide_eq_false g2]
        simp (disch := omega) only [L0, L1, L2, L3, L4, L5, L6, L7, L8, L9, L10, L11, L12, L13, L14, L15, L16, L17, L18, L19, L20, L21, L22, L23, L24, L25, L26, L27, L28, L29, L30, L31, L32, L47, L48, L50, L51, L57, L59, L90, L97, L100, L120, L122, L127, L179, L187, L199, L200, L487, L974, L1000, L1461, L10000, L18498, L1000000, nI_add, pk_mul, nI_cl, nI_lts, nI_les, nI_eqs, Ln1, n1_ne, n1_ne', n1_lts, nI_ltn, n1_les, nI_len, bd_s, lt_d, gd_n, h3, h4, if_neg hn, h7 p hp, if_neg g1', if_pos g2', if_true]
        rfl
    · have g1' : d p < a := by omega
      rw [decide_eq_false g1]
      simp (disch := omega) only [L0, L1, L2, L3, L4, L5, L6, L7, L8, L9, L10, L11, L12, L13, L14, L15, L16, L17, L18, L19, L20, L21, L22, L23, L24, L25, L26, L27, L28, L29, L30, L31, L32, L47, L48, L50, L51, L57, L59, L90, L97, L100, L120, L122, L127, L179, L187, L199, L200, L487, L974, L1000, L1461, L10000, L18498, L1000000, nI_add, pk_mul, nI_cl, nI_lts, nI_les, nI_eqs, Ln1, n1_ne, n1_ne', n1_lts, nI_ltn, n1_les, nI_len, bd_s, lt_d, gd_n, h3, h4, if_neg hn, h7 p hp, if_pos g1', if_true]
      rfl
  · have hn : n ≤ p := by omega
    rw [decide_eq_false hp]
    simp (disch := omega) only [L0, L1, L2, L3, L4, L5, L6, L7, L8, L9, L10, L11, L12, L13, L14, L15, L16, L17, L18, L19, L20, L21, L22, L23, L24, L25, L26, L27, L28, L29, L30, L31, L32, L47, L48, L50, L51, L57, L59, L90, L97, L100, L120, L122, L127, L179, L187, L199, L200, L487, L974, L1000, L1461, L10000, L18498, L1000000, nI_add, pk_mul, nI_cl, nI_lts, nI_les, nI_eqs, Ln1, n1_ne, n1_ne', n1_lts, nI_ltn, n1_les, nI_len, bd_s, lt_d, gd_n, h3, h4, if_pos hn]
    rfl
theorem sp_in : sp n d q = (decide (q < n) && (decide (32 ≤ d q) && decide (d q ≤ 32))) := by
  unfold sp
  by_cases h : d q = 32
  · rw [decide_eq_true h, decide_eq_true (show 32 ≤ d q by omega), decide_eq_true (show d q ≤ 32 by omega)]; rfl
  · rw [decide_eq_false h]
    by_cases h1 : 32 ≤ d q
    · rw [decide_eq_true h1, decide_eq_false (show ¬ d q ≤ 32 by omega)]; rfl
    · rw [decide_eq_false h1]; rfl
theorem sc_in : sc n d q = (decide (q < n) && (decide (59 ≤ d q) && decide (d q ≤ 59))) := by
  unfold sc
  by_cases h : d q = 59
  · rw [decide_eq_true h, decide_eq_true (show 59 ≤ d q by omega), decide_eq_true (show d q ≤ 59 by omega)]; rfl
  · rw [decide_eq_false h]
    by_cases h1 : 59 ≤ d q
    · rw [decide_eq_true h1, decide_eq_false (show ¬ d q ≤ 59 by omega)]; rfl
    · rw [decide_eq_false h1]; rfl
theorem x_skips (h : MP n d M p) : f_X12_skips M = some (wI M 128 11 (nI (SK n d p))) := by
  obtain ⟨h1, h2, h3, h4, h6, h7⟩ := id h
  have := lo_av (n := n) (cnd := sp n d) (b := b_X12_skips_0) (g := fun q (_ : Unit) => wI M 128 11 (nI q)) (e := fun q _ => wI M 128 11 (nI q)) (φ := fun _ a => a) sp_c (fun q _ hq hc => by
    have hi := x_isIn (a := 32) (b := 32) (h.mv (show q ≤ n by omega)) (by decide) (by decide)
    rw [← sp_in, hc, bI_t] at hi
    unfold b_X12_skips_0
    simp (disch := omega) only [L0, L1, L2, L3, L4, L5, L6, L7, L8, L9, L10, L11, L12, L13, L14, L15, L16, L17, L18, L19, L20, L21, L22, L23, L24, L25, L26, L27, L28, L29, L30, L31, L32, L47, L48, L50, L51, L57, L59, L90, L97, L100, L120, L122, L127, L179, L187, L199, L200, L487, L974, L1000, L1461, L10000, L18498, L1000000, nI_add, pk_mul, nI_cl, nI_lts, nI_les, nI_eqs, Ln1, n1_ne, n1_ne', n1_lts, nI_ltn, n1_les, nI_len, bd_s, lt_d, gd_n, hi, i10, if_false, t_e, t_ww, Nat.one_ne_zero]) (fun q _ hq hc => by
    have hi := x_isIn (a := 32) (b := 32) (h.mv hq) (by decide) (by decide)
    rw [← sp_in, hc, bI_f] at hi
    unfold b_X12_skips_0
    simp (disch := omega) only [L0, L1, L2, L3, L4, L5, L6, L7, L8, L9, L10, L11, L12, L13, L14, L15, L16, L17, L18, L19, L20, L21, L22, L23, L24, L25, L26, L27, L28, L29, L30, L31, L32, L47, L48, L50, L51, L57, L59, L90, L97, L100, L120, L122, L127, L179, L187, L199, L200, L487, L974, L1000, L1461, L10000, L18498, L1000000, nI_add, pk_mul, nI_cl, nI_lts, nI_les, nI_eqs, Ln1, n1_ne, n1_ne', n1_lts, nI_ltn, n1_les, nI_len, bd_s, lt_d, gd_n, hi, if_true]) 120 p () 2048 h6 (by omega) (by decide)
  have t : lo b_X12_skips_0 2048 (wI M 128 11 (nI p)) = some (wI M 128 11 (nI (SK n d p))) := this
  rw [h.self] at t
  unfold f_X12_skips
  rw [t, bd_s]
/-- the letters, packed -/
def pk8 (d : Nat → Nat) (q : Nat) (a : Int32) : Int32 := (a <<< (nI 8 &&& nI 31)) ||| nI (d q)
theorem x_letters (h : MP n d M p) : lo (b_X12_isCommand_7 v) 2048 (nI 0, M) = some (fo (pk8 d) p (LE n d p - p) (nI 0), wI M 128 11 (nI (LE n d p))) := by
  obtain ⟨h1, h2, h3, h4, h6, h7⟩ := id h
  have := lo_av (n := n) (cnd := ltr n d) (b := b_X12_isCommand_7 v) (g := fun q (a : Int32) => (a, wI M 128 11 (nI q))) (e := fun q a => (a, wI M 128 11 (nI q))) (φ := pk8 d) ltr_c (fun q a hq hc => by
    have hi := x_isIn (a := 97) (b := 122) (h.mv (show q ≤ n by omega)) (by decide) (by decide)
    have hc' : (decide (q < n) && (decide (97 ≤ d q) && decide (d q ≤ 122))) = true := hc
    rw [hc', bI_t] at hi
    unfold b_X12_isCommand_7
    simp (disch := omega) only [L0, L1, L2, L3, L4, L5, L6, L7, L8, L9, L10, L11, L12, L13, L14, L15, L16, L17, L18, L19, L20, L21, L22, L23, L24, L25, L26, L27, L28, L29, L30, L31, L32, L47, L48, L50, L51, L57, L59, L90, L97, L100, L120, L122, L127, L179, L187, L199, L200, L487, L974, L1000, L1461, L10000, L18498, L1000000, nI_add, pk_mul, nI_cl, nI_lts, nI_les, nI_eqs, Ln1, n1_ne, n1_ne', n1_lts, nI_ltn, n1_les, nI_len, bd_s, lt_d, gd_n, hi, i10, if_false, t_e, t_32, h7 q hq, t_ww, Nat.one_ne_zero]
    rfl) (fun q a hq hc => by
    have hi := x_isIn (a := 97) (b := 122) (h.mv hq) (by decide) (by decide)
    have hc' : (decide (q < n) && (decide (97 ≤ d q) && decide (d q ≤ 122))) = false := hc
    rw [hc', bI_f] at hi
    unfold b_X12_isCommand_7
    simp (disch := omega) only [L0, L1, L2, L3, L4, L5, L6, L7, L8, L9, L10, L11, L12, L13, L14, L15, L16, L17, L18, L19, L20, L21, L22, L23, L24, L25, L26, L27, L28, L29, L30, L31, L32, L47, L48, L50, L51, L57, L59, L90, L97, L100, L120, L122, L127, L179, L187, L199, L200, L487, L974, L1000, L1461, L10000, L18498, L1000000, nI_add, pk_mul, nI_cl, nI_lts, nI_les, nI_eqs, Ln1, n1_ne, n1_ne', n1_lts, nI_ltn, n1_les, nI_len, bd_s, lt_d, gd_n, hi, if_true]) 120 p (nI 0) 2048 h6 (by omega) (by decide)
  rw [avA_fo] at this
  have t : lo (b_X12_isCommand_7 v) 2048 (nI 0, wI M 128 11 (nI p)) = some (fo (pk8 d) p (LE n d p - p) (nI 0), wI M 128 11 (nI (LE n d p))) := this
  rw [h.self] at t
  exact t
theorem pk8_s {x : Nat} (hx : x < 8388608) (hd : d q < 256) : pk8 d q (nI x) = nI (x * 256 + d q) := by
  unfold pk8
  rw [pk_shlN (n := x) (nI 8 &&& nI 31) 8 (by decide) (by omega), nI_or]
  refine congrArg nI ?_
  rw [← Nat.shiftLeft_eq, ← Nat.shiftLeft_add_eq_or_of_lt (i := 8) hd, Nat.shiftLeft_eq]
theorem nI_neq {a b : Nat} (ha : a < 2147483648) (hb : b < 2147483648) (h : a ≠ b) : ¬ nI a = nI b := by rw [nI_eqs ha hb]; exact h
theorem x_wordOf {L : Nat} (hL : L ≤ 120) (hc : ∀ i, i < L → 97 ≤ d (p + i) ∧ d (p + i) ≤ 122) : f_X12_wordOf (fo (pk8 d) p L (nI 0)) (nI L) M = some (if firstW (isW d p L) = 7 then nI 0 else nI (firstW (isW d p L) + 1), M) := by
  by_cases h3 : L = 3
  · subst h3
    obtain ⟨a1, a2⟩ := hc 0 (by decide)
    obtain ⟨b1, b2⟩ := hc 1 (by decide)
    obtain ⟨c1, c2⟩ := hc 2 (by decide)
    have e : fo (pk8 d) p 3 (nI 0) = nI ((d (p + 0) * 256 + d (p + 1)) * 256 + d (p + 2)) := by
      show pk8 d (p + 2) (pk8 d (p + 1) (pk8 d (p + 0) (nI 0))) = _
      rw [pk8_s (by decide) (by omega), pk8_s (by omega) (by omega), pk8_s (by omega) (by omega), Nat.zero_mul, Nat.zero_add]
    have f0 : isW d p 3 0 = false := by simp [isW, mtW, pc0, pc1, pc2, pc3]
    have f2 : isW d p 3 2 = false := by simp [isW, mtW, pc10, pc11, pc12, pc13]
    have f4 : isW d p 3 4 = false := by simp [isW, mtW, pc20, pc21, pc22, pc23]
    have f5 : isW d p 3 5 = false := by simp [isW, mtW, pc25, pc26, pc27, pc28]
    have f6 : isW d p 3 6 = false := by simp [isW, mtW, pc30, pc31, pc32, pc33]
    have f1 : isW d p 3 1 = (decide (98 = d (p + 0)) && (decide (105 = d (p + 1)) && decide (100 = d (p + 2)))) := by
      show (decide (3 ≤ 4) && ((((true && decide (pcn 5 = d (p + 0))) && decide (pcn 6 = d (p + 1))) && decide (pcn 7 = d (p + 2))) && decide (pcn 8 = 32))) = _
      rw [pc5, pc6, pc7, pc8]
      simp [Bool.and_assoc]
    have f3 : isW d p 3 3 = (decide (102 = d (p + 0)) && (decide (105 = d (p + 1)) && decide (120 = d (p + 2)))) := by
      show (decide (3 ≤ 4) && ((((true && decide (pcn 15 = d (p + 0))) && decide (pcn 16 = d (p + 1))) && decide (pcn 17 = d (p + 2))) && decide (pcn 18 = 32))) = _
      rw [pc15, pc16, pc17, pc18]
      simp [Bool.and_assoc]
    rw [e]
    unfold f_X12_wordOf
    rw [show (3 : Int32) = nI 3 from rfl, ifp rfl, show (6449508 : Int32) = nI 6449508 from rfl, show (6711672 : Int32) = nI 6711672 from rfl]
    by_cases g1 : 98 = d (p + 0) ∧ 105 = d (p + 1) ∧ 100 = d (p + 2)
    · obtain ⟨x1, x2, x3⟩ := g1
      have hf : firstW (isW d p 3) = 1 := firstW_of (by rw [f1, ← x1, ← x2, ← x3]; rfl) (fun u hu => by rw [show u = 0 by omega]; exact f0) (by decide)
      rw [hf, ← x1, ← x2, ← x3]
      rfl
    · have f1' : isW d p 3 1 = false := by
        rw [f1]
        refine bf_of (fun hh => g1 ?_)
        simp only [Bool.and_eq_true, decide_eq_true_eq] at hh
        exact hh
      rw [ifn (nI_neq (by omega) (by omega) (by omega))]
      by_cases g3 : 102 = d (p + 0) ∧ 105 = d (p + 1) ∧ 120 = d (p + 2)
      · obtain ⟨x1, x2, x3⟩ := g3
        have hf : firstW (isW d p 3) = 3 := firstW_of (by rw [f3, ← x1, ← x2, ← x3]; rfl) (fun u hu => by
          have : u = 0 ∨ u = 1 ∨ u = 2 := by omega
          rcases this with rfl | rfl | rfl
          · exact f0
          · exact f1'
          · exact f2) (by decide)
        rw [hf, ← x1, ← x2, ← x3]
        rfl
      · have f3' : isW d p 3 3 = false := by
          rw [f3]
          refine bf_of (fun hh => g3 ?_)
          simp only [Bool.and_eq_true, decide_eq_true_eq] at hh
          exact hh
        rw [ifn (nI_neq (by omega) (by omega) (by omega))]
        have hf : firstW (isW d p 3) = 7 := firstW_no (fun u hu => by
          have : u = 0 ∨ u = 1 ∨ u = 2 ∨ u = 3 ∨ u = 4 ∨ u = 5 ∨ u = 6 := by omega
          rcases this with rfl | rfl | rfl | rfl | rfl | rfl | rfl
          · exact f0
          · exact f1'
          · exact f2
          · exact f3'
          · exact f4
          · exact f5
          · exact f6)
        rw [hf]
        rfl
  · by_cases h4 : L = 4
    · subst h4
      obtain ⟨a1, a2⟩ := hc 0 (by decide)
      obtain ⟨b1, b2⟩ := hc 1 (by decide)
      obtain ⟨c1, c2⟩ := hc 2 (by decide)
      obtain ⟨d1, d2⟩ := hc 3 (by decide)
      have e : fo (pk8 d) p 4 (nI 0) = nI (((d (p + 0) * 256 + d (p + 1)) * 256 + d (p + 2)) * 256 + d (p + 3)) := by
        show pk8 d (p + 3) (pk8 d (p + 2) (pk8 d (p + 1) (pk8 d (p + 0) (nI 0)))) = _
        rw [pk8_s (by decide) (by omega), pk8_s (by omega) (by omega), pk8_s (by omega) (by omega), pk8_s (by omega) (by omega), Nat.zero_mul, Nat.zero_add]
      have fw : ∀ w, w < 7 → isW d p 4 w = (decide (pcn (5 * w + 0) = d (p + 0)) && (decide (pcn (5 * w + 1) = d (p + 1)) && (decide (pcn (5 * w + 2) = d (p + 2)) && decide (pcn (5 * w + 3) = d (p + 3))))) := fun w hw => by
        have h32 : pcn (5 * w + 4) = 32 := by
          have : w = 0 ∨ w = 1 ∨ w = 2 ∨ w = 3 ∨ w = 4 ∨ w = 5 ∨ w = 6 := by omega
          rcases this with rfl | rfl | rfl | rfl | rfl | rfl | rfl <;> decide +kernel
        show (decide (4 ≤ 4) && (((((true && decide (pcn (5 * w + 0) = d (p + 0))) && decide (pcn (5 * w + 1) = d (p + 1))) && decide (pcn (5 * w + 2) = d (p + 2))) && decide (pcn (5 * w + 3) = d (p + 3))) && decide (pcn (5 * w + 4) = 32))) = _
        rw [h32]
        simp [Bool.and_assoc]
      have f1 : isW d p 4 1 = false := by
        rw [fw 1 (by decide), show pcn (5 * 1 + 3) = 32 from pc8, decide_eq_false (show ¬ 32 = d (p + 3) by omega)]
        simp
      have f3 : isW d p 4 3 = false := by
        rw [fw 3 (by decide), show pcn (5 * 3 + 3) = 32 from pc18, decide_eq_false (show ¬ 32 = d (p + 3) by omega)]
        simp
      have f0 : isW d p 4 0 = true ↔ 108 = d (p + 0) ∧ 105 = d (p + 1) ∧ 110 = d (p + 2) ∧ 107 = d (p + 3) := by
        rw [fw 0 (by decide), show pcn (5 * 0 + 0) = 108 from pc0, show pcn (5 * 0 + 1) = 105 from pc1, show pcn (5 * 0 + 2) = 110 from pc2, show pcn (5 * 0 + 3) = 107 from pc3]
        simp only [Bool.and_eq_true, decide_eq_true_eq]
      have f2 : isW d p 4 2 = true ↔ 102 = d (p + 0) ∧ 97 = d (p + 1) ∧ 105 = d (p + 2) ∧ 108 = d (p + 3) := by
        rw [fw 2 (by decide), show pcn (5 * 2 + 0) = 102 from pc10, show pcn (5 * 2 + 1) = 97 from pc11, show pcn (5 * 2 + 2) = 105 from pc12, show pcn (5 * 2 + 3) = 108 from pc13]
        simp only [Bool.and_eq_true, decide_eq_true_eq]
      have f4 : isW d p 4 4 = true ↔ 112 = d (p + 0) ∧ 114 = d (p + 1) ∧ 105 = d (p + 2) ∧ 111 = d (p + 3) := by
        rw [fw 4 (by decide), show pcn (5 * 4 + 0) = 112 from pc20, show pcn (5 * 4 + 1) = 114 from pc21, show pcn (5 * 4 + 2) = 105 from pc22, show pcn (5 * 4 + 3) = 111 from pc23]
        simp only [Bool.and_eq_true, decide_eq_true_eq]
      have f5 : isW d p 4 5 = true ↔ 104 = d (p + 0) ∧ 111 = d (p + 1) ∧ 115 = d (p + 2) ∧ 116 = d (p + 3) := by
        rw [fw 5 (by decide), show pcn (5 * 5 + 0) = 104 from pc25, show pcn (5 * 5 + 1) = 111 from pc26, show pcn (5 * 5 + 2) = 115 from pc27, show pcn (5 * 5 + 3) = 116 from pc28]
        simp only [Bool.and_eq_true, decide_eq_true_eq]
      have f6 : isW d p 4 6 = true ↔ 116 = d (p + 0) ∧ 105 = d (p + 1) ∧ 99 = d (p + 2) ∧ 107 = d (p + 3) := by
        rw [fw 6 (by decide), show pcn (5 * 6 + 0) = 116 from pc30, show pcn (5 * 6 + 1) = 105 from pc31, show pcn (5 * 6 + 2) = 99 from pc32, show pcn (5 * 6 + 3) = 107 from pc33]
        simp only [Bool.and_eq_true, decide_eq_true_eq]
      rw [e]
      unfold f_X12_wordOf
      rw [show (3 : Int32) = nI 3 from rfl, ifn (show ¬ nI 4 = nI 3 by decide), show (4 : Int32) = nI 4 from rfl, ifp rfl, show (1818848875 : Int32) = nI 1818848875 from rfl, show (1717660012 : Int32) = nI 1717660012 from rfl, show (1886546287 : Int32) = nI 1886546287 from rfl, show (1752134516 : Int32) = nI 1752134516 from rfl, show (1953063787 : Int32) = nI 1953063787 from rfl]
      have key : ∀ w, w ≤ 6 → (∀ u, u < w → isW d p 4 u = false) → isW d p 4 w = true → firstW (isW d p 4) = w := fun w h1 h2 h3 => firstW_of h3 h2 h1
      by_cases g0 : 108 = d (p + 0) ∧ 105 = d (p + 1) ∧ 110 = d (p + 2) ∧ 107 = d (p + 3)
      · rw [key 0 (by decide) (fun u hu => absurd hu (Nat.not_lt_zero u)) (f0.mpr g0)]
        obtain ⟨x1, x2, x3, x4⟩ := g0
        rw [← x1, ← x2, ← x3, ← x4]
        rfl
      · have f0' : isW d p 4 0 = false := bf_of (fun hh => g0 (f0.mp hh))
        rw [ifn (nI_neq (by omega) (by omega) (by omega))]
        by_cases g2 : 102 = d (p + 0) ∧ 97 = d (p + 1) ∧ 105 = d (p + 2) ∧ 108 = d (p + 3)
        · rw [key 2 (by decide) (fun u hu => by
            have : u = 0 ∨ u = 1 := by omega
            rcases this with rfl | rfl
            · exact f0'
            · exact f1) (f2.mpr g2)]
          obtain ⟨x1, x2, x3, x4⟩ := g2
          rw [← x1, ← x2, ← x3, ← x4]
          rfl
        · have f2' : isW d p 4 2 = false := bf_of (fun hh => g2 (f2.mp hh))
          rw [ifn (nI_neq (by omega) (by omega) (by omega))]
          by_cases g4 : 112 = d (p + 0) ∧ 114 = d (p + 1) ∧ 105 = d (p + 2) ∧ 111 = d (p + 3)
          · rw [key 4 (by decide) (fun u hu => by
              have : u = 0 ∨ u = 1 ∨ u = 2 ∨ u = 3 := by omega
              rcases this with rfl | rfl | rfl | rfl
              · exact f0'
              · exact f1
              · exact f2'
              · exact f3) (f4.mpr g4)]
            obtain ⟨x1, x2, x3, x4⟩ := g4
            rw [← x1, ← x2, ← x3, ← x4]
            rfl
          · have f4' : isW d p 4 4 = false := bf_of (fun hh => g4 (f4.mp hh))
            rw [ifn (nI_neq (by omega) (by omega) (by omega))]
            by_cases g5 : 104 = d (p + 0) ∧ 111 = d (p + 1) ∧ 115 = d (p + 2) ∧ 116 = d (p + 3)
            · rw [key 5 (by decide) (fun u hu => by
                have : u = 0 ∨ u = 1 ∨ u = 2 ∨ u = 3 ∨ u = 4 := by omega
                rcases this with rfl | rfl | rfl | rfl | rfl
                · exact f0'
                · exact f1
                · exact f2'
                · exact f3
                · exact f4') (f5.mpr g5)]
              obtain ⟨x1, x2, x3, x4⟩ := g5
              rw [← x1, ← x2, ← x3, ← x4]
              rfl
            · have f5' : isW d p 4 5 = false := bf_of (fun hh => g5 (f5.mp hh))
              rw [ifn (nI_neq (by omega) (by omega) (by omega))]
              by_cases g6 : 116 = d (p + 0) ∧ 105 = d (p + 1) ∧ 99 = d (p + 2) ∧ 107 = d (p + 3)
              · rw [key 6 (by decide) (fun u hu => by
                  have : u = 0 ∨ u = 1 ∨ u = 2 ∨ u = 3 ∨ u = 4 ∨ u = 5 := by omega
                  rcases this with rfl | rfl | rfl | rfl | rfl | rfl
                  · exact f0'
                  · exact f1
                  · exact f2'
                  · exact f3
                  · exact f4'
                  · exact f5') (f6.mpr g6)]
                obtain ⟨x1, x2, x3, x4⟩ := g6
                rw [← x1, ← x2, ← x3, ← x4]
                rfl
              · have f6' : isW d p 4 6 = false := bf_of (fun hh => g6 (f6.mp hh))
                rw [ifn (nI_neq (by omega) (by omega) (by omega))]
                have hf : firstW (isW d p 4) = 7 := firstW_no (fun u hu => by
                  have : u = 0 ∨ u = 1 ∨ u = 2 ∨ u = 3 ∨ u = 4 ∨ u = 5 ∨ u = 6 := by omega
                  rcases this with rfl | rfl | rfl | rfl | rfl | rfl | rfl
                  · exact f0'
                  · exact f1
                  · exact f2'
                  · exact f3
                  · exact f4'
                  · exact f5'
                  · exact f6')
                rw [hf]
                rfl
    · have hf : firstW (isW d p L) = 7 := firstW_no (fun u hu => by
        unfold isW
        by_cases h5 : L ≤ 4
        · have : ¬ pcn (5 * u + L) = 32 := by
            have hl : L = 0 ∨ L = 1 ∨ L = 2 := by omega
            have : u = 0 ∨ u = 1 ∨ u = 2 ∨ u = 3 ∨ u = 4 ∨ u = 5 ∨ u = 6 := by omega
            rcases hl with rfl | rfl | rfl <;> rcases this with rfl | rfl | rfl | rfl | rfl | rfl | rfl <;> decide +kernel
          rw [decide_eq_false this, Bool.and_false, Bool.and_false]
        · rw [decide_eq_false h5]; rfl)
      rw [hf, if_pos rfl]
      unfold f_X12_wordOf
      simp (disch := omega) only [L0, L1, L2, L3, L4, L5, L6, L7, L8, L9, L10, L11, L12, L13, L14, L15, L16, L17, L18, L19, L20, L21, L22, L23, L24, L25, L26, L27, L28, L29, L30, L31, L32, L47, L48, L50, L51, L57, L59, L90, L97, L100, L120, L122, L127, L179, L187, L199, L200, L487, L974, L1000, L1461, L10000, L18498, L1000000, nI_add, pk_mul, nI_cl, nI_lts, nI_les, nI_eqs, Ln1, n1_ne, n1_ne', n1_lts, nI_ltn, n1_les, nI_len, if_neg h3, if_neg h4]
theorem lo_avp {σ τ α : Type} {cnd : Nat → Bool} {b : σ → Option (σ ⊕ τ)} {g : Nat → α → σ} {e : Nat → α → τ} {φ : Nat → α → α} {p0 : Nat} (hc : ∀ q, cnd q = true → q < n) (hs : ∀ q a, p0 ≤ q → q < n → cnd q = true → b (g q a) = some (.inl (g (q + 1) (φ q a)))) (he : ∀ q a, p0 ≤ q → q ≤ n → cnd q = false → b (g q a) = some (.inr (e q a))) : ∀ (F p : Nat) (a : α) (N : Nat), p0 ≤ p → p ≤ n → n ≤ p + F → F < N → lo b N (g p a) = some (e (av cnd F p) (avA cnd φ F p a)) := by
  intro F
  induction F with
  | zero =>
    intro p a N h0 hp hF hN
    refine lo_one hN (he p a h0 hp (bf_of (fun gg => ?_)))
    have := hc p gg
    omega
  | succ F ih =>
    intro p a N h0 hp hF hN
    unfold av avA
    by_cases gg : cnd p = true
    · rw [if_pos gg, if_pos gg]
      have hpn := hc p gg
      obtain ⟨K, rfl⟩ : ∃ z, N = z + 1 := ⟨N - 1, by omega⟩
      have := ih (p + 1) (φ p a) K (by omega) (by omega) (by omega) (by omega)
      unfold lo
      rw [hs p a h0 hpn gg]
      exact this
    · rw [if_neg gg, if_neg gg]
      exact lo_one (by omega) (he p a h0 hp (bf_of gg))
theorem x_digits (h : MP n d M p) : lo (b_X12_isNumber_7 v (nI p)) 2048 (nI 0, M) = some (DV n d p, wI M 128 11 (nI (DG n d p))) := by
  obtain ⟨h1, h2, h3, h4, h6, h7⟩ := id h
  have := lo_avp (n := n) (p0 := p) (cnd := dgt n d p) (b := b_X12_isNumber_7 v (nI p)) (g := fun q (a : Int32) => (a, wI M 128 11 (nI q))) (e := fun q a => (a, wI M 128 11 (nI q))) (φ := fun q a => nI 10 * a + nI (d q) - nI 48) dgt_c (fun q a hpq hq hc => by
    have hi := x_isIn (a := 48) (b := 57) (h.mv (show q ≤ n by omega)) (by decide) (by decide)
    unfold dgt at hc
    simp only [Bool.and_eq_true, decide_eq_true_eq] at hc
    rw [decide_eq_true hc.1, decide_eq_true hc.2.2.1, decide_eq_true hc.2.2.2] at hi
    have hi' : f_X12_isIn (nI 48) (nI 57) (wI M 128 11 (nI q)) = some (nI 1, wI M 128 11 (nI q)) := hi
    have h4' : ¬ 4 ≤ q - p := by omega
    unfold b_X12_isNumber_7
    simp (disch := omega) only [L0, L1, L2, L3, L4, L5, L6, L7, L8, L9, L10, L11, L12, L13, L14, L15, L16, L17, L18, L19, L20, L21, L22, L23, L24, L25, L26, L27, L28, L29, L30, L31, L32, L47, L48, L50, L51, L57, L59, L90, L97, L100, L120, L122, L127, L179, L187, L199, L200, L487, L974, L1000, L1461, L10000, L18498, L1000000, nI_add, pk_mul, nI_cl, nI_lts, nI_les, nI_eqs, Ln1, n1_ne, n1_ne', n1_lts, nI_ltn, n1_les, nI_len, bd_s, lt_d, gd_n, hi', i10, if_false, t_e, nI_sbs, if_neg h4', t_32, h7 q hq, t_ww, Nat.one_ne_zero]) (fun q a hpq hq hc => by
    have hi := x_isIn (a := 48) (b := 57) (h.mv hq) (by decide) (by decide)
    unfold b_X12_isNumber_7
    by_cases hin : (decide (q < n) && (decide (48 ≤ d q) && decide (d q ≤ 57))) = true
    · have h4' : 4 ≤ q - p := by
        refine Classical.byContradiction (fun g => ?_)
        simp only [Bool.and_eq_true, decide_eq_true_eq] at hin
        unfold dgt at hc
        rw [decide_eq_true hin.1, decide_eq_true hin.2.1, decide_eq_true hin.2.2, decide_eq_true (show q < p + 4 by omega)] at hc
        exact absurd hc (by decide)
      rw [hin, bI_t] at hi
      simp (disch := omega) only [L0, L1, L2, L3, L4, L5, L6, L7, L8, L9, L10, L11, L12, L13, L14, L15, L16, L17, L18, L19, L20, L21, L22, L23, L24, L25, L26, L27, L28, L29, L30, L31, L32, L47, L48, L50, L51, L57, L59, L90, L97, L100, L120, L122, L127, L179, L187, L199, L200, L487, L974, L1000, L1461, L10000, L18498, L1000000, nI_add, pk_mul, nI_cl, nI_lts, nI_les, nI_eqs, Ln1, n1_ne, n1_ne', n1_lts, nI_ltn, n1_les, nI_len, bd_s, lt_d, gd_n, hi, i10, if_false, t_e, nI_sbs, if_pos h4', Nat.one_ne_zero]
    · rw [bf_of hin, bI_f] at hi
      simp (disch := omega) only [L0, L1, L2, L3, L4, L5, L6, L7, L8, L9, L10, L11, L12, L13, L14, L15, L16, L17, L18, L19, L20, L21, L22, L23, L24, L25, L26, L27, L28, L29, L30, L31, L32, L47, L48, L50, L51, L57, L59, L90, L97, L100, L120, L122, L127, L179, L187, L199, L200, L487, L974, L1000, L1461, L10000, L18498, L1000000, nI_add, pk_mul, nI_cl, nI_lts, nI_les, nI_eqs, Ln1, n1_ne, n1_ne', n1_lts, nI_ltn, n1_les, nI_len, bd_s, lt_d, gd_n, hi, if_true]) 120 p (nI 0) 2048 (Nat.le_refl p) h6 (by omega) (by decide)
  have t : lo (b_X12_isNumber_7 v (nI p)) 2048 (nI 0, wI M 128 11 (nI p)) = some (DV n d p, wI M 128 11 (nI (DG n d p))) := this
  rw [h.self] at t
  exact t
theorem x_isNumber (h : MP n d M p) (hi : i < 3) : f_X12_isNumber (nI i) M = some (if DG n d p = p then nI 0 else nI 1, wI (wI M 128 11 (nI (DG n d p))) 136 i (DV n d p)) := by
  have h1 := h.1
  have h6 := h.2.2.2.2.1
  have g1 := DG_le (n := n) (d := d) h6
  have g2 := DG_ge (n := n) (d := d) (p := p)
  have e11 : (wI (wI M 128 11 (nI (DG n d p))) 136 i (DV n d p)).1 128 11 = nI (DG n d p) := by rw [wI_sR, sR_ne (by decide), t_e]
  unfold f_X12_isNumber j_X12_isNumber_59
  by_cases hg : DG n d p = p
  · have hle : DG n d p ≤ p := by omega
    simp (disch := omega) only [L0, L1, L2, L3, L4, L5, L6, L7, L8, L9, L10, L11, L12, L13, L14, L15, L16, L17, L18, L19, L20, L21, L22, L23, L24, L25, L26, L27, L28, L29, L30, L31, L32, L47, L48, L50, L51, L57, L59, L90, L97, L100, L120, L122, L127, L179, L187, L199, L200, L487, L974, L1000, L1461, L10000, L18498, L1000000, nI_add, pk_mul, nI_cl, nI_lts, nI_les, nI_eqs, Ln1, n1_ne, n1_ne', n1_lts, nI_ltn, n1_les, nI_len, bd_s, lt_d, gd_n, h.2.2.2.1, x_digits h, e11, if_pos hle, if_pos hg]
  · have hle : ¬ DG n d p ≤ p := by omega
    simp (disch := omega) only [L0, L1, L2, L3, L4, L5, L6, L7, L8, L9, L10, L11, L12, L13, L14, L15, L16, L17, L18, L19, L20, L21, L22, L23, L24, L25, L26, L27, L28, L29, L30, L31, L32, L47, L48, L50, L51, L57, L59, L90, L97, L100, L120, L122, L127, L179, L187, L199, L200, L487, L974, L1000, L1461, L10000, L18498, L1000000, nI_add, pk_mul, nI_cl, nI_lts, nI_les, nI_eqs, Ln1, n1_ne, n1_ne', n1_lts, nI_ltn, n1_les, nI_len, bd_s, lt_d, gd_n, h.2.2.2.1, x_digits h, e11, if_neg hle, if_neg hg]
theorem x_numbersOf (hw : w ≤ 6) : f_X12_numbersOf (nI (w + 1)) M = some (nI (nnW w), M) := by
  have : w = 0 ∨ w = 1 ∨ w = 2 ∨ w = 3 ∨ w = 4 ∨ w = 5 ∨ w = 6 := by omega
  rcases this with rfl | rfl | rfl | rfl | rfl | rfl | rfl <;> rfl
theorem x_numbers {q0 : Nat} {v1 v2 : Int32} (h : MP n d M q0) (hw : w ≤ 6) (hmw : M.1 128 12 = nI (w + 1)) : ∃ t M', lo (b_X12_isCommand_76 v1 v2) 2048 (nI 0, M) = some t ∧ gp M M' ∧ M'.1 128 12 = nI (w + 1) ∧
    (((rn n d q0 (nnW w)).1 = true ∧ t = .inl (nI (nnW w), M') ∧ MP n d M' (rn n d q0 (nnW w)).2.1 ∧ ∀ j, j < nnW w → M'.1 136 j = (rn n d q0 (nnW w)).2.2 j) ∨
     ((rn n d q0 (nnW w)).1 = false ∧ t = .inr (nI 0, M') ∧ MP n d M' (rn n d q0 (nnW w)).2.1)) := by
  obtain ⟨c1, c2⟩ := nums_c w hw
  obtain ⟨t, ht, M', k1⟩ := lo_rex (b := b_X12_isCommand_76 v1 v2) (s0 := (nI 0, M)) (N := 2048) (n := nnW w)
    (P := fun i s => ∃ M', s = (nI i, M') ∧ gp M M' ∧ M'.1 128 12 = nI (w + 1) ∧ (rn n d q0 i).1 = true ∧ MP n d M' (rn n d q0 i).2.1 ∧ ∀ j, j < i → M'.1 136 j = (rn n d q0 i).2.2 j)
    (Q := fun t => ∃ M', gp M M' ∧ M'.1 128 12 = nI (w + 1) ∧
    (((rn n d q0 (nnW w)).1 = true ∧ t = .inl (nI (nnW w), M') ∧ MP n d M' (rn n d q0 (nnW w)).2.1 ∧ ∀ j, j < nnW w → M'.1 136 j = (rn n d q0 (nnW w)).2.2 j) ∨
     ((rn n d q0 (nnW w)).1 = false ∧ t = .inr (nI 0, M') ∧ MP n d M' (rn n d q0 (nnW w)).2.1)))
    ⟨M, rfl, gp.rf M, hmw, rfl, h, fun j hj => absurd hj (Nat.not_lt_zero j)⟩ (fun i s hi hP => by
      obtain ⟨M', rfl, k1, k2, k3, k4, k5⟩ := hP
      have hi3 : i < 3 := by omega
      have hni : ¬ nnW w ≤ i := by omega
      have hn120 := k4.1
      have hpn := k4.2.2.2.2.1
      have s1 := SK_le (n := n) (d := d) hpn
      have hS := k4.mv s1
      have hsk := x_skips k4
      have e11 := k4.2.2.2.1
      have hend : ∀ (r : Bool × Nat × (Nat → Int32)), rn n d q0 (i + 1) = r → r.1 = false → rn n d q0 (nnW w) = r := fun r hr hf => by
        have := rn_stop (n := n) (d := d) (q := q0) (i := i + 1) (by rw [hr]; exact hf) (nnW w - (i + 1))
        rw [show i + 1 + (nnW w - (i + 1)) = nnW w by omega, hr] at this
        exact this
      have hno : f_X12_numbersOf (M'.1 128 12) M' = some (nI (nnW w), M') := by rw [k2]; exact x_numbersOf hw
      unfold b_X12_isCommand_76
      by_cases z : SK n d (rn n d q0 i).2.1 = (rn n d q0 i).2.1
      · refine Or.inr ⟨.inr (nI 0, wI M' 128 11 (nI (SK n d (rn n d q0 i).2.1))), ?_, wI M' 128 11 (nI (SK n d (rn n d q0 i).2.1)), k1.tr gp.w11, by rw [t_n (by decide)]; exact k2, Or.inr ?_⟩
        · simp (disch := omega) only [L0, L1, L2, L3, L4, L5, L6, L7, L8, L9, L10, L11, L12, L13, L14, L15, L16, L17, L18, L19, L20, L21, L22, L23, L24, L25, L26, L27, L28, L29, L30, L31, L32, L47, L48, L50, L51, L57, L59, L90, L97, L100, L120, L122, L127, L179, L187, L199, L200, L487, L974, L1000, L1461, L10000, L18498, L1000000, nI_add, pk_mul, nI_cl, nI_lts, nI_les, nI_eqs, Ln1, n1_ne, n1_ne', n1_lts, nI_ltn, n1_les, nI_len, bd_s, lt_d, gd_n, hno, if_neg hni, hsk, t_e, e11, if_pos z]
        · rw [hend _ (rn_s0 q0 i k3 z) rfl]
          refine ⟨rfl, rfl, ?_⟩
          rw [z] at hS ⊢
          exact hS
      · have hnum := x_isNumber hS hi3
        by_cases z2 : DG n d (SK n d (rn n d q0 i).2.1) = SK n d (rn n d q0 i).2.1
        · rw [if_pos z2] at hnum
          refine Or.inr ⟨.inr (nI 0, wI (wI (wI M' 128 11 (nI (SK n d (rn n d q0 i).2.1))) 128 11 (nI (DG n d (SK n d (rn n d q0 i).2.1)))) 136 i (DV n d (SK n d (rn n d q0 i).2.1))), ?_, wI (wI (wI M' 128 11 (nI (SK n d (rn n d q0 i).2.1))) 128 11 (nI (DG n d (SK n d (rn n d q0 i).2.1)))) 136 i (DV n d (SK n d (rn n d q0 i).2.1)), (k1.tr gp.w11).tr (gp.w11.tr gp.w136), ?_, Or.inr ?_⟩
          · simp (disch := omega) only [L0, L1, L2, L3, L4, L5, L6, L7, L8, L9, L10, L11, L12, L13, L14, L15, L16, L17, L18, L19, L20, L21, L22, L23, L24, L25, L26, L27, L28, L29, L30, L31, L32, L47, L48, L50, L51, L57, L59, L90, L97, L100, L120, L122, L127, L179, L187, L199, L200, L487, L974, L1000, L1461, L10000, L18498, L1000000, nI_add, pk_mul, nI_cl, nI_lts, nI_les, nI_eqs, Ln1, n1_ne, n1_ne', n1_lts, nI_ltn, n1_les, nI_len, bd_s, lt_d, gd_n, hno, if_neg hni, hsk, t_e, e11, if_neg z, hnum, if_true]
          · rw [wI_sR (wI (wI M' 128 11 _) 128 11 _), sR_ne (by decide), t_n (by decide), t_n (by decide)]; exact k2
          · rw [hend _ (rn_s1 q0 i k3 z z2) rfl]
            obtain ⟨x1, x2, x3, x4, x6, x7⟩ := (hS.mv (q := DG n d (SK n d (rn n d q0 i).2.1)) (by rw [z2]; exact s1)).nm (j := i) (v := DV n d (SK n d (rn n d q0 i).2.1))
            exact ⟨rfl, rfl, x1, x2, x3, x4.trans (congrArg nI z2), s1, x7⟩
        · rw [if_neg z2] at hnum
          have g1 := DG_le (n := n) (d := d) s1
          refine Or.inl ⟨(nI (i + 1), wI (wI (wI M' 128 11 (nI (SK n d (rn n d q0 i).2.1))) 128 11 (nI (DG n d (SK n d (rn n d q0 i).2.1)))) 136 i (DV n d (SK n d (rn n d q0 i).2.1))), ?_, wI (wI (wI M' 128 11 (nI (SK n d (rn n d q0 i).2.1))) 128 11 (nI (DG n d (SK n d (rn n d q0 i).2.1)))) 136 i (DV n d (SK n d (rn n d q0 i).2.1)), rfl, (k1.tr gp.w11).tr (gp.w11.tr gp.w136), ?_, ?_⟩
          · simp (disch := omega) only [L0, L1, L2, L3, L4, L5, L6, L7, L8, L9, L10, L11, L12, L13, L14, L15, L16, L17, L18, L19, L20, L21, L22, L23, L24, L25, L26, L27, L28, L29, L30, L31, L32, L47, L48, L50, L51, L57, L59, L90, L97, L100, L120, L122, L127, L179, L187, L199, L200, L487, L974, L1000, L1461, L10000, L18498, L1000000, nI_add, pk_mul, nI_cl, nI_lts, nI_les, nI_eqs, Ln1, n1_ne, n1_ne', n1_lts, nI_ltn, n1_les, nI_len, bd_s, lt_d, gd_n, hno, if_neg hni, hsk, t_e, e11, if_neg z, hnum, i10, if_false, Nat.one_ne_zero]
          · rw [wI_sR (wI (wI M' 128 11 _) 128 11 _), sR_ne (by decide), t_n (by decide), t_n (by decide)]; exact k2
          · rw [rn_s2 q0 i k3 z z2]
            refine ⟨rfl, (hS.mv g1).nm, fun j hj => ?_⟩
            rw [wI_sR (wI (wI M' 128 11 _) 128 11 _), sR_get, t_36, t_36]
            show upd (M'.1 136) i _ j = upd _ i _ j
            by_cases hji : j = i
            · rw [hji, upd_e, upd_e]
            · rw [upd_n hji, upd_n hji]; exact k5 j (by omega)) (fun s hP => by
      obtain ⟨M', rfl, k1, k2, k3, k4, k5⟩ := hP
      have hno : f_X12_numbersOf (M'.1 128 12) M' = some (nI (nnW w), M') := by rw [k2]; exact x_numbersOf hw
      refine ⟨.inl (nI (nnW w), M'), ?_, M', k1, k2, Or.inl ⟨k3, rfl, k4, k5⟩⟩
      unfold b_X12_isCommand_76
      simp (disch := omega) only [L0, L1, L2, L3, L4, L5, L6, L7, L8, L9, L10, L11, L12, L13, L14, L15, L16, L17, L18, L19, L20, L21, L22, L23, L24, L25, L26, L27, L28, L29, L30, L31, L32, L47, L48, L50, L51, L57, L59, L90, L97, L100, L120, L122, L127, L179, L187, L199, L200, L487, L974, L1000, L1461, L10000, L18498, L1000000, nI_add, pk_mul, nI_cl, nI_lts, nI_les, nI_eqs, Ln1, n1_ne, n1_ne', n1_lts, nI_ltn, n1_les, nI_len, bd_s, lt_d, gd_n, hno, if_true, Nat.le_refl]) (by omega)
  exact ⟨t, M', ht, k1⟩
/-- a command is read -/
theorem x_isCommand (h : MP n d M p) : ∃ M', gp M M' ∧
    (((PC n d p).1 = true ∧ f_X12_isCommand M = some (nI 1, M') ∧ MP n d M' (PC n d p).2 ∧ WX n d p ≤ 6 ∧ M'.1 128 12 = nI (WX n d p + 1) ∧ ∀ j, j < nnW (WX n d p) → M'.1 136 j = (rnW n d p).2.2 j) ∨
     ((PC n d p).1 = false ∧ f_X12_isCommand M = some (nI 0, M') ∧ MP n d M' (PC n d p).2)) := by
  obtain ⟨h1, h2, h3, h4, h6, h7⟩ := id h
  have l1 := LE_le (n := n) (d := d) h6
  have l2 := LE_ge (n := n) (d := d) (p := p)
  have hL := h.mv l1
  have hwd := x_wordOf (M := wI M 128 11 (nI (LE n d p))) (d := d) (p := p) (L := LE n d p - p) (by omega) (fun i hi => LE_in (n := n) (p := p) (by omega) (by omega))
  have eW : firstW (isW d p (LE n d p - p)) = WX n d p := rfl
  rw [eW] at hwd
  have e4 : nI (LE n d p) - nI p = nI (LE n d p - p) := nI_sbs l2
  by_cases hw7 : WX n d p = 7
  · have hpc : PC n d p = (false, p) := by unfold PC; rw [if_pos hw7]
    rw [if_pos hw7] at hwd
    have hm8 := (hL.wd (v := nI 0)).mv h6
    refine ⟨_, (gp.w11.tr gp.w12).tr gp.w11, Or.inr ⟨by rw [hpc], ?_, by rw [hpc]; exact hm8⟩⟩
    unfold f_X12_isCommand
    simp (disch := omega) only [L0, L1, L2, L3, L4, L5, L6, L7, L8, L9, L10, L11, L12, L13, L14, L15, L16, L17, L18, L19, L20, L21, L22, L23, L24, L25, L26, L27, L28, L29, L30, L31, L32, L47, L48, L50, L51, L57, L59, L90, L97, L100, L120, L122, L127, L179, L187, L199, L200, L487, L974, L1000, L1461, L10000, L18498, L1000000, bd_s, lt_d, gd_n, h4, x_letters h, e4, hwd, t_e, if_true]
  · rw [if_neg hw7] at hwd
    have w6 : WX n d p ≤ 6 := by
      have : WX n d p ≤ 7 := by
        unfold WX firstW
        repeat' split
        all_goals omega
      omega
    have hm8 := hL.wd (v := nI (WX n d p + 1))
    obtain ⟨t, M2, c1, c2, c3, c4⟩ := x_numbers (v1 := nI p) (v2 := fo (pk8 d) p (LE n d p - p) (nI 0)) hm8 w6 t_e
    have hne : ¬ nI (WX n d p + 1) = nI 0 := nI_neq (by omega) (by omega) (by omega)
    have g12 : gp M (wI (wI M 128 11 (nI (LE n d p))) 128 12 (nI (WX n d p + 1))) := gp.w11.tr gp.w12
    rcases c4 with ⟨e1, rfl, e3, e5⟩ | ⟨e1, rfl, e3⟩
    · have hr : (rnW n d p).1 = true := e1
      have t1 := SK_le (n := n) (d := d) e3.2.2.2.2.1
      have hT := e3.mv t1
      have hsk2 := x_skips e3
      have hin := x_isIn (a := 59) (b := 59) hT (by decide) (by decide)
      rw [← sc_in] at hin
      have er : (rnW n d p).2.1 = (rn n d (LE n d p) (nnW (WX n d p))).2.1 := rfl
      by_cases hsc : sc n d (SK n d (rnW n d p).2.1) = true
      · have hpc : PC n d p = (true, SK n d (rnW n d p).2.1 + 1) := by unfold PC; rw [if_neg hw7, if_pos hr, if_pos hsc]
        rw [er] at hsc hpc
        rw [hsc, bI_t] at hin
        unfold sc at hsc
        simp only [Bool.and_eq_true, decide_eq_true_eq] at hsc
        generalize SK n d (rn n d (LE n d p) (nnW (WX n d p))).2.1 = x at *
        refine ⟨wI M2 128 11 (nI (x + 1)), (g12.tr c2).tr gp.w11, Or.inl ⟨by rw [hpc], ?_, by rw [hpc]; exact e3.mv (by omega), w6, by rw [t_n (by decide)]; exact c3, fun j hj => by rw [t_36]; exact e5 j hj⟩⟩
        unfold f_X12_isCommand
        simp (disch := omega) only [L0, L1, L2, L3, L4, L5, L6, L7, L8, L9, L10, L11, L12, L13, L14, L15, L16, L17, L18, L19, L20, L21, L22, L23, L24, L25, L26, L27, L28, L29, L30, L31, L32, L47, L48, L50, L51, L57, L59, L90, L97, L100, L120, L122, L127, L179, L187, L199, L200, L487, L974, L1000, L1461, L10000, L18498, L1000000, nI_add, bd_s, lt_d, gd_n, h4, x_letters h, e4, hwd, t_e, if_neg hne, c1, smL, hsk2, hin, i10, if_false, t_ww]
      · have hpc : PC n d p = (false, SK n d (rnW n d p).2.1) := by unfold PC; rw [if_neg hw7, if_pos hr, if_neg hsc]
        rw [er] at hsc hpc
        rw [bf_of hsc, bI_f] at hin
        refine ⟨_, (g12.tr c2).tr gp.w11, Or.inr ⟨by rw [hpc], ?_, by rw [hpc]; exact hT⟩⟩
        unfold f_X12_isCommand
        simp (disch := omega) only [L0, L1, L2, L3, L4, L5, L6, L7, L8, L9, L10, L11, L12, L13, L14, L15, L16, L17, L18, L19, L20, L21, L22, L23, L24, L25, L26, L27, L28, L29, L30, L31, L32, L47, L48, L50, L51, L57, L59, L90, L97, L100, L120, L122, L127, L179, L187, L199, L200, L487, L974, L1000, L1461, L10000, L18498, L1000000, bd_s, lt_d, gd_n, h4, x_letters h, e4, hwd, t_e, if_neg hne, c1, smL, hsk2, hin, if_true]
    · have hr : ¬ (rnW n d p).1 = true := by rw [show (rnW n d p).1 = false from e1]; decide
      have hpc : PC n d p = (false, (rnW n d p).2.1) := by unfold PC; rw [if_neg hw7, if_neg hr]
      refine ⟨M2, g12.tr c2, Or.inr ⟨by rw [hpc], ?_, by rw [hpc]; exact e3⟩⟩
      unfold f_X12_isCommand
      simp (disch := omega) only [L0, L1, L2, L3, L4, L5, L6, L7, L8, L9, L10, L11, L12, L13, L14, L15, L16, L17, L18, L19, L20, L21, L22, L23, L24, L25, L26, L27, L28, L29, L30, L31, L32, L47, L48, L50, L51, L57, L59, L90, L97, L100, L120, L122, L127, L179, L187, L199, L200, L487, L974, L1000, L1461, L10000, L18498, L1000000, bd_s, lt_d, gd_n, h4, x_letters h, e4, hwd, t_e, if_neg hne, c1]
      rfl
end PMR
