/-! A network begins anew. -/
def vb (j : Nat) : Int32 := if j % 5 = 0 then nI 5 else if j % 5 = 1 then nI (50 + j / 5) else if j % 5 = 4 then n1 else nI 0
def sG (n : Nat) (S : Nat → Int32) : Nat → Int32 := it (fun b S => sFl b (sSt b (upd S (11 + 5 * b) (nI 5)))) n S
def sH (B n : Nat) (S : Nat → Int32) : Nat → Int32 := it (fun h S => upd S (179 + h) (nI (h % B))) n S
def sTn (n : Nat) (S : Nat → Int32) : Nat → Int32 := it (fun t S => upd S (187 + 3 * t) (nI 100)) n S
def zr (n : Nat) (S : Nat → Int32) : Nat → Int32 := fun i => if i < n ∧ ¬ (2 ≤ i ∧ i ≤ 4) then nI 0 else S i
def sBg (B : Nat) (S : Nat → Int32) : Nat → Int32 := sTn 4 (sH B 8 (sG 8 (upd (zr 487 S) 0 (nI B))))
/-- only the network's rows changed -/
def fs (a b : me) : Prop := (∀ o, ¬ (1 ≤ o ∧ o < 28) → b.1 o = a.1 o) ∧ b.2 = a.2
section PN
variable {m m0 M : me} {S S' : Nat → Int32} {B T : Nat}
theorem fs.rf (m : me) : fs m m := ⟨fun _ _ => rfl, rfl⟩
theorem fs.w {a b : me} (h : fs a b) {q j : Nat} {v : Int32} (hq : 1 ≤ q ∧ q < 28) : fs a (wI b q j v) := by
  refine ⟨fun o h1 => ?_, h.2⟩
  rw [wI_sR, sR_ne (by omega)]
  exact h.1 o h1
theorem fs.fc {a b : me} (h : fs a b) : fc a b := ⟨fun o h1 _ => h.1 o h1, h.2⟩
theorem itF_at {o : Nat} {x : Int32} (n i : Nat) : it (fun h S => upd S (o + 2 * h) x) n S i = if o ≤ i ∧ i < o + 2 * n ∧ (i - o) % 2 = 0 then x else S i := by
  induction n with
  | zero => rw [if_neg (by omega)]; rfl
  | succ n ih =>
    show upd (it (fun h S => upd S (o + 2 * h) x) n S) (o + 2 * n) x i = _
    by_cases h : i = o + 2 * n
    · rw [h, upd_e, if_pos (by omega)]
    · rw [upd_n h, ih]
      by_cases h2 : o ≤ i ∧ i < o + 2 * n ∧ (i - o) % 2 = 0
      · rw [if_pos h2, if_pos (by omega)]
      · rw [if_neg h2, if_neg (by omega)]
theorem sFl_at {b i : Nat} : sFl b S i = if 51 + 16 * b ≤ i ∧ i < 51 + 16 * b + 16 ∧ (i - 51) % 2 = 0 then n1 else S i := by
  unfold sFl
  rw [itF_at]
  by_cases h : 51 + 16 * b ≤ i ∧ i < 51 + 16 * b + 16 ∧ (i - 51) % 2 = 0
  · rw [if_pos h, if_pos (by omega)]
  · rw [if_neg h, if_neg (by omega)]
theorem sG_at : ∀ n, n ≤ 8 → ∀ i, sG n S i = if 11 ≤ i ∧ i < 11 + 5 * n then vb (i - 11) else if 51 ≤ i ∧ i < 51 + 16 * n ∧ (i - 51) % 2 = 0 then n1 else S i
  | 0, _, i => by rw [if_neg (by omega), if_neg (by omega)]; rfl
  | n + 1, hn, i => by
    have ih := sG_at n (by omega)
    show sFl n (sSt n (upd (sG n S) (11 + 5 * n) (nI 5))) i = _
    rw [sFl_at]
    by_cases hf : 51 + 16 * n ≤ i ∧ i < 51 + 16 * n + 16 ∧ (i - 51) % 2 = 0
    · rw [if_pos hf, if_neg (by omega), if_pos (by omega)]
    · rw [if_neg hf]
      unfold sSt
      by_cases h4 : i = 11 + 5 * n + 4
      · rw [h4, upd_e, if_pos (by omega)]
        unfold vb
        rw [if_neg (by omega), if_neg (by omega), if_pos (by omega)]
      · rw [upd_n h4]
        by_cases h3 : i = 11 + 5 * n + 3
        · rw [h3, upd_e, if_pos (by omega)]
          unfold vb
          rw [if_neg (by omega), if_neg (by omega), if_neg (by omega)]
        · rw [upd_n h3]
          by_cases h2 : i = 11 + 5 * n + 2
          · rw [h2, upd_e, if_pos (by omega)]
            unfold vb
            rw [if_neg (by omega), if_neg (by omega), if_neg (by omega)]
          · rw [upd_n h2]
            by_cases h1 : i = 11 + 5 * n + 1
            · rw [h1, upd_e, upd_e, if_pos (by omega), pk_mul, nI_add]
              unfold vb
              rw [if_neg (by omega), if_pos (by omega)]
              refine congrArg nI ?_
              omega
            · rw [upd_n h1]
              by_cases h0 : i = 11 + 5 * n
              · rw [h0, upd_e, if_pos (by omega)]
                unfold vb
                rw [if_pos (by omega)]
              · rw [upd_n h0, ih i]
                by_cases k1 : 11 ≤ i ∧ i < 11 + 5 * n
                · rw [if_pos k1, if_pos (by omega)]
                · rw [if_neg k1]
                  by_cases k2 : 51 ≤ i ∧ i < 51 + 16 * n ∧ (i - 51) % 2 = 0
                  · rw [if_pos k2, if_neg (by omega), if_pos (by omega)]
                  · rw [if_neg k2, if_neg (by omega), if_neg (by omega)]
theorem sH_at (n i : Nat) : sH B n S i = if 179 ≤ i ∧ i < 179 + n then nI ((i - 179) % B) else S i := by
  induction n with
  | zero => rw [if_neg (by omega)]; rfl
  | succ n ih =>
    show upd (sH B n S) (179 + n) (nI (n % B)) i = _
    by_cases h : i = 179 + n
    · rw [h, upd_e, if_pos (by omega), Nat.add_sub_cancel_left]
    · rw [upd_n h, ih]
      by_cases h2 : 179 ≤ i ∧ i < 179 + n
      · rw [if_pos h2, if_pos (by omega)]
      · rw [if_neg h2, if_neg (by omega)]
theorem sTn_at (n i : Nat) : sTn n S i = if 187 ≤ i ∧ i < 187 + 3 * n ∧ (i - 187) % 3 = 0 then nI 100 else S i := by
  induction n with
  | zero => rw [if_neg (by omega)]; rfl
  | succ n ih =>
    show upd (sTn n S) (187 + 3 * n) (nI 100) i = _
    by_cases h : i = 187 + 3 * n
    · rw [h, upd_e, if_pos (by omega)]
    · rw [upd_n h, ih]
      by_cases h2 : 187 ≤ i ∧ i < 187 + 3 * n ∧ (i - 187) % 3 = 0
      · rw [if_pos h2, if_pos (by omega)]
      · rw [if_neg h2, if_neg (by omega)]
theorem x_begins (hB : 2 ≤ B) (hB8 : B ≤ 8) : f_X12_begins (nI B) M = some (sR M 129 (sBg B (M.1 129))) := by
  have h1 := lo_gen (b := b_X12_begins_2 (nI B)) (fun k => (nI k, sR M 129 (zr k (M.1 129)))) 487 (nI 487, sR M 129 (zr 487 (M.1 129))) (fun k hk => by
    unfold b_X12_begins_2
    have : ¬ 487 ≤ k := by omega
    by_cases hin : 2 ≤ k ∧ k ≤ 4
    · have e : upd (zr k (M.1 129)) k (zr k (M.1 129) k) = zr (k + 1) (M.1 129) := by
        funext j
        unfold upd zr
        by_cases hj : j = k
        · rw [if_pos hj, if_neg (by omega), if_neg (by omega), hj]
        · rw [if_neg hj]
          by_cases h2 : j < k ∧ ¬ (2 ≤ j ∧ j ≤ 4)
          · rw [if_pos h2, if_pos (by omega)]
          · rw [if_neg h2, if_neg (by omega)]
      simp (disch := omega) only [L0, L1, L2, L3, L4, L5, L6, L7, L8, L9, L10, L11, L12, L13, L14, L15, L16, L17, L18, L19, L20, L21, L22, L23, L24, L25, L26, L27, L28, L29, L30, L31, L32, L47, L48, L50, L51, L57, L59, L90, L97, L100, L120, L122, L127, L179, L187, L199, L200, L487, L974, L1000, L1461, L10000, L18498, L1000000, nI_add, pk_mul, nI_cl, nI_lts, nI_les, nI_eqs, Ln1, n1_ne, n1_ne', n1_lts, nI_ltn, n1_les, nI_len, bd_s, lt_d, gd_n, wI_sR, sR_get, sR_sR, sR_ne, if_neg this, x_inn, i10, if_false, e, Nat.one_ne_zero]
    · have e : upd (zr k (M.1 129)) k (nI 0) = zr (k + 1) (M.1 129) := by
        funext j
        unfold upd zr
        by_cases hj : j = k
        · rw [if_pos hj, if_pos (by omega)]
        · rw [if_neg hj]
          by_cases h2 : j < k ∧ ¬ (2 ≤ j ∧ j ≤ 4)
          · rw [if_pos h2, if_pos (by omega)]
          · rw [if_neg h2, if_neg (by omega)]
      have hv : nI k < nI 2 ∨ nI 4 < nI k := by
        by_cases h2 : k < 2
        · exact Or.inl (nI_lt h2 (by decide))
        · exact Or.inr (nI_lt (by omega) (show k < 2 ^ 31 by omega))
      have hx : ∀ mm : me, f_X12_in (nI k) (nI 2) (nI 4) mm = some (nI 0, mm) := fun mm => x_in_n hv
      simp (disch := omega) only [L0, L1, L2, L3, L4, L5, L6, L7, L8, L9, L10, L11, L12, L13, L14, L15, L16, L17, L18, L19, L20, L21, L22, L23, L24, L25, L26, L27, L28, L29, L30, L31, L32, L47, L48, L50, L51, L57, L59, L90, L97, L100, L120, L122, L127, L179, L187, L199, L200, L487, L974, L1000, L1461, L10000, L18498, L1000000, nI_add, pk_mul, nI_cl, nI_lts, nI_les, nI_eqs, Ln1, n1_ne, n1_ne', n1_lts, nI_ltn, n1_les, nI_len, bd_s, lt_d, gd_n, wI_sR, sR_get, sR_sR, sR_ne, if_neg this, hx, if_true, e]) (by
    unfold b_X12_begins_2
    simp (disch := omega) only [L0, L1, L2, L3, L4, L5, L6, L7, L8, L9, L10, L11, L12, L13, L14, L15, L16, L17, L18, L19, L20, L21, L22, L23, L24, L25, L26, L27, L28, L29, L30, L31, L32, L47, L48, L50, L51, L57, L59, L90, L97, L100, L120, L122, L127, L179, L187, L199, L200, L487, L974, L1000, L1461, L10000, L18498, L1000000, nI_add, pk_mul, nI_cl, nI_lts, nI_les, nI_eqs, Ln1, n1_ne, n1_ne', n1_lts, nI_ltn, n1_les, nI_len, bd_s, lt_d, gd_n, if_true, Nat.le_refl]) (N := 2048) (by decide)
  have e0 : zr 0 (M.1 129) = M.1 129 := by
    funext j
    unfold zr
    rw [if_neg (by omega)]
  simp only [e0, sR_self] at h1
  have h2 := lo_gen (b := b_X12_begins_49 (nI B)) (fun k => (nI k, sR M 129 (sG k (upd (zr 487 (M.1 129)) 0 (nI B))))) 8 (nI 8, sR M 129 (sG 8 (upd (zr 487 (M.1 129)) 0 (nI B)))) (fun k hk => by
    unfold b_X12_begins_49
    have : ¬ 8 ≤ k := by omega
    simp (disch := omega) only [L0, L1, L2, L3, L4, L5, L6, L7, L8, L9, L10, L11, L12, L13, L14, L15, L16, L17, L18, L19, L20, L21, L22, L23, L24, L25, L26, L27, L28, L29, L30, L31, L32, L47, L48, L50, L51, L57, L59, L90, L97, L100, L120, L122, L127, L179, L187, L199, L200, L487, L974, L1000, L1461, L10000, L18498, L1000000, nI_add, pk_mul, nI_cl, nI_lts, nI_les, nI_eqs, Ln1, n1_ne, n1_ne', n1_lts, nI_ltn, n1_les, nI_len, bd_s, lt_d, gd_n, wI_sR, sR_get, sR_sR, sR_ne, if_neg this, x_startsAnew, x_flushes]
    rfl) (by
    unfold b_X12_begins_49
    simp (disch := omega) only [L0, L1, L2, L3, L4, L5, L6, L7, L8, L9, L10, L11, L12, L13, L14, L15, L16, L17, L18, L19, L20, L21, L22, L23, L24, L25, L26, L27, L28, L29, L30, L31, L32, L47, L48, L50, L51, L57, L59, L90, L97, L100, L120, L122, L127, L179, L187, L199, L200, L487, L974, L1000, L1461, L10000, L18498, L1000000, nI_add, pk_mul, nI_cl, nI_lts, nI_les, nI_eqs, Ln1, n1_ne, n1_ne', n1_lts, nI_ltn, n1_les, nI_len, bd_s, lt_d, gd_n, if_true, Nat.le_refl]) (N := 2048) (by decide)
  have h3 := lo_gen (b := b_X12_begins_85 (nI B)) (fun k => (nI k, sR M 129 (sH B k (sG 8 (upd (zr 487 (M.1 129)) 0 (nI B)))))) 8 (nI 8, sR M 129 (sH B 8 (sG 8 (upd (zr 487 (M.1 129)) 0 (nI B))))) (fun k hk => by
    unfold b_X12_begins_85
    have : ¬ 8 ≤ k := by omega
    have hr : nI k - nI k / nI B * nI B = nI (k % B) := pk_rem (show k < 2 ^ 31 by omega) (by omega) (show B < 2 ^ 31 by omega)
    have hz : nz (nI B) = true := nz_n (by omega) (by omega)
    simp (disch := omega) only [L0, L1, L8, L179, nI_add, nI_les, nI_cl, bd_s, lt_d, gd_n, wI_sR, sR_get, sR_sR, sR_ne, if_neg this, hr, hz, gd_tt]
    rfl) (by
    unfold b_X12_begins_85
    simp (disch := omega) only [L0, L1, L2, L3, L4, L5, L6, L7, L8, L9, L10, L11, L12, L13, L14, L15, L16, L17, L18, L19, L20, L21, L22, L23, L24, L25, L26, L27, L28, L29, L30, L31, L32, L47, L48, L50, L51, L57, L59, L90, L97, L100, L120, L122, L127, L179, L187, L199, L200, L487, L974, L1000, L1461, L10000, L18498, L1000000, nI_add, pk_mul, nI_cl, nI_lts, nI_les, nI_eqs, Ln1, n1_ne, n1_ne', n1_lts, nI_ltn, n1_les, nI_len, bd_s, lt_d, gd_n, if_true, Nat.le_refl]) (N := 2048) (by decide)
  have h4 := lo_gen (b := b_X12_begins_112 (nI B)) (fun k => (nI k, sR M 129 (sTn k (sH B 8 (sG 8 (upd (zr 487 (M.1 129)) 0 (nI B))))))) 4 (nI 4, sR M 129 (sTn 4 (sH B 8 (sG 8 (upd (zr 487 (M.1 129)) 0 (nI B)))))) (fun k hk => by
    unfold b_X12_begins_112
    have : ¬ 4 ≤ k := by omega
    simp (disch := omega) only [L0, L1, L2, L3, L4, L5, L6, L7, L8, L9, L10, L11, L12, L13, L14, L15, L16, L17, L18, L19, L20, L21, L22, L23, L24, L25, L26, L27, L28, L29, L30, L31, L32, L47, L48, L50, L51, L57, L59, L90, L97, L100, L120, L122, L127, L179, L187, L199, L200, L487, L974, L1000, L1461, L10000, L18498, L1000000, nI_add, pk_mul, nI_cl, nI_lts, nI_les, nI_eqs, Ln1, n1_ne, n1_ne', n1_lts, nI_ltn, n1_les, nI_len, bd_s, lt_d, gd_n, wI_sR, sR_get, sR_sR, sR_ne, if_neg this]
    rfl) (by
    unfold b_X12_begins_112
    simp (disch := omega) only [L0, L1, L2, L3, L4, L5, L6, L7, L8, L9, L10, L11, L12, L13, L14, L15, L16, L17, L18, L19, L20, L21, L22, L23, L24, L25, L26, L27, L28, L29, L30, L31, L32, L47, L48, L50, L51, L57, L59, L90, L97, L100, L120, L122, L127, L179, L187, L199, L200, L487, L974, L1000, L1461, L10000, L18498, L1000000, nI_add, pk_mul, nI_cl, nI_lts, nI_les, nI_eqs, Ln1, n1_ne, n1_ne', n1_lts, nI_ltn, n1_les, nI_len, bd_s, lt_d, gd_n, if_true, Nat.le_refl]) (N := 2048) (by decide)
  have h2' : lo (b_X12_begins_49 (nI B)) 2048 (nI 0, sR M 129 (upd (zr 487 (M.1 129)) 0 (nI B))) = _ := h2
  have h3' : lo (b_X12_begins_85 (nI B)) 2048 (nI 0, sR M 129 (sG 8 (upd (zr 487 (M.1 129)) 0 (nI B)))) = _ := h3
  have h4' : lo (b_X12_begins_112 (nI B)) 2048 (nI 0, sR M 129 (sH B 8 (sG 8 (upd (zr 487 (M.1 129)) 0 (nI B))))) = _ := h4
  unfold f_X12_begins
  simp only [L0, h1, bd_s, lt_d, wI_sR, sR_get, sR_sR, sR_ne, h2', h3', h4']
  rfl
theorem sBg_lo {i : Nat} (hi : i < 11) : sBg B S i = if i = 0 then nI B else if 2 ≤ i ∧ i ≤ 4 then S i else nI 0 := by
  unfold sBg
  rw [sTn_at, if_neg (by omega), sH_at, if_neg (by omega), sG_at 8 (by decide), if_neg (by omega), if_neg (by omega)]
  by_cases h0 : i = 0
  · rw [if_pos h0, h0, upd_e]
  · rw [if_neg h0, upd_n h0]
    unfold zr
    by_cases h2 : 2 ≤ i ∧ i ≤ 4
    · rw [if_neg (by omega), if_pos h2]
    · rw [if_pos (by omega), if_neg h2]
theorem sBg_5 : sBg B S 5 = nI 0 := by rw [sBg_lo (by decide), if_neg (by decide), if_neg (by decide)]
theorem sBg_via {i : Nat} (h1 : 51 ≤ i) (h2 : i < 179) (h3 : (i - 51) % 2 = 0) : sBg B S i = n1 := by
  unfold sBg
  rw [sTn_at, if_neg (by omega), sH_at, if_neg (by omega), sG_at 8 (by decide), if_neg (by omega), if_pos (by omega)]
theorem sBg_host {h : Nat} (hh : h < 8) : sBg B S (179 + h) = nI (h % B) := by
  unfold sBg
  rw [sTn_at, if_neg (by omega), sH_at, if_pos (by omega), Nat.add_sub_cancel_left]
theorem WT.begin (hB : 2 ≤ B) (hB8 : B ≤ 8) (h2 : ∃ d, S 2 = nI d ∧ 1 ≤ d ∧ d ≤ 20) (h3 : ∃ d, S 3 = nI d ∧ 5 ≤ d ∧ d ≤ 100) (h4 : ∃ d, S 4 = nI d ∧ d ≤ 100) : WT B 0 (sBg B S) := by
  refine ⟨by rw [sBg_lo (by decide), if_pos rfl], hB, hB8, sBg_5, by decide, ?_, ?_, ?_, fun h hh => ⟨h % B, Nat.mod_lt _ (by omega), sBg_host hh⟩, fun l hl => absurd hl (Nat.not_lt_zero l), fun b h hb hh => Or.inl (sBg_via (by omega) (by omega) (by omega))⟩
  · rw [sBg_lo (by decide), if_neg (by decide), if_pos (by decide)]; exact h2
  · rw [sBg_lo (by decide), if_neg (by decide), if_pos (by decide)]; exact h3
  · rw [sBg_lo (by decide), if_neg (by decide), if_pos (by decide)]; exact h4
theorem y_flush {b : Nat} (h : Cl m0 m S) (hb : b < 8) : ∃ m1, f_X1_flush (nI b) m = some m1 ∧ Cl m0 m1 (sFl b S) ∧ ∀ z, fs z m → fs z m1 := by
  obtain ⟨t, ht, m1, k1, k2, k3⟩ := lo_rel (b := b_X1_flush_2 (nI b)) (s0 := (nI 0, m)) (N := 2048) (n := 8)
    (P := fun k s => ∃ m1, s = (nI k, m1) ∧ Cl m0 m1 (it (fun h S => upd S (51 + 16 * b + 2 * h) n1) k S) ∧ ∀ z, fs z m → fs z m1)
    (Q := fun t => ∃ m1, t = (nI 8, m1) ∧ Cl m0 m1 (sFl b S) ∧ ∀ z, fs z m → fs z m1)
    ⟨m, rfl, h, fun _ h => h⟩ (fun k s hk hP => by
      obtain ⟨m1, rfl, k2, k3⟩ := hP
      unfold b_X1_flush_2 f_X1_makeEntry
      have : ¬ 8 ≤ k := by omega
      have e8 : b * 8 = 8 * b := Nat.mul_comm _ _
      simp (disch := omega) only [L0, L1, L2, L3, L4, L5, L6, L7, L8, L9, L10, L11, L12, L13, L14, L15, L16, L17, L18, L19, L20, L21, L22, L23, L24, L25, L26, L27, L28, L29, L30, L31, L32, L47, L48, L50, L51, L57, L59, L90, L97, L100, L120, L122, L127, L179, L187, L199, L200, L487, L974, L1000, L1461, L10000, L18498, L1000000, nI_add, pk_mul, nI_cl, nI_lts, nI_les, nI_eqs, Ln1, n1_ne, n1_ne', n1_lts, nI_ltn, n1_les, nI_len, bd_s, lt_d, gd_n, if_neg this, e8]
      exact ⟨_, rfl, _, rfl, Cl_unlearn (w := nI 0) k2 hb hk rfl, fun z hz => ((k3 z hz).w (by omega)).w (by omega)⟩) (fun s hP => by
      obtain ⟨m1, rfl, k2, k3⟩ := hP
      refine ⟨_, ?_, m1, rfl, k2, k3⟩
      unfold b_X1_flush_2
      simp (disch := omega) only [L0, L1, L2, L3, L4, L5, L6, L7, L8, L9, L10, L11, L12, L13, L14, L15, L16, L17, L18, L19, L20, L21, L22, L23, L24, L25, L26, L27, L28, L29, L30, L31, L32, L47, L48, L50, L51, L57, L59, L90, L97, L100, L120, L122, L127, L179, L187, L199, L200, L487, L974, L1000, L1461, L10000, L18498, L1000000, nI_add, pk_mul, nI_cl, nI_lts, nI_les, nI_eqs, Ln1, n1_ne, n1_ne', n1_lts, nI_ltn, n1_les, nI_len, bd_s, lt_d, gd_n, if_true, Nat.le_refl]) (by decide)
  refine ⟨m1, ?_, k2, k3⟩
  unfold f_X1_flush
  simp only [L0, ht, k1, bd_s]
theorem y_startVectorF {b : Nat} (h : Cl m0 m S) (hb : b < 8) : ∃ m1, f_X1_startVector (nI b) m = some m1 ∧ Cl m0 m1 (sSt b S) ∧ ∀ z, fs z m → fs z m1 := by
  unfold f_X1_startVector sSt
  rw [y_idOf h.1 hb]
  simp (disch := omega) only [L0, L1, L2, L3, L4, L5, L6, L7, L8, L9, L10, L11, L12, L13, L14, L15, L16, L17, L18, L19, L20, L21, L22, L23, L24, L25, L26, L27, L28, L29, L30, L31, L32, L47, L48, L50, L51, L57, L59, L90, L97, L100, L120, L122, L127, L179, L187, L199, L200, L487, L974, L1000, L1461, L10000, L18498, L1000000, nI_add, pk_mul, nI_cl, nI_lts, nI_les, nI_eqs, Ln1, n1_ne, n1_ne', n1_lts, nI_ltn, n1_les, nI_len, bd_s, lt_d, gd_n]
  exact ⟨_, rfl, Cl_rlk (Cl_age (Cl_cost (Cl_root h hb rfl) hb rfl) hb rfl) hb rfl, fun z hz => (((hz.w (by omega)).w (by omega)).w (by omega)).w (by omega)⟩
theorem y_begin1 (h : Cl m0 m S) (hf : fs m0 m) (hB : 2 ≤ B) (hB8 : B ≤ 8) : ∃ m1, f_X1_beginAnew (nI B) m = some m1 ∧ Cl m0 m1 (sH B 8 (sG 8 S)) ∧ fs m0 m1 := by
  obtain ⟨t, ht, m1, k1, k2, k3⟩ := lo_rel (b := b_X1_beginAnew_2 (nI B)) (s0 := (nI 0, m)) (N := 2048) (n := 8)
    (P := fun k s => ∃ m1, s = (nI k, m1) ∧ Cl m0 m1 (sG k S) ∧ fs m0 m1)
    (Q := fun t => ∃ m1, t = (nI 8, m1) ∧ Cl m0 m1 (sG 8 S) ∧ fs m0 m1)
    ⟨m, rfl, h, hf⟩ (fun k s hk hP => by
      obtain ⟨m1, rfl, k2, k3⟩ := hP
      obtain ⟨m2, a1, a2, a3⟩ := y_startVectorF (Cl_prio (v := nI 5) k2 hk rfl) hk
      obtain ⟨m3, b1, b2, b3⟩ := y_flush a2 hk
      unfold b_X1_beginAnew_2
      have : ¬ 8 ≤ k := by omega
      simp (disch := omega) only [L0, L1, L2, L3, L4, L5, L6, L7, L8, L9, L10, L11, L12, L13, L14, L15, L16, L17, L18, L19, L20, L21, L22, L23, L24, L25, L26, L27, L28, L29, L30, L31, L32, L47, L48, L50, L51, L57, L59, L90, L97, L100, L120, L122, L127, L179, L187, L199, L200, L487, L974, L1000, L1461, L10000, L18498, L1000000, nI_add, pk_mul, nI_cl, nI_lts, nI_les, nI_eqs, Ln1, n1_ne, n1_ne', n1_lts, nI_ltn, n1_les, nI_len, bd_s, lt_d, gd_n, if_neg this, a1, b1]
      exact ⟨_, rfl, _, rfl, b2, b3 _ (a3 _ (k3.w (by omega)))⟩) (fun s hP => by
      obtain ⟨m1, rfl, k2, k3⟩ := hP
      refine ⟨_, ?_, m1, rfl, k2, k3⟩
      unfold b_X1_beginAnew_2
      simp (disch := omega) only [L0, L1, L2, L3, L4, L5, L6, L7, L8, L9, L10, L11, L12, L13, L14, L15, L16, L17, L18, L19, L20, L21, L22, L23, L24, L25, L26, L27, L28, L29, L30, L31, L32, L47, L48, L50, L51, L57, L59, L90, L97, L100, L120, L122, L127, L179, L187, L199, L200, L487, L974, L1000, L1461, L10000, L18498, L1000000, nI_add, pk_mul, nI_cl, nI_lts, nI_les, nI_eqs, Ln1, n1_ne, n1_ne', n1_lts, nI_ltn, n1_les, nI_len, bd_s, lt_d, gd_n, if_true, Nat.le_refl]) (by decide)
  obtain ⟨t', ht', m2, l1, l2, l3⟩ := lo_rel (b := b_X1_beginAnew_33 (nI B)) (s0 := (nI 0, m1)) (N := 2048) (n := 8)
    (P := fun k s => ∃ m1, s = (nI k, m1) ∧ Cl m0 m1 (sH B k (sG 8 S)) ∧ fs m0 m1)
    (Q := fun t => ∃ m1, t = (nI 8, m1) ∧ Cl m0 m1 (sH B 8 (sG 8 S)) ∧ fs m0 m1)
    ⟨m1, rfl, k2, k3⟩ (fun k s hk hP => by
      obtain ⟨m1, rfl, k2, k3⟩ := hP
      unfold b_X1_beginAnew_33
      have : ¬ 8 ≤ k := by omega
      have hB0 : ¬ B ≤ 0 := by omega
      have hr : nI k - nI k / nI B * nI B = nI (k % B) := pk_rem (show k < 2 ^ 31 by omega) (by omega) (show B < 2 ^ 31 by omega)
      have hz : nz (nI B) = true := nz_n (by omega) (by omega)
      simp (disch := omega) only [L0, L1, L8, nI_add, nI_les, nI_cl, bd_s, lt_d, gd_n, if_neg this, hr, hz, gd_tt, if_neg hB0]
      exact ⟨_, rfl, _, rfl, Cl_host k2 hk rfl, k3.w (by omega)⟩) (fun s hP => by
      obtain ⟨m1, rfl, k2, k3⟩ := hP
      refine ⟨_, ?_, m1, rfl, k2, k3⟩
      unfold b_X1_beginAnew_33
      simp (disch := omega) only [L0, L1, L2, L3, L4, L5, L6, L7, L8, L9, L10, L11, L12, L13, L14, L15, L16, L17, L18, L19, L20, L21, L22, L23, L24, L25, L26, L27, L28, L29, L30, L31, L32, L47, L48, L50, L51, L57, L59, L90, L97, L100, L120, L122, L127, L179, L187, L199, L200, L487, L974, L1000, L1461, L10000, L18498, L1000000, nI_add, pk_mul, nI_cl, nI_lts, nI_les, nI_eqs, Ln1, n1_ne, n1_ne', n1_lts, nI_ltn, n1_les, nI_len, bd_s, lt_d, gd_n, if_true, Nat.le_refl]) (by decide)
  refine ⟨m2, ?_, l2, l3⟩
  unfold f_X1_beginAnew
  simp only [L0, ht, k1, bd_s, ht', l1]
theorem y_begin8 : ∃ m1, f_X8_beginAnew m = some m1 ∧ (∀ q, ¬ (24 ≤ q ∧ q < 28) → m1.1 q = m.1 q) ∧ m1.2 = m.2 ∧ (∀ t, t < 4 → m1.1 24 t = nI 100 ∧ m1.1 25 t = nI 0 ∧ m1.1 26 t = nI 0) ∧ ∀ j, j < 64 → m1.1 27 j = nI 0 := by
  obtain ⟨t, ht, m1, k1, k2, k3, k4⟩ := lo_rel (b := b_X8_beginAnew_2) (s0 := (nI 0, m)) (N := 2048) (n := 4)
    (P := fun k s => ∃ m1, s = (nI k, m1) ∧ (∀ q, ¬ (24 ≤ q ∧ q < 28) → m1.1 q = m.1 q) ∧ m1.2 = m.2 ∧ ∀ t, t < k → m1.1 24 t = nI 100 ∧ m1.1 25 t = nI 0 ∧ m1.1 26 t = nI 0)
    (Q := fun t => ∃ m1, t = (nI 4, m1) ∧ (∀ q, ¬ (24 ≤ q ∧ q < 28) → m1.1 q = m.1 q) ∧ m1.2 = m.2 ∧ ∀ t, t < 4 → m1.1 24 t = nI 100 ∧ m1.1 25 t = nI 0 ∧ m1.1 26 t = nI 0)
    ⟨m, rfl, fun _ _ => rfl, rfl, fun t ht => absurd ht (Nat.not_lt_zero t)⟩ (fun k s hk hP => by
      obtain ⟨m1, rfl, k2, k3, k4⟩ := hP
      unfold b_X8_beginAnew_2
      have : ¬ 4 ≤ k := by omega
      simp (disch := omega) only [L0, L1, L2, L3, L4, L5, L6, L7, L8, L9, L10, L11, L12, L13, L14, L15, L16, L17, L18, L19, L20, L21, L22, L23, L24, L25, L26, L27, L28, L29, L30, L31, L32, L47, L48, L50, L51, L57, L59, L90, L97, L100, L120, L122, L127, L179, L187, L199, L200, L487, L974, L1000, L1461, L10000, L18498, L1000000, nI_add, pk_mul, nI_cl, nI_lts, nI_les, nI_eqs, Ln1, n1_ne, n1_ne', n1_lts, nI_ltn, n1_les, nI_len, bd_s, lt_d, gd_n, wI_sR, sR_get, sR_sR, sR_ne, if_neg this]
      refine ⟨_, rfl, _, rfl, fun q hq => ?_, k3, fun t ht => ?_⟩
      · rw [sR_ne (by omega), sR_ne (by omega), sR_ne (by omega)]
        exact k2 q hq
      · rw [sR_ne (show 24 ≠ 26 by decide), sR_ne (show 24 ≠ 25 by decide), sR_get, sR_ne (show 25 ≠ 26 by decide), sR_get, sR_get]
        by_cases htk : t = k
        · subst htk
          rw [upd_e, upd_e, upd_e]
          exact ⟨rfl, rfl, rfl⟩
        · rw [upd_n htk, upd_n htk, upd_n htk]
          exact k4 t (by omega)) (fun s hP => by
      obtain ⟨m1, rfl, k2, k3, k4⟩ := hP
      refine ⟨_, ?_, m1, rfl, k2, k3, k4⟩
      unfold b_X8_beginAnew_2
      simp (disch := omega) only [L0, L1, L2, L3, L4, L5, L6, L7, L8, L9, L10, L11, L12, L13, L14, L15, L16, L17, L18, L19, L20, L21, L22, L23, L24, L25, L26, L27, L28, L29, L30, L31, L32, L47, L48, L50, L51, L57, L59, L90, L97, L100, L120, L122, L127, L179, L187, L199, L200, L487, L974, L1000, L1461, L10000, L18498, L1000000, nI_add, pk_mul, nI_cl, nI_lts, nI_les, nI_eqs, Ln1, n1_ne, n1_ne', n1_lts, nI_ltn, n1_les, nI_len, bd_s, lt_d, gd_n, if_true, Nat.le_refl]) (by decide)
  have h1 := lo_gen (b := b_X8_beginAnew_37) (fun k => (nI k, sR m1 27 (mx k (fun _ => nI 0) (m1.1 27)))) 64 (nI 64, sR m1 27 (mx 64 (fun _ => nI 0) (m1.1 27))) (fun k hk => by
    unfold b_X8_beginAnew_37
    have : ¬ 64 ≤ k := by omega
    have e : upd (mx k (fun _ => nI 0) (m1.1 27)) k (nI 0) = mx (k + 1) (fun _ => nI 0) (m1.1 27) := mx_s k (fun _ => nI 0) (m1.1 27)
    simp (disch := omega) only [L0, L1, show (64 : Int32) = nI 64 from rfl, nI_add, pk_mul, nI_cl, nI_lts, nI_les, nI_eqs, Ln1, n1_ne, n1_ne', n1_lts, nI_ltn, n1_les, nI_len, bd_s, lt_d, gd_n, wI_sR, sR_get, sR_sR, sR_ne, if_neg this, e]) (by
    unfold b_X8_beginAnew_37
    simp (disch := omega) only [L0, L1, show (64 : Int32) = nI 64 from rfl, nI_add, pk_mul, nI_cl, nI_lts, nI_les, nI_eqs, Ln1, n1_ne, n1_ne', n1_lts, nI_ltn, n1_les, nI_len, bd_s, lt_d, gd_n, if_true, Nat.le_refl]) (N := 2048) (by decide)
  simp only [mx_0, sR_self] at h1
  refine ⟨sR m1 27 (mx 64 (fun _ => nI 0) (m1.1 27)), ?_, fun q hq => ?_, k3, fun t ht => ?_, fun j hj => ?_⟩
  · unfold f_X8_beginAnew
    simp only [L0, ht, k1, bd_s, h1]
  · rw [sR_ne (by omega)]; exact k2 q hq
  · rw [sR_ne (by decide), sR_ne (by decide), sR_ne (by decide)]; exact k4 t ht
  · rw [sR_get, mx_lt hj]
theorem pl_le9 : ∀ i, i < 187 → i ≠ 5 → (pl i).1 < 10 := by decide +kernel
theorem pl_ten : ∀ i, i < 199 → 187 ≤ i → pl i = (23 + (i - 187) % 3, (i - 187) / 3) := by decide +kernel
theorem y_beginAnew (hR : RN m 1 S) (hB : 2 ≤ B) (hB8 : B ≤ 8) : ∃ m1, f_X4_beginAnew (nI B) m = some m1 ∧ RN m1 1 (sBg B S) ∧ fs m m1 := by
  have h7 := Cl_used (v := nI 0) (Cl_dlvd (v := nI 0) (Cl_sent (v := nI 0) (Cl_chng (v := nI 0) (Cl_auct (v := nI 0) (Cl_clock (v := nI 0) (Cl_size (v := nI B) (Cl.rf hR) rfl) rfl) rfl) rfl) rfl) rfl) rfl
  have f7 := (((((((fs.rf m).w (q := 1) (j := 0) (v := nI B) (by omega)).w (q := 1) (j := 1) (v := nI 0) (by omega)).w (q := 1) (j := 5) (v := nI 0) (by omega)).w (q := 1) (j := 6) (v := nI 0) (by omega)).w (q := 1) (j := 7) (v := nI 0) (by omega)).w (q := 1) (j := 8) (v := nI 0) (by omega)).w (q := 1) (j := 9) (v := nI 0) (by omega)
  obtain ⟨m8, a1, a2, a3⟩ := y_begin1 h7 f7 hB hB8
  obtain ⟨m9, b1, b2, b3, b4, b5⟩ := y_begin8 (m := wI m8 11 0 (nI 0))
  refine ⟨m9, ?_, ⟨fun i hi hr => ?_, fun t l ht hl _ => ?_, fun l hl => ?_⟩, fun o ho => ?_, ?_⟩
  · unfold f_X4_beginAnew
    simp only [L0, lt_d, a1, bd_s, b1]
  · have h199 : i < 199 := by
      refine Nat.lt_of_not_le (fun hh => ?_)
      have := hr.2 hh
      rw [sBg_5, nI_cl (by decide)] at this
      omega
    by_cases h187 : 187 ≤ i
    · rw [pl_ten i h199 h187]
      obtain ⟨c1, c2, c3⟩ := b4 ((i - 187) / 3) (by omega)
      have ez : sH B 8 (sG 8 (upd (zr 487 S) 0 (nI B))) i = nI 0 := by
        rw [sH_at, if_neg (by omega), sG_at 8 (by decide), if_neg (by omega), if_neg (by omega), upd_n (by omega)]
        unfold zr
        rw [if_pos (by omega)]
      unfold sBg
      rw [sTn_at]
      have : (i - 187) % 3 = 0 ∨ (i - 187) % 3 = 1 ∨ (i - 187) % 3 = 2 := by omega
      rcases this with h | h | h
      · rw [if_pos (by omega)]
        show m9.1 (1 + (23 + (i - 187) % 3)) _ = _
        rw [h]; exact c1
      · rw [if_neg (by omega), ez]
        show m9.1 (1 + (23 + (i - 187) % 3)) _ = _
        rw [h]; exact c2
      · rw [if_neg (by omega), ez]
        show m9.1 (1 + (23 + (i - 187) % 3)) _ = _
        rw [h]; exact c3
    · by_cases h5 : i = 5
      · subst h5
        rw [sBg_5]
        show m9.1 11 0 = nI 0
        rw [b2 11 (by omega), wI_sR, sR_get, upd_e]
      · have hp := pl_le9 i (by omega) h5
        have hmade : ¬ (51 ≤ i ∧ i < 179 ∧ i % 2 = 0) := fun hm => hr.1 hm (sBg_via (by omega) (by omega) (by omega))
        rw [b2 _ (by omega), wI_sR, sR_ne (by omega)]
        rw [a2.1.1 i hi ⟨fun hm => absurd hm hmade, fun hm => by omega⟩]
        unfold sBg
        rw [sTn_at, if_neg (by omega), sH_at, sH_at]
        by_cases hh : 179 ≤ i ∧ i < 179 + 8
        · rw [if_pos hh, if_pos hh]
        · rw [if_neg hh, if_neg hh, sG_at 8 (by decide), sG_at 8 (by decide)]
          by_cases hv : 11 ≤ i ∧ i < 11 + 5 * 8
          · rw [if_pos hv, if_pos hv]
          · rw [if_neg hv, if_neg hv]
            by_cases hw : 51 ≤ i ∧ i < 51 + 16 * 8 ∧ (i - 51) % 2 = 0
            · rw [if_pos hw, if_pos hw]
            · rw [if_neg hw, if_neg hw]
              have hi11 : i < 11 := by omega
              have : i = 0 ∨ i = 1 ∨ (2 ≤ i ∧ i ≤ 4) ∨ i = 6 ∨ i = 7 ∨ i = 8 ∨ i = 9 ∨ i = 10 := by omega
              unfold zr
              rcases this with rfl | rfl | h | rfl | rfl | rfl | rfl | rfl
              · rfl
              · rfl
              · rw [upd_n (by omega), upd_n (by omega), upd_n (by omega), upd_n (by omega), upd_n (by omega), upd_n (by omega), upd_n (by omega), upd_n (by omega), if_neg (by omega)]
              · rfl
              · rfl
              · rfl
              · rfl
              · rfl
  · exact b5 _ (by omega)
  · show isB (m9.1 16 l) = true
    rw [b2 16 (by omega), wI_sR, sR_ne (by decide)]
    exact a2.1.2.2 l hl
  · rw [b2 o (by omega), wI_sR, sR_ne (by omega)]
    exact a3.1 o ho
  · rw [b3]; exact a3.2
theorem op_setBridges (h : Inv m) (v : Int32) : OPv (f_X11_setBridges v) (f_X12_setBridges v) cdA m := by
  obtain ⟨⟨B, T, hW⟩, hR, -⟩ := id h
  by_cases h1 : v < nI 2 ∨ nI 8 < v
  · refine op_th h (e := 1) (c := nI 1) (b := nI 0) ?_ rfl (by decide) ?_
    · unfold f_X11_setBridges
      simp (disch := omega) only [L0, L1, L2, L3, L4, L5, L6, L7, L8, L9, L10, L11, L12, L13, L14, L15, L16, L17, L18, L19, L20, L21, L22, L23, L24, L25, L26, L27, L28, L29, L30, L31, L32, L47, L48, L50, L51, L57, L59, L90, L97, L100, L120, L122, L127, L179, L187, L199, L200, L487, L974, L1000, L1461, L10000, L18498, L1000000, bd_s, lt_d, gd_n, y_out_y h1, i10, if_false]
    · unfold f_X12_setBridges
      simp (disch := omega) only [L0, L1, L2, L3, L4, L5, L6, L7, L8, L9, L10, L11, L12, L13, L14, L15, L16, L17, L18, L19, L20, L21, L22, L23, L24, L25, L26, L27, L28, L29, L30, L31, L32, L47, L48, L50, L51, L57, L59, L90, L97, L100, L120, L122, L127, L179, L187, L199, L200, L487, L974, L1000, L1461, L10000, L18498, L1000000, bd_s, lt_d, gd_n, x_in_n h1, if_true, x_fails]
  · obtain ⟨k, hk1, hk2, rfl⟩ := (rng v 2 8 (by decide) (by decide)).resolve_right h1
    refine op_mut (v := m.1 129 0) (S' := sBg k (m.1 129)) h ⟨k, 0, WT.begin hk1 hk2 hW.2.2.2.2.2.1 hW.2.2.2.2.2.2.1 hW.2.2.2.2.2.2.2.1⟩ (fun ms e1 e2 => ?_) (fun M hM => ?_)
    · obtain ⟨m1, a1, a2, a3⟩ := y_beginAnew e2 hk1 hk2
      refine ⟨m1, ?_, a2, a3.fc⟩
      unfold f_X11_setBridges
      simp (disch := omega) only [L0, L1, L2, L3, L4, L5, L6, L7, L8, L9, L10, L11, L12, L13, L14, L15, L16, L17, L18, L19, L20, L21, L22, L23, L24, L25, L26, L27, L28, L29, L30, L31, L32, L47, L48, L50, L51, L57, L59, L90, L97, L100, L120, L122, L127, L179, L187, L199, L200, L487, L974, L1000, L1461, L10000, L18498, L1000000, bd_s, lt_d, gd_n, y_out_n, if_true, e1, a1, rd_size e2]
    · refine ⟨_, MH.of, ?_⟩
      unfold f_X12_setBridges
      simp (disch := omega) only [L0, L1, L2, L3, L4, L5, L6, L7, L8, L9, L10, L11, L12, L13, L14, L15, L16, L17, L18, L19, L20, L21, L22, L23, L24, L25, L26, L27, L28, L29, L30, L31, L32, L47, L48, L50, L51, L57, L59, L90, L97, L100, L120, L122, L127, L179, L187, L199, L200, L487, L974, L1000, L1461, L10000, L18498, L1000000, bd_s, lt_d, gd_n, x_inn, i10, if_false, x_hold, x_begins hk1 hk2, wI_sR, sR_get, sR_sR, sR_ne, hM]
end PN
