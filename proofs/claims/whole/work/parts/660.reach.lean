/-! Groups, reached bridges, pairs, forests: over the memory. -/
def lx (S : Nat → Int32) (l : Nat) : Nat := (S (199 + 18 * l)).toNatClampNeg
def ly (S : Nat → Int32) (l : Nat) : Nat := (S (199 + 18 * l + 1)).toNatClampNeg
/-- the groups of a state -/
def gS (S : Nat → Int32) (T : Nat) : Nat → Nat := gr (ca S) (lx S) (ly S) T
def fS (S : Nat → Int32) (T : Nat) : Bool := frs (ca S) (lx S) (ly S) T
def JS (S : Nat → Int32) (T : Nat) (a b : Nat) : Bool := decide (gS S T a = gS S T b)
def cv (S : Nat → Int32) (B T w : Nat) : Int32 := if w < 5 then S (6 + w) else if w = 5 then nI (cnt (ca S) T) else nI (smn (fun h => cnt (fun l => JS S T l h) h) B)
theorem b_sh : ∀ s, s < 256 → ∀ b, b < 8 → ((nI s >>> (nI b &&& nI 31)) &&& nI 1) = bI (s.testBit b) := by decide +kernel
theorem b_or2 : ∀ s, s < 256 → ∀ x, x < 8 → ∀ y, y < 8 → (((nI s >>> (nI x &&& nI 31)) ||| (nI s >>> (nI y &&& nI 31))) &&& nI 1) = bI (s.testBit x || s.testBit y) := by decide +kernel
theorem b_1 : ∀ x, x < 8 → (nI 1 <<< (nI x &&& nI 31)) = nI (2 ^ x) := by decide +kernel
theorem b_and : ∀ s, s < 256 → ∀ b, b < 8 → ((nI s &&& ((nI 1 <<< (nI b &&& nI 31)) - nI 1)) = nI 0 ↔ ∀ j, j < b → s.testBit j = false) := by decide +kernel
theorem p2_lt : ∀ x, x < 8 → 2 ^ x < 256 := by decide
theorem nI_or (a b : Nat) : nI a ||| nI b = nI (a ||| b) := by
  apply Int32.toBitVec_inj.mp
  show BitVec.ofNat 32 a ||| BitVec.ofNat 32 b = BitVec.ofNat 32 (a ||| b)
  apply BitVec.eq_of_toNat_eq
  rw [BitVec.toNat_or, BitVec.toNat_ofNat, BitVec.toNat_ofNat, BitVec.toNat_ofNat, Nat.or_mod_two_pow]
theorem or_lt {a b : Nat} (ha : a < 256) (hb : b < 256) : a ||| b < 256 := Nat.or_lt_two_pow (n := 8) ha hb
section PH
variable {m M : me} {S : Nat → Int32} {B T : Nat}
theorem WT.ends (hW : WT B T S) {l : Nat} (hl : l < T) : S (199 + 18 * l) = nI (lx S l) ∧ S (199 + 18 * l + 1) = nI (ly S l) ∧ lx S l < ly S l ∧ ly S l < B := by
  obtain ⟨a, b, g1, g2, g3, g4, -⟩ := hW.2.2.2.2.2.2.2.2.2.1 l hl
  have hB := hW.2.2.1
  have e1 : lx S l = a := by unfold lx; rw [g3]; exact nI_cl (by omega)
  have e2 : ly S l = b := by unfold ly; rw [g4]; exact nI_cl (by omega)
  rw [e1, e2]
  exact ⟨g3, g4, g1, g2⟩
theorem WT.end8 (hW : WT B T S) : ∀ l, l < T → lx S l < 8 ∧ ly S l < 8 := fun l hl => by
  obtain ⟨-, -, h1, h2⟩ := hW.ends hl
  have := hW.2.2.1
  omega
theorem WT.endB (hW : WT B T S) : ∀ l, l < T → lx S l < B ∧ ly S l < B := fun l hl => by
  obtain ⟨-, -, h1, h2⟩ := hW.ends hl
  omega
theorem gS_lt (hW : WT B T S) {b : Nat} (hb : b < 8) : gS S T b < 8 := gr_lt T hW.end8 b hb
theorem x_reach1 {v1 v3 : Int32} {s : Nat} {p : Nat → Bool} (hW : WT B T (M.1 129)) (hs : s < 256) (hp : ∀ o, s.testBit o = p o) : ∃ s', s' < 256 ∧ (∀ o, s'.testBit o = pr (ca (M.1 129)) (lx (M.1 129)) (ly (M.1 129)) T p o) ∧ lo (b_X12_reached_15 v1 v3) 2048 (nI s, nI 0, M) = some (nI s', nI T, M) := by
  have w3 := hW.2.2.2.1
  have w4 := hW.2.2.2.2.1
  obtain ⟨t, ht, z, z1, z2, z3⟩ := lo_rel (b := b_X12_reached_15 v1 v3) (s0 := (nI s, nI 0, M)) (N := 2048) (n := T)
    (P := fun k s => ∃ z, z < 256 ∧ (∀ o, z.testBit o = pr (ca (M.1 129)) (lx (M.1 129)) (ly (M.1 129)) k p o) ∧ s = (nI z, nI k, M))
    (Q := fun t => ∃ z, z < 256 ∧ (∀ o, z.testBit o = pr (ca (M.1 129)) (lx (M.1 129)) (ly (M.1 129)) T p o) ∧ t = (nI z, nI T, M))
    ⟨s, hs, hp, rfl⟩ (fun k s hk hP => by
      obtain ⟨z, z1, z2, rfl⟩ := hP
      obtain ⟨g1, g2, g3, g4⟩ := hW.ends hk
      obtain ⟨g5, g6⟩ := hW.end8 k hk
      have : ¬ T ≤ k := by omega
      unfold b_X12_reached_15
      simp (disch := omega) only [L0, L1, L2, L3, L4, L5, L6, L7, L8, L9, L10, L11, L12, L13, L14, L15, L16, L17, L18, L19, L20, L21, L22, L23, L24, L25, L26, L27, L28, L29, L30, L31, L32, L47, L48, L50, L51, L57, L59, L90, L97, L100, L120, L122, L127, L179, L187, L199, L200, L487, L974, L1000, L1461, L10000, L18498, L1000000, nI_add, pk_mul, nI_cl, nI_lts, nI_les, nI_eqs, Ln1, n1_ne, n1_ne', n1_lts, nI_ltn, n1_les, nI_len, bd_s, lt_d, gd_n, w3, if_neg this, x_carries, x_of, Nat.add_zero, g1, g2]
      by_cases he : ca (M.1 129) k = true
      · rw [he, bI_t, ifn (by decide), b_or2 z z1 _ g5 _ g6, b_1 _ g5, b_1 _ g6, nI_or, nI_or]
        by_cases hb : (z.testBit (lx (M.1 129) k) || z.testBit (ly (M.1 129) k)) = true
        · rw [hb, bI_t, ifp rfl]
          refine ⟨_, rfl, _, or_lt z1 (or_lt (p2_lt _ g5) (p2_lt _ g6)), fun o => ?_, rfl⟩
          show _ = ps _ _ _ k (pr _ _ _ k p) o
          unfold ps
          rw [← z2 o, ← z2, ← z2, hb, he, Nat.testBit_or, Nat.testBit_or, Nat.testBit_two_pow, Nat.testBit_two_pow, decide_eq_decide.mpr (eq_comm (a := lx (M.1 129) k) (b := o)), decide_eq_decide.mpr (eq_comm (a := ly (M.1 129) k) (b := o))]
          rfl
        · have hb : (z.testBit (lx (M.1 129) k) || z.testBit (ly (M.1 129) k)) = false := by revert hb; cases (z.testBit (lx (M.1 129) k) || z.testBit (ly (M.1 129) k)) <;> simp
          rw [hb, bI_f, ifn (by decide)]
          refine ⟨_, rfl, z, z1, fun o => ?_, rfl⟩
          show _ = ps _ _ _ k (pr _ _ _ k p) o
          unfold ps
          rw [← z2 o, ← z2, ← z2, hb, he]
          cases z.testBit o <;> rfl
      · have he : ca (M.1 129) k = false := by revert he; cases ca (M.1 129) k <;> simp
        rw [he, bI_f, ifp rfl]
        refine ⟨_, rfl, z, z1, fun o => ?_, rfl⟩
        show _ = ps _ _ _ k (pr _ _ _ k p) o
        unfold ps
        rw [← z2 o, he]
        cases z.testBit o <;> rfl) (fun s hP => by
      obtain ⟨z, z1, z2, rfl⟩ := hP
      refine ⟨_, ?_, z, z1, z2, rfl⟩
      unfold b_X12_reached_15
      simp (disch := omega) only [L0, L1, L2, L3, L4, L5, L6, L7, L8, L9, L10, L11, L12, L13, L14, L15, L16, L17, L18, L19, L20, L21, L22, L23, L24, L25, L26, L27, L28, L29, L30, L31, L32, L47, L48, L50, L51, L57, L59, L90, L97, L100, L120, L122, L127, L179, L187, L199, L200, L487, L974, L1000, L1461, L10000, L18498, L1000000, nI_add, pk_mul, nI_cl, nI_lts, nI_les, nI_eqs, Ln1, n1_ne, n1_ne', n1_lts, nI_ltn, n1_les, nI_len, bd_s, lt_d, gd_n, w3, if_true, Nat.le_refl]) (by omega)
  exact ⟨z, z1, z2, by rw [ht, z3]⟩
theorem x_reached {b : Nat} (hW : WT B T (M.1 129)) (hb : b < 8) : ∃ s, s < 256 ∧ f_X12_reached (nI b) M = some (nI s, M) ∧ ∀ o, s.testBit o = JS (M.1 129) T b o := by
  obtain ⟨t, ht, z, z1, z2, z3⟩ := lo_rel (b := b_X12_reached_6 (nI b)) (s0 := (nI (2 ^ b), nI 0, M)) (N := 2048) (n := 8)
    (P := fun k s => ∃ z, z < 256 ∧ (∀ o, z.testBit o = pd (ca (M.1 129)) (lx (M.1 129)) (ly (M.1 129)) T k (fun o => decide (b = o)) o) ∧ s = (nI z, nI k, M))
    (Q := fun t => ∃ z, z < 256 ∧ (∀ o, z.testBit o = pd (ca (M.1 129)) (lx (M.1 129)) (ly (M.1 129)) T 8 (fun o => decide (b = o)) o) ∧ t = (nI z, nI 8, M))
    ⟨2 ^ b, p2_lt b hb, fun o => Nat.testBit_two_pow, rfl⟩ (fun k s hk hP => by
      obtain ⟨z, z1, z2, rfl⟩ := hP
      have : ¬ 8 ≤ k := by omega
      obtain ⟨s', k1, k2, k3⟩ := x_reach1 (M := M) (v1 := nI b) (v3 := nI k) hW z1 z2
      unfold b_X12_reached_6
      simp (disch := omega) only [L0, L1, L2, L3, L4, L5, L6, L7, L8, L9, L10, L11, L12, L13, L14, L15, L16, L17, L18, L19, L20, L21, L22, L23, L24, L25, L26, L27, L28, L29, L30, L31, L32, L47, L48, L50, L51, L57, L59, L90, L97, L100, L120, L122, L127, L179, L187, L199, L200, L487, L974, L1000, L1461, L10000, L18498, L1000000, nI_add, pk_mul, nI_cl, nI_lts, nI_les, nI_eqs, Ln1, n1_ne, n1_ne', n1_lts, nI_ltn, n1_les, nI_len, bd_s, lt_d, gd_n, if_neg this, k3]
      exact ⟨_, rfl, s', k1, k2, rfl⟩) (fun s hP => by
      obtain ⟨z, z1, z2, rfl⟩ := hP
      refine ⟨_, ?_, z, z1, z2, rfl⟩
      unfold b_X12_reached_6
      simp (disch := omega) only [L0, L1, L2, L3, L4, L5, L6, L7, L8, L9, L10, L11, L12, L13, L14, L15, L16, L17, L18, L19, L20, L21, L22, L23, L24, L25, L26, L27, L28, L29, L30, L31, L32, L47, L48, L50, L51, L57, L59, L90, L97, L100, L120, L122, L127, L179, L187, L199, L200, L487, L974, L1000, L1461, L10000, L18498, L1000000, nI_add, pk_mul, nI_cl, nI_lts, nI_les, nI_eqs, Ln1, n1_ne, n1_ne', n1_lts, nI_ltn, n1_les, nI_len, bd_s, lt_d, gd_n, if_true, Nat.le_refl]) (by omega)
  refine ⟨z, z1, ?_, fun o => ?_⟩
  · unfold f_X12_reached
    simp only [L0, L1, L2, L3, L4, L5, L6, L7, L8, L9, L10, L11, L12, L13, L14, L15, L16, L17, L18, L19, L20, L21, L22, L23, L24, L25, L26, L27, L28, L29, L30, L31, L32, L47, L48, L50, L51, L57, L59, L90, L97, L100, L120, L122, L127, L179, L187, L199, L200, L487, L974, L1000, L1461, L10000, L18498, L1000000, bd_s, lt_d, gd_n, b_1 b hb, ht, z3]
  · rw [z2 o, pd_gr hW.end8 hb o]
    rfl
theorem y_join {f : Nat → Int32} {g : Nat → Nat} {u w : Nat} (hu : u < 8) (hw : w < 8) (hf : ∀ b, b < 8 → f b = nI (g b)) (hg : ∀ b, b < 8 → g b < 8) : ∃ f', f_X5_join (nI u) (nI w) (sR m 127 f) = some (bI (!decide (u = w)), sR m 127 f') ∧ ∀ b, b < 8 → f' b = nI (if g b = w then u else g b) := by
  obtain ⟨t, ht, f', k1, k2⟩ := lo_rel (b := b_X5_join_2 (nI u) (nI w)) (s0 := (nI 0, sR m 127 f)) (N := 2048) (n := 8)
    (P := fun k s => ∃ f', s = (nI k, sR m 127 f') ∧ ∀ b, b < 8 → f' b = nI (if b < k ∧ g b = w then u else g b))
    (Q := fun t => ∃ f', t = (nI 8, sR m 127 f') ∧ ∀ b, b < 8 → f' b = nI (if g b = w then u else g b))
    ⟨f, rfl, fun b hb => by rw [if_neg (by omega)]; exact hf b hb⟩ (fun k s hk hP => by
      obtain ⟨f', rfl, h1⟩ := hP
      have : ¬ 8 ≤ k := by omega
      have e1 : f' k = nI (g k) := by rw [h1 k hk, if_neg (by omega)]
      have hgk := hg k hk
      unfold b_X5_join_2
      simp (disch := omega) only [L0, L1, L2, L3, L4, L5, L6, L7, L8, L9, L10, L11, L12, L13, L14, L15, L16, L17, L18, L19, L20, L21, L22, L23, L24, L25, L26, L27, L28, L29, L30, L31, L32, L47, L48, L50, L51, L57, L59, L90, L97, L100, L120, L122, L127, L179, L187, L199, L200, L487, L974, L1000, L1461, L10000, L18498, L1000000, nI_add, pk_mul, nI_cl, nI_lts, nI_les, nI_eqs, Ln1, n1_ne, n1_ne', n1_lts, nI_ltn, n1_les, nI_len, bd_s, lt_d, gd_n, wI_sR, sR_get, sR_sR, sR_ne, if_neg this, e1]
      by_cases hgw : g k = w
      · rw [ifp hgw]
        refine ⟨_, rfl, _, rfl, fun b hb => ?_⟩
        by_cases hbk : b = k
        · subst hbk; rw [upd_e, if_pos ⟨by omega, hgw⟩]
        · rw [upd_n hbk, h1 b hb]
          by_cases hbw : g b = w
          · by_cases hlt : b < k
            · rw [if_pos ⟨hlt, hbw⟩, if_pos ⟨by omega, hbw⟩]
            · rw [if_neg (fun h => hlt h.1), if_neg (by omega)]
          · rw [if_neg (fun h => hbw h.2), if_neg (fun h => hbw h.2)]
      · rw [ifn hgw]
        refine ⟨_, rfl, _, rfl, fun b hb => ?_⟩
        rw [h1 b hb]
        by_cases hbk : b = k
        · subst hbk; rw [if_neg (fun h => hgw h.2), if_neg (fun h => hgw h.2)]
        · by_cases hbw : g b = w
          · by_cases hlt : b < k
            · rw [if_pos ⟨hlt, hbw⟩, if_pos ⟨by omega, hbw⟩]
            · rw [if_neg (fun h => hlt h.1), if_neg (by omega)]
          · rw [if_neg (fun h => hbw h.2), if_neg (fun h => hbw h.2)]) (fun s hP => by
      obtain ⟨f', rfl, h1⟩ := hP
      refine ⟨_, ?_, f', rfl, fun b hb => ?_⟩
      · unfold b_X5_join_2
        simp (disch := omega) only [L0, L1, L2, L3, L4, L5, L6, L7, L8, L9, L10, L11, L12, L13, L14, L15, L16, L17, L18, L19, L20, L21, L22, L23, L24, L25, L26, L27, L28, L29, L30, L31, L32, L47, L48, L50, L51, L57, L59, L90, L97, L100, L120, L122, L127, L179, L187, L199, L200, L487, L974, L1000, L1461, L10000, L18498, L1000000, nI_add, pk_mul, nI_cl, nI_lts, nI_les, nI_eqs, Ln1, n1_ne, n1_ne', n1_lts, nI_ltn, n1_les, nI_len, bd_s, lt_d, gd_n, if_true, Nat.le_refl]
      · rw [h1 b hb]
        by_cases hbw : g b = w
        · rw [if_pos ⟨hb, hbw⟩, if_pos hbw]
        · rw [if_neg (fun h => hbw h.2), if_neg hbw]) (by omega)
  refine ⟨f', ?_, k2⟩
  unfold f_X5_join
  simp (disch := omega) only [L0, L1, L2, L3, L4, L5, L6, L7, L8, L9, L10, L11, L12, L13, L14, L15, L16, L17, L18, L19, L20, L21, L22, L23, L24, L25, L26, L27, L28, L29, L30, L31, L32, L47, L48, L50, L51, L57, L59, L90, L97, L100, L120, L122, L127, L179, L187, L199, L200, L487, L974, L1000, L1461, L10000, L18498, L1000000, nI_add, pk_mul, nI_cl, nI_lts, nI_les, nI_eqs, Ln1, n1_ne, n1_ne', n1_lts, nI_ltn, n1_les, nI_len, bd_s, lt_d, gd_n, ht, k1]
  by_cases huw : u = w
  · rw [ifp huw, decide_eq_true huw]; rfl
  · rw [ifn huw, decide_eq_false huw]; rfl
theorem isB_bI (b : Bool) : isB (bI b) = true := by cases b <;> decide
theorem y_findGroups (hW : WT B T S) (hR : RN m 1 S) : ∃ f, f_X5_findGroups m = some (bI (fS S T), sR m 127 f) ∧ ∀ b, b < 8 → f b = nI (gS S T b) := by
  have w3 := hW.2.2.2.1
  have w4 := hW.2.2.2.2.1
  have e5 := (rd_total hR).trans w3
  have h1 := lo_gen (b := b_X5_findGroups_4) (fun k => (nI k, sR m 127 (mx k nI (m.1 127)))) 8 (nI 8, sR m 127 (mx 8 nI (m.1 127))) (fun k hk => by
    unfold b_X5_findGroups_4
    have : ¬ 8 ≤ k := by omega
    simp (disch := omega) only [L0, L1, L2, L3, L4, L5, L6, L7, L8, L9, L10, L11, L12, L13, L14, L15, L16, L17, L18, L19, L20, L21, L22, L23, L24, L25, L26, L27, L28, L29, L30, L31, L32, L47, L48, L50, L51, L57, L59, L90, L97, L100, L120, L122, L127, L179, L187, L199, L200, L487, L974, L1000, L1461, L10000, L18498, L1000000, nI_add, pk_mul, nI_cl, nI_lts, nI_les, nI_eqs, Ln1, n1_ne, n1_ne', n1_lts, nI_ltn, n1_les, nI_len, bd_s, lt_d, gd_n, wI_sR, sR_get, sR_sR, sR_ne, if_neg this, mx_s]) (by
    unfold b_X5_findGroups_4
    simp (disch := omega) only [L0, L1, L2, L3, L4, L5, L6, L7, L8, L9, L10, L11, L12, L13, L14, L15, L16, L17, L18, L19, L20, L21, L22, L23, L24, L25, L26, L27, L28, L29, L30, L31, L32, L47, L48, L50, L51, L57, L59, L90, L97, L100, L120, L122, L127, L179, L187, L199, L200, L487, L974, L1000, L1461, L10000, L18498, L1000000, nI_add, pk_mul, nI_cl, nI_lts, nI_les, nI_eqs, Ln1, n1_ne, n1_ne', n1_lts, nI_ltn, n1_les, nI_len, bd_s, lt_d, gd_n, if_true, Nat.le_refl]) (N := 2048) (by decide)
  simp only [mx_0, sR_self] at h1
  obtain ⟨t, ht, f', k1, k2⟩ := lo_rel (b := b_X5_findGroups_25) (s0 := (nI 1, nI 0, sR m 127 (mx 8 nI (m.1 127)))) (N := 2048) (n := T)
    (P := fun k s => ∃ f', s = (bI (frs (ca S) (lx S) (ly S) k), nI k, sR m 127 f') ∧ ∀ b, b < 8 → f' b = nI (gr (ca S) (lx S) (ly S) k b))
    (Q := fun t => ∃ f', t = (bI (fS S T), nI T, sR m 127 f') ∧ ∀ b, b < 8 → f' b = nI (gS S T b))
    ⟨_, rfl, fun b hb => mx_lt hb⟩ (fun k s hk hP => by
      obtain ⟨f', rfl, h1⟩ := hP
      have hT : ¬ T ≤ k := by omega
      obtain ⟨g1, g2, g3, g4⟩ := hW.ends hk
      obtain ⟨g5, g6⟩ := hW.end8 k hk
      have hsub : ∀ l, l < k → lx S l < 8 ∧ ly S l < 8 := fun l hl => hW.end8 l (by omega)
      have hRs : RN (sR m 127 f') 1 S := hR.scr (by omega)
      have hlt : ∀ b, b < 8 → gr (ca S) (lx S) (ly S) k b < 8 := fun b hb => gr_lt k hsub b hb
      obtain ⟨f2, j1, j2⟩ := y_join (m := m) (f := f') (g := gr (ca S) (lx S) (ly S) k) (hlt _ g5) (hlt _ g6) h1 hlt
      unfold b_X5_findGroups_25
      have e12 : (sR m 127 f').1 12 k = nI (lx S k) := (rd_low hRs w3 w4 hk).trans g1
      have e13 : (sR m 127 f').1 13 k = nI (ly S k) := (rd_high hRs w3 w4 hk).trans g2
      have e11 : (sR m 127 f').1 11 0 = nI T := (rd_total hRs).trans w3
      simp (disch := omega) only [L0, L1, L2, L3, L4, L5, L6, L7, L8, L9, L10, L11, L12, L13, L14, L15, L16, L17, L18, L19, L20, L21, L22, L23, L24, L25, L26, L27, L28, L29, L30, L31, L32, L47, L48, L50, L51, L57, L59, L90, L97, L100, L120, L122, L127, L179, L187, L199, L200, L487, L974, L1000, L1461, L10000, L18498, L1000000, nI_add, pk_mul, nI_cl, nI_lts, nI_les, nI_eqs, Ln1, n1_ne, n1_ne', n1_lts, nI_ltn, n1_les, nI_len, bd_s, lt_d, gd_n, e11, if_neg hT, y_carries hW hRs hk, e12, e13, sR_get, h1 _ g5, h1 _ g6, j1]
      by_cases he : ca S k = true
      · rw [he, bI_t, ifn (by decide)]
        have e9 : ∀ b, b < 8 → f2 b = nI (gr (ca S) (lx S) (ly S) (k + 1) b) := fun b hb => by rw [j2 b hb, gr_t he]
        have e8 : frs (ca S) (lx S) (ly S) (k + 1) = (frs (ca S) (lx S) (ly S) k && !decide (gr (ca S) (lx S) (ly S) k (lx S k) = gr (ca S) (lx S) (ly S) k (ly S k))) := by
          show (_ && !(ca S k && _)) = _
          rw [he]; rfl
        refine ⟨(bI (frs (ca S) (lx S) (ly S) (k + 1)), nI (k + 1), sR m 127 f2), ?_, f2, rfl, e9⟩
        rw [e8]
        cases frs (ca S) (lx S) (ly S) k
        · rfl
        · rw [bI_t, ifn (by decide)]
          cases decide (gr (ca S) (lx S) (ly S) k (lx S k) = gr (ca S) (lx S) (ly S) k (ly S k))
          · rfl
          · rfl
      · have he : ca S k = false := by revert he; cases ca S k <;> simp
        rw [he, bI_f, ifp rfl]
        have e8 : frs (ca S) (lx S) (ly S) (k + 1) = frs (ca S) (lx S) (ly S) k := by
          show (_ && !(ca S k && _)) = _
          rw [he]
          cases frs (ca S) (lx S) (ly S) k <;> rfl
        refine ⟨_, rfl, f', by rw [e8], fun b hb => by rw [gr_f he]; exact h1 b hb⟩) (fun s hP => by
      obtain ⟨f', rfl, h1⟩ := hP
      refine ⟨_, ?_, f', rfl, h1⟩
      have hRs : RN (sR m 127 f') 1 S := hR.scr (by omega)
      have e11 : (sR m 127 f').1 11 0 = nI T := (rd_total hRs).trans w3
      unfold b_X5_findGroups_25
      simp (disch := omega) only [L0, L1, L2, L3, L4, L5, L6, L7, L8, L9, L10, L11, L12, L13, L14, L15, L16, L17, L18, L19, L20, L21, L22, L23, L24, L25, L26, L27, L28, L29, L30, L31, L32, L47, L48, L50, L51, L57, L59, L90, L97, L100, L120, L122, L127, L179, L187, L199, L200, L487, L974, L1000, L1461, L10000, L18498, L1000000, nI_add, pk_mul, nI_cl, nI_lts, nI_les, nI_eqs, Ln1, n1_ne, n1_ne', n1_lts, nI_ltn, n1_les, nI_len, bd_s, lt_d, gd_n, e11, if_true, Nat.le_refl]
      rfl) (by omega)
  refine ⟨f', ?_, k2⟩
  unfold f_X5_findGroups
  simp only [L0, L1, L2, L3, L4, L5, L6, L7, L8, L9, L10, L11, L12, L13, L14, L15, L16, L17, L18, L19, L20, L21, L22, L23, L24, L25, L26, L27, L28, L29, L30, L31, L32, L47, L48, L50, L51, L57, L59, L90, L97, L100, L120, L122, L127, L179, L187, L199, L200, L487, L974, L1000, L1461, L10000, L18498, L1000000, bd_s, lt_d, gd_n, h1, ht, k1, isB_bI, gd_tt]
theorem x_carrying (hW : WT B T (M.1 129)) : f_X12_carrying M = some (nI (cnt (ca (M.1 129)) T), M) := by
  have w3 := hW.2.2.2.1
  have w4 := hW.2.2.2.2.1
  unfold f_X12_carrying
  have h := lo_gen (b := b_X12_carrying_4) (fun k => (nI (cnt (ca (M.1 129)) k), nI k, M)) T (nI (cnt (ca (M.1 129)) T), nI T, M) (fun k hk => by
    unfold b_X12_carrying_4
    have : ¬ T ≤ k := by omega
    simp (disch := omega) only [L0, L1, L2, L3, L4, L5, L6, L7, L8, L9, L10, L11, L12, L13, L14, L15, L16, L17, L18, L19, L20, L21, L22, L23, L24, L25, L26, L27, L28, L29, L30, L31, L32, L47, L48, L50, L51, L57, L59, L90, L97, L100, L120, L122, L127, L179, L187, L199, L200, L487, L974, L1000, L1461, L10000, L18498, L1000000, nI_add, pk_mul, nI_cl, nI_lts, nI_les, nI_eqs, Ln1, n1_ne, n1_ne', n1_lts, nI_ltn, n1_les, nI_len, bd_s, lt_d, gd_n, w3, if_neg this, x_carries]
    by_cases he : ca (M.1 129) k = true
    · rw [he, bI_t, ifn (by decide), cnt_t he]
    · have he : ca (M.1 129) k = false := by revert he; cases ca (M.1 129) k <;> simp
      rw [he, bI_f, ifp rfl, cnt_f he, Nat.add_zero]) (by
    unfold b_X12_carrying_4
    simp (disch := omega) only [L0, L1, L2, L3, L4, L5, L6, L7, L8, L9, L10, L11, L12, L13, L14, L15, L16, L17, L18, L19, L20, L21, L22, L23, L24, L25, L26, L27, L28, L29, L30, L31, L32, L47, L48, L50, L51, L57, L59, L90, L97, L100, L120, L122, L127, L179, L187, L199, L200, L487, L974, L1000, L1461, L10000, L18498, L1000000, nI_add, pk_mul, nI_cl, nI_lts, nI_les, nI_eqs, Ln1, n1_ne, n1_ne', n1_lts, nI_ltn, n1_les, nI_len, bd_s, lt_d, gd_n, w3, if_true, Nat.le_refl]) (N := 2048) (by omega)
  simp only [cnt] at h
  simp only [L0, L1, L2, L3, L4, L5, L6, L7, L8, L9, L10, L11, L12, L13, L14, L15, L16, L17, L18, L19, L20, L21, L22, L23, L24, L25, L26, L27, L28, L29, L30, L31, L32, L47, L48, L50, L51, L57, L59, L90, L97, L100, L120, L122, L127, L179, L187, L199, L200, L487, L974, L1000, L1461, L10000, L18498, L1000000, h, bd_s]
theorem y_carrying (hW : WT B T S) (hR : RN m 1 S) : f_X3_countCarrying m = some (nI (cnt (ca S) T), m) := by
  have w3 := hW.2.2.2.1
  have w4 := hW.2.2.2.2.1
  have e5 := (rd_total hR).trans w3
  unfold f_X3_countCarrying
  have h := lo_gen (b := b_X3_countCarrying_4) (fun k => (nI (cnt (ca S) k), nI k, m)) T (nI (cnt (ca S) T), nI T, m) (fun k hk => by
    unfold b_X3_countCarrying_4
    have : ¬ T ≤ k := by omega
    simp (disch := omega) only [L0, L1, L2, L3, L4, L5, L6, L7, L8, L9, L10, L11, L12, L13, L14, L15, L16, L17, L18, L19, L20, L21, L22, L23, L24, L25, L26, L27, L28, L29, L30, L31, L32, L47, L48, L50, L51, L57, L59, L90, L97, L100, L120, L122, L127, L179, L187, L199, L200, L487, L974, L1000, L1461, L10000, L18498, L1000000, nI_add, pk_mul, nI_cl, nI_lts, nI_les, nI_eqs, Ln1, n1_ne, n1_ne', n1_lts, nI_ltn, n1_les, nI_len, bd_s, lt_d, gd_n, e5, if_neg this, y_carries hW hR hk]
    by_cases he : ca S k = true
    · rw [he, bI_t, ifn (by decide), cnt_t he]
    · have he : ca S k = false := by revert he; cases ca S k <;> simp
      rw [he, bI_f, ifp rfl, cnt_f he]) (by
    unfold b_X3_countCarrying_4
    simp (disch := omega) only [L0, L1, L2, L3, L4, L5, L6, L7, L8, L9, L10, L11, L12, L13, L14, L15, L16, L17, L18, L19, L20, L21, L22, L23, L24, L25, L26, L27, L28, L29, L30, L31, L32, L47, L48, L50, L51, L57, L59, L90, L97, L100, L120, L122, L127, L179, L187, L199, L200, L487, L974, L1000, L1461, L10000, L18498, L1000000, nI_add, pk_mul, nI_cl, nI_lts, nI_les, nI_eqs, Ln1, n1_ne, n1_ne', n1_lts, nI_ltn, n1_les, nI_len, bd_s, lt_d, gd_n, e5, if_true, Nat.le_refl]) (N := 2048) (by omega)
  simp only [cnt] at h
  simp only [L0, L1, L2, L3, L4, L5, L6, L7, L8, L9, L10, L11, L12, L13, L14, L15, L16, L17, L18, L19, L20, L21, L22, L23, L24, L25, L26, L27, L28, L29, L30, L31, L32, L47, L48, L50, L51, L57, L59, L90, L97, L100, L120, L122, L127, L179, L187, L199, L200, L487, L974, L1000, L1461, L10000, L18498, L1000000, h, bd_s]
theorem x_forest (hW : WT B T (M.1 129)) : f_X12_isWithoutCycle M = some (bI (fS (M.1 129) T), M) := by
  have hB8 := hW.2.2.1
  have w0 := hW.1
  unfold f_X12_isWithoutCycle
  have h := lo_gen (b := b_X12_isWithoutCycle_4) (fun k => (nI (cnt (pt (gS (M.1 129) T)) k), nI k, M)) B (nI (cnt (pt (gS (M.1 129) T)) B), nI B, M) (fun k hk => by
    unfold b_X12_isWithoutCycle_4
    have : ¬ B ≤ k := by omega
    obtain ⟨s, s1, s2, s3⟩ := x_reached (M := M) hW (show k < 8 by omega)
    simp (disch := omega) only [L0, L1, L2, L3, L4, L5, L6, L7, L8, L9, L10, L11, L12, L13, L14, L15, L16, L17, L18, L19, L20, L21, L22, L23, L24, L25, L26, L27, L28, L29, L30, L31, L32, L47, L48, L50, L51, L57, L59, L90, L97, L100, L120, L122, L127, L179, L187, L199, L200, L487, L974, L1000, L1461, L10000, L18498, L1000000, nI_add, pk_mul, nI_cl, nI_lts, nI_les, nI_eqs, Ln1, n1_ne, n1_ne', n1_lts, nI_ltn, n1_les, nI_len, bd_s, lt_d, gd_n, w0, if_neg this, s2]
    have hiff := b_and s s1 k (by omega)
    by_cases hp : pt (gS (M.1 129) T) k = true
    · rw [ifp (hiff.mpr (fun j hj => by rw [s3 j]; exact decide_eq_false (fun g => of_decide_eq_true hp j hj g.symm))), cnt_t hp]
    · have hn : ¬ (nI s &&& ((nI 1 <<< (nI k &&& nI 31)) - nI 1)) = nI 0 := fun g => hp (decide_eq_true (fun j hj e => by
        have := hiff.mp g j hj
        rw [s3 j] at this
        exact of_decide_eq_false this e.symm))
      rw [ifn hn, cnt_f (by revert hp; cases pt (gS (M.1 129) T) k <;> simp), Nat.add_zero]) (by
    unfold b_X12_isWithoutCycle_4
    simp (disch := omega) only [L0, L1, L2, L3, L4, L5, L6, L7, L8, L9, L10, L11, L12, L13, L14, L15, L16, L17, L18, L19, L20, L21, L22, L23, L24, L25, L26, L27, L28, L29, L30, L31, L32, L47, L48, L50, L51, L57, L59, L90, L97, L100, L120, L122, L127, L179, L187, L199, L200, L487, L974, L1000, L1461, L10000, L18498, L1000000, nI_add, pk_mul, nI_cl, nI_lts, nI_les, nI_eqs, Ln1, n1_ne, n1_ne', n1_lts, nI_ltn, n1_les, nI_len, bd_s, lt_d, gd_n, w0, if_true, Nat.le_refl]) (N := 2048) (by omega)
  simp only [cnt] at h
  have hc := cnt_le (ca (M.1 129)) T
  have hp := cnt_le (pt (gS (M.1 129) T)) B
  have w4 := hW.2.2.2.2.1
  obtain ⟨i1, i2⟩ := fr_cnt (e := ca (M.1 129)) (x := lx (M.1 129)) (y := ly (M.1 129)) (B := B) T hW.endB
  simp (disch := omega) only [L0, L1, L2, L3, L4, L5, L6, L7, L8, L9, L10, L11, L12, L13, L14, L15, L16, L17, L18, L19, L20, L21, L22, L23, L24, L25, L26, L27, L28, L29, L30, L31, L32, L47, L48, L50, L51, L57, L59, L90, L97, L100, L120, L122, L127, L179, L187, L199, L200, L487, L974, L1000, L1461, L10000, L18498, L1000000, nI_add, pk_mul, nI_cl, nI_lts, nI_les, nI_eqs, Ln1, n1_ne, n1_ne', n1_lts, nI_ltn, n1_les, nI_len, h, bd_s, x_carrying hW, w0]
  by_cases hf : fS (M.1 129) T = true
  · rw [ifp (show cnt (ca (M.1 129)) T + cnt (pt (gS (M.1 129) T)) B = B from i1 hf), hf]; rfl
  · have hf : fS (M.1 129) T = false := by revert hf; cases fS (M.1 129) T <;> simp
    rw [ifn (fun g => by have := i2 hf; unfold gS at g; omega), hf]; rfl
theorem y_pairs {f : Nat → Int32} (hW : WT B T S) (hf : ∀ b, b < 8 → f b = nI (gS S T b)) : f_X5_countPairs (nI B) (sR m 127 f) = some (nI (smn (fun h => cnt (fun l => JS S T l h) h) B), sR m 127 f) := by
  have hB8 := hW.2.2.1
  unfold f_X5_countPairs
  have h := lo_gen (b := b_X5_countPairs_4 (nI B)) (fun k => (nI (smn (fun h => cnt (fun l => JS S T l h) h) k), nI k, sR m 127 f)) B (nI (smn (fun h => cnt (fun l => JS S T l h) h) B), nI B, sR m 127 f) (fun k hk => by
    have hin := lo_gen (b := b_X5_countPairs_12 (nI B) (nI k)) (fun j => (nI (smn (fun h => cnt (fun l => JS S T l h) h) k + cnt (fun l => JS S T l k) j), nI j, sR m 127 f)) k (nI (smn (fun h => cnt (fun l => JS S T l h) h) (k + 1)), nI k, sR m 127 f) (fun j hj => by
      have e1 := hf j (by omega)
      have e2 := hf k (by omega)
      have l1 := gS_lt hW (show j < 8 by omega)
      have l2 := gS_lt hW (show k < 8 by omega)
      unfold b_X5_countPairs_12 f_X5_areJoined
      have : ¬ k ≤ j := by omega
      simp (disch := omega) only [L0, L1, L2, L3, L4, L5, L6, L7, L8, L9, L10, L11, L12, L13, L14, L15, L16, L17, L18, L19, L20, L21, L22, L23, L24, L25, L26, L27, L28, L29, L30, L31, L32, L47, L48, L50, L51, L57, L59, L90, L97, L100, L120, L122, L127, L179, L187, L199, L200, L487, L974, L1000, L1461, L10000, L18498, L1000000, nI_add, pk_mul, nI_cl, nI_lts, nI_les, nI_eqs, Ln1, n1_ne, n1_ne', n1_lts, nI_ltn, n1_les, nI_len, bd_s, lt_d, gd_n, sR_get, if_neg this, e1, e2]
      by_cases hJ : gS S T j = gS S T k
      · rw [ifp hJ, bd_s, ifn (show ¬ nI 1 = nI 0 by decide), cnt_t (p := fun l => JS S T l k) (decide_eq_true hJ)]
        rfl
      · rw [ifn hJ, bd_s, ifp (show nI 0 = nI 0 from rfl), cnt_f (p := fun l => JS S T l k) (decide_eq_false hJ)]) (by
      unfold b_X5_countPairs_12
      simp (disch := omega) only [L0, L1, L2, L3, L4, L5, L6, L7, L8, L9, L10, L11, L12, L13, L14, L15, L16, L17, L18, L19, L20, L21, L22, L23, L24, L25, L26, L27, L28, L29, L30, L31, L32, L47, L48, L50, L51, L57, L59, L90, L97, L100, L120, L122, L127, L179, L187, L199, L200, L487, L974, L1000, L1461, L10000, L18498, L1000000, nI_add, pk_mul, nI_cl, nI_lts, nI_les, nI_eqs, Ln1, n1_ne, n1_ne', n1_lts, nI_ltn, n1_les, nI_len, bd_s, lt_d, gd_n, if_true, Nat.le_refl, smn]) (N := 2048) (by omega)
    simp only [cnt, Nat.add_zero] at hin
    unfold b_X5_countPairs_4
    have : ¬ B ≤ k := by omega
    simp (disch := omega) only [L0, L1, L2, L3, L4, L5, L6, L7, L8, L9, L10, L11, L12, L13, L14, L15, L16, L17, L18, L19, L20, L21, L22, L23, L24, L25, L26, L27, L28, L29, L30, L31, L32, L47, L48, L50, L51, L57, L59, L90, L97, L100, L120, L122, L127, L179, L187, L199, L200, L487, L974, L1000, L1461, L10000, L18498, L1000000, nI_add, pk_mul, nI_cl, nI_lts, nI_les, nI_eqs, Ln1, n1_ne, n1_ne', n1_lts, nI_ltn, n1_les, nI_len, bd_s, lt_d, gd_n, if_neg this, hin]) (by
    unfold b_X5_countPairs_4
    simp (disch := omega) only [L0, L1, L2, L3, L4, L5, L6, L7, L8, L9, L10, L11, L12, L13, L14, L15, L16, L17, L18, L19, L20, L21, L22, L23, L24, L25, L26, L27, L28, L29, L30, L31, L32, L47, L48, L50, L51, L57, L59, L90, L97, L100, L120, L122, L127, L179, L187, L199, L200, L487, L974, L1000, L1461, L10000, L18498, L1000000, nI_add, pk_mul, nI_cl, nI_lts, nI_les, nI_eqs, Ln1, n1_ne, n1_ne', n1_lts, nI_ltn, n1_les, nI_len, bd_s, lt_d, gd_n, if_true, Nat.le_refl]) (N := 2048) (by omega)
  simp only [smn] at h
  simp only [L0, L1, L2, L3, L4, L5, L6, L7, L8, L9, L10, L11, L12, L13, L14, L15, L16, L17, L18, L19, L20, L21, L22, L23, L24, L25, L26, L27, L28, L29, L30, L31, L32, L47, L48, L50, L51, L57, L59, L90, L97, L100, L120, L122, L127, L179, L187, L199, L200, L487, L974, L1000, L1461, L10000, L18498, L1000000, h, bd_s]
theorem x_pairs (hW : WT B T (M.1 129)) : f_X12_pairs M = some (nI (smn (fun h => cnt (fun l => JS (M.1 129) T l h) h) B), M) := by
  have hB8 := hW.2.2.1
  have w0 := hW.1
  rw [← cr_sum B]
  unfold f_X12_pairs
  have h := lo_gen (b := b_X12_pairs_4) (fun k => (nI (smn (fun b => cr (JS (M.1 129) T) b B) k), nI k, M)) B (nI (smn (fun b => cr (JS (M.1 129) T) b B) B), nI B, M) (fun k hk => by
    obtain ⟨s, s1, s2, s3⟩ := x_reached (M := M) hW (show k < 8 by omega)
    have hin := lo_gen (b := b_X12_pairs_25 (nI k) (nI s)) (fun j => (nI (smn (fun b => cr (JS (M.1 129) T) b B) k + cr (JS (M.1 129) T) k (k + 1 + j)), nI (k + 1 + j), M)) (B - (k + 1)) (nI (smn (fun b => cr (JS (M.1 129) T) b B) (k + 1)), nI B, M) (fun j hj => by
      unfold b_X12_pairs_25
      have : ¬ B ≤ k + 1 + j := by omega
      simp (disch := omega) only [L0, L1, L2, L3, L4, L5, L6, L7, L8, L9, L10, L11, L12, L13, L14, L15, L16, L17, L18, L19, L20, L21, L22, L23, L24, L25, L26, L27, L28, L29, L30, L31, L32, L47, L48, L50, L51, L57, L59, L90, L97, L100, L120, L122, L127, L179, L187, L199, L200, L487, L974, L1000, L1461, L10000, L18498, L1000000, nI_add, pk_mul, nI_cl, nI_lts, nI_les, nI_eqs, Ln1, n1_ne, n1_ne', n1_lts, nI_ltn, n1_les, nI_len, bd_s, lt_d, gd_n, w0, if_neg this, b_sh s s1 (k + 1 + j) (by omega), s3]
      refine congrArg some (congrArg Sum.inl ?_)
      have e : cr (JS (M.1 129) T) k (k + 1 + (j + 1)) = cr (JS (M.1 129) T) k (k + 1 + j) + (if JS (M.1 129) T k (k + 1 + j) = true then 1 else 0) := by
        unfold cr
        show cnt _ (k + 1 + j + 1) = _
        rw [cnt, decide_eq_true (show k < k + 1 + j by omega)]
        rfl
      rw [e]
      by_cases hJ : JS (M.1 129) T k (k + 1 + j) = true
      · rw [hJ, if_pos rfl, bI_t, nI_add]; rfl
      · rw [if_neg hJ, show JS (M.1 129) T k (k + 1 + j) = false by revert hJ; cases JS (M.1 129) T k (k + 1 + j) <;> simp, bI_f, nI_add]; rfl) (by
      have : B ≤ k + 1 + (B - (k + 1)) := by omega
      unfold b_X12_pairs_25
      simp (disch := omega) only [L0, L1, L2, L3, L4, L5, L6, L7, L8, L9, L10, L11, L12, L13, L14, L15, L16, L17, L18, L19, L20, L21, L22, L23, L24, L25, L26, L27, L28, L29, L30, L31, L32, L47, L48, L50, L51, L57, L59, L90, L97, L100, L120, L122, L127, L179, L187, L199, L200, L487, L974, L1000, L1461, L10000, L18498, L1000000, nI_add, pk_mul, nI_cl, nI_lts, nI_les, nI_eqs, Ln1, n1_ne, n1_ne', n1_lts, nI_ltn, n1_les, nI_len, bd_s, lt_d, gd_n, w0, if_pos this, smn]
      rw [show k + 1 + (B - (k + 1)) = B by omega]) (N := 2048) (by omega)
    simp only [Nat.add_zero, cr_0 (k + 1) (Nat.le_refl _)] at hin
    unfold b_X12_pairs_4
    have : ¬ B ≤ k := by omega
    simp (disch := omega) only [L0, L1, L2, L3, L4, L5, L6, L7, L8, L9, L10, L11, L12, L13, L14, L15, L16, L17, L18, L19, L20, L21, L22, L23, L24, L25, L26, L27, L28, L29, L30, L31, L32, L47, L48, L50, L51, L57, L59, L90, L97, L100, L120, L122, L127, L179, L187, L199, L200, L487, L974, L1000, L1461, L10000, L18498, L1000000, nI_add, pk_mul, nI_cl, nI_lts, nI_les, nI_eqs, Ln1, n1_ne, n1_ne', n1_lts, nI_ltn, n1_les, nI_len, bd_s, lt_d, gd_n, w0, if_neg this, s2, hin]) (by
    unfold b_X12_pairs_4
    simp (disch := omega) only [L0, L1, L2, L3, L4, L5, L6, L7, L8, L9, L10, L11, L12, L13, L14, L15, L16, L17, L18, L19, L20, L21, L22, L23, L24, L25, L26, L27, L28, L29, L30, L31, L32, L47, L48, L50, L51, L57, L59, L90, L97, L100, L120, L122, L127, L179, L187, L199, L200, L487, L974, L1000, L1461, L10000, L18498, L1000000, nI_add, pk_mul, nI_cl, nI_lts, nI_les, nI_eqs, Ln1, n1_ne, n1_ne', n1_lts, nI_ltn, n1_les, nI_len, bd_s, lt_d, gd_n, w0, if_true, Nat.le_refl]) (N := 2048) (by omega)
  simp only [smn] at h
  simp only [L0, L1, L2, L3, L4, L5, L6, L7, L8, L9, L10, L11, L12, L13, L14, L15, L16, L17, L18, L19, L20, L21, L22, L23, L24, L25, L26, L27, L28, L29, L30, L31, L32, L47, L48, L50, L51, L57, L59, L90, L97, L100, L120, L122, L127, L179, L187, L199, L200, L487, L974, L1000, L1461, L10000, L18498, L1000000, h, bd_s]
theorem x_counted {w : Nat} (hW : WT B T (M.1 129)) (hw : w ≤ 6) : f_X12_counted (nI w) M = some (cv (M.1 129) B T w, M) := by
  unfold f_X12_counted cv
  by_cases h5 : w < 5
  · have : ¬ 5 ≤ w := by omega
    simp (disch := omega) only [L0, L1, L2, L3, L4, L5, L6, L7, L8, L9, L10, L11, L12, L13, L14, L15, L16, L17, L18, L19, L20, L21, L22, L23, L24, L25, L26, L27, L28, L29, L30, L31, L32, L47, L48, L50, L51, L57, L59, L90, L97, L100, L120, L122, L127, L179, L187, L199, L200, L487, L974, L1000, L1461, L10000, L18498, L1000000, nI_add, pk_mul, nI_cl, nI_lts, nI_les, nI_eqs, Ln1, n1_ne, n1_ne', n1_lts, nI_ltn, n1_les, nI_len, bd_s, lt_d, gd_n, if_neg this, if_pos h5]
  · have : 5 ≤ w := by omega
    simp (disch := omega) only [L0, L1, L2, L3, L4, L5, L6, L7, L8, L9, L10, L11, L12, L13, L14, L15, L16, L17, L18, L19, L20, L21, L22, L23, L24, L25, L26, L27, L28, L29, L30, L31, L32, L47, L48, L50, L51, L57, L59, L90, L97, L100, L120, L122, L127, L179, L187, L199, L200, L487, L974, L1000, L1461, L10000, L18498, L1000000, nI_add, pk_mul, nI_cl, nI_lts, nI_les, nI_eqs, Ln1, n1_ne, n1_ne', n1_lts, nI_ltn, n1_les, nI_len, bd_s, lt_d, gd_n, if_pos this, if_neg h5, x_carrying hW, x_pairs hW]
    by_cases h6 : w = 5
    · rw [ifp h6, ifp h6]
    · rw [ifn h6, ifn h6]
theorem y_count {w : Nat} (hW : WT B T S) (hR : RN m 1 S) (hw : w ≤ 6) : ∃ f, f_X11_count (nI w) m = some (.inl (cv S B T w), sR m 127 f) := by
  unfold f_X11_count cv
  have : w = 0 ∨ w = 1 ∨ w = 2 ∨ w = 3 ∨ w = 4 ∨ w = 5 ∨ w = 6 := by omega
  rcases this with rfl | rfl | rfl | rfl | rfl | rfl | rfl
  · exact ⟨m.1 127, by rw [sR_self]; simp (disch := omega) only [L0, L1, L2, L3, L4, L5, L6, L7, L8, L9, L10, L11, L12, L13, L14, L15, L16, L17, L18, L19, L20, L21, L22, L23, L24, L25, L26, L27, L28, L29, L30, L31, L32, L47, L48, L50, L51, L57, L59, L90, L97, L100, L120, L122, L127, L179, L187, L199, L200, L487, L974, L1000, L1461, L10000, L18498, L1000000, nI_add, pk_mul, nI_cl, nI_lts, nI_les, nI_eqs, Ln1, n1_ne, n1_ne', n1_lts, nI_ltn, n1_les, nI_len, bd_s, lt_d, gd_n, y_out_n, if_true, rd_auct hR, reduceIte, Nat.reduceLT, Nat.reduceAdd, Nat.add_zero]⟩
  · exact ⟨m.1 127, by rw [sR_self]; simp (disch := omega) only [L0, L1, L2, L3, L4, L5, L6, L7, L8, L9, L10, L11, L12, L13, L14, L15, L16, L17, L18, L19, L20, L21, L22, L23, L24, L25, L26, L27, L28, L29, L30, L31, L32, L47, L48, L50, L51, L57, L59, L90, L97, L100, L120, L122, L127, L179, L187, L199, L200, L487, L974, L1000, L1461, L10000, L18498, L1000000, nI_add, pk_mul, nI_cl, nI_lts, nI_les, nI_eqs, Ln1, n1_ne, n1_ne', n1_lts, nI_ltn, n1_les, nI_len, bd_s, lt_d, gd_n, y_out_n, if_true, rd_chng hR, reduceIte, Nat.reduceLT, Nat.reduceAdd, Nat.reduceEqDiff, Nat.one_ne_zero]⟩
  · exact ⟨m.1 127, by rw [sR_self]; simp (disch := omega) only [L0, L1, L2, L3, L4, L5, L6, L7, L8, L9, L10, L11, L12, L13, L14, L15, L16, L17, L18, L19, L20, L21, L22, L23, L24, L25, L26, L27, L28, L29, L30, L31, L32, L47, L48, L50, L51, L57, L59, L90, L97, L100, L120, L122, L127, L179, L187, L199, L200, L487, L974, L1000, L1461, L10000, L18498, L1000000, nI_add, pk_mul, nI_cl, nI_lts, nI_les, nI_eqs, Ln1, n1_ne, n1_ne', n1_lts, nI_ltn, n1_les, nI_len, bd_s, lt_d, gd_n, y_out_n, if_true, rd_sent hR, reduceIte, Nat.reduceLT, Nat.reduceAdd, Nat.reduceEqDiff, Nat.succ_ne_zero, Nat.succ_ne_self]⟩
  · exact ⟨m.1 127, by rw [sR_self]; simp (disch := omega) only [L0, L1, L2, L3, L4, L5, L6, L7, L8, L9, L10, L11, L12, L13, L14, L15, L16, L17, L18, L19, L20, L21, L22, L23, L24, L25, L26, L27, L28, L29, L30, L31, L32, L47, L48, L50, L51, L57, L59, L90, L97, L100, L120, L122, L127, L179, L187, L199, L200, L487, L974, L1000, L1461, L10000, L18498, L1000000, nI_add, pk_mul, nI_cl, nI_lts, nI_les, nI_eqs, Ln1, n1_ne, n1_ne', n1_lts, nI_ltn, n1_les, nI_len, bd_s, lt_d, gd_n, y_out_n, if_true, rd_dlvd hR, reduceIte, Nat.reduceLT, Nat.reduceAdd, Nat.reduceEqDiff, Nat.succ_ne_zero, Nat.succ_ne_self]⟩
  · exact ⟨m.1 127, by rw [sR_self]; simp (disch := omega) only [L0, L1, L2, L3, L4, L5, L6, L7, L8, L9, L10, L11, L12, L13, L14, L15, L16, L17, L18, L19, L20, L21, L22, L23, L24, L25, L26, L27, L28, L29, L30, L31, L32, L47, L48, L50, L51, L57, L59, L90, L97, L100, L120, L122, L127, L179, L187, L199, L200, L487, L974, L1000, L1461, L10000, L18498, L1000000, nI_add, pk_mul, nI_cl, nI_lts, nI_les, nI_eqs, Ln1, n1_ne, n1_ne', n1_lts, nI_ltn, n1_les, nI_len, bd_s, lt_d, gd_n, y_out_n, if_true, rd_used hR, reduceIte, Nat.reduceLT, Nat.reduceAdd, Nat.reduceEqDiff, Nat.succ_ne_zero, Nat.succ_ne_self]⟩
  · exact ⟨m.1 127, by rw [sR_self]; simp (disch := omega) only [L0, L1, L2, L3, L4, L5, L6, L7, L8, L9, L10, L11, L12, L13, L14, L15, L16, L17, L18, L19, L20, L21, L22, L23, L24, L25, L26, L27, L28, L29, L30, L31, L32, L47, L48, L50, L51, L57, L59, L90, L97, L100, L120, L122, L127, L179, L187, L199, L200, L487, L974, L1000, L1461, L10000, L18498, L1000000, nI_add, pk_mul, nI_cl, nI_lts, nI_les, nI_eqs, Ln1, n1_ne, n1_ne', n1_lts, nI_ltn, n1_les, nI_len, bd_s, lt_d, gd_n, y_out_n, if_true, y_carrying hW hR, reduceIte, Nat.reduceLT, Nat.reduceAdd, Nat.reduceEqDiff, Nat.succ_ne_zero, Nat.succ_ne_self]⟩
  · obtain ⟨f, h1, h2⟩ := y_findGroups hW hR
    refine ⟨f, ?_⟩
    have e0 : (sR m 127 f).1 1 0 = nI B := by rw [sR_ne (by decide)]; exact (rd_size hR).trans hW.1
    simp (disch := omega) only [L0, L1, L2, L3, L4, L5, L6, L7, L8, L9, L10, L11, L12, L13, L14, L15, L16, L17, L18, L19, L20, L21, L22, L23, L24, L25, L26, L27, L28, L29, L30, L31, L32, L47, L48, L50, L51, L57, L59, L90, L97, L100, L120, L122, L127, L179, L187, L199, L200, L487, L974, L1000, L1461, L10000, L18498, L1000000, nI_add, pk_mul, nI_cl, nI_lts, nI_les, nI_eqs, Ln1, n1_ne, n1_ne', n1_lts, nI_ltn, n1_les, nI_len, bd_s, lt_d, gd_n, y_out_n, if_true, h1, e0, y_pairs hW h2, reduceIte, Nat.reduceLT, Nat.reduceAdd, Nat.reduceEqDiff, Nat.succ_ne_zero, Nat.succ_ne_self]
theorem Inv.s127 (h : Inv m) {f : Nat → Int32} : Inv (sR m 127 f) := by
  refine h.cg (fun q hq => ?_) ?_ ?_ ?_ ?_ ?_ ?_ rfl
  all_goals rw [sR_ne (by omega)]
theorem op_isForest (h : Inv m) : OPn f_X11_isForest f_X12_isForest m := by
  obtain ⟨⟨B, T, hW⟩, hR, -⟩ := id h
  obtain ⟨f, h1, h2⟩ := y_findGroups hW hR
  refine ⟨bI (fS (m.1 129) T), sR m 127 f, _, ?_, ?_, (h.s127 (f := f)).thr (v := nI 0)⟩
  · unfold f_X11_isForest
    simp only [h1, bd_s, isB_bI, gd_tt]
  · unfold f_X12_isForest
    have := x_forest (M := wI (sR m 127 f) 128 6 (nI 0)) (B := B) (T := T) (by rw [wI_sR, sR_ne (by decide), sR_ne (by decide)]; exact hW)
    rw [show (wI (sR m 127 f) 128 6 (nI 0)).1 129 = m.1 129 by rw [wI_sR, sR_ne (by decide), sR_ne (by decide)]] at this
    simp only [L0, L1, L2, L3, L4, L5, L6, L7, L8, L9, L10, L11, L12, L13, L14, L15, L16, L17, L18, L19, L20, L21, L22, L23, L24, L25, L26, L27, L28, L29, L30, L31, L32, L47, L48, L50, L51, L57, L59, L90, L97, L100, L120, L122, L127, L179, L187, L199, L200, L487, L974, L1000, L1461, L10000, L18498, L1000000, lt_d, this, bd_s, isB_bI, gd_tt]
    rfl
theorem op_count (h : Inv m) (v : Int32) : OPv (f_X11_count v) (f_X12_count v) cdA m := by
  obtain ⟨⟨B, T, hW⟩, hR, -⟩ := id h
  rcases rng v 0 6 (by decide) (by decide) with ⟨w, -, hw, rfl⟩ | hv
  · obtain ⟨f, h1⟩ := y_count hW hR hw
    refine Or.inl ⟨_, _, _, h1, ?_, ?_, ?_, (h.s127 (f := f)).tell (v := nI 0) (x := (cv (m.1 129) B T w).toInt64)⟩
    · unfold f_X12_count
      have := x_counted (M := wJ (sR m 127 f) 137 0 (cv (m.1 129) B T w).toInt64) (B := B) (T := T) (w := w) (by rw [wJ_1, sR_ne (by decide)]; exact hW) hw
      rw [show (wJ (sR m 127 f) 137 0 (cv (m.1 129) B T w).toInt64).1 129 = m.1 129 by rw [wJ_1, sR_ne (by decide)]] at this
      simp (disch := omega) only [L0, L1, L2, L3, L4, L5, L6, L7, L8, L9, L10, L11, L12, L13, L14, L15, L16, L17, L18, L19, L20, L21, L22, L23, L24, L25, L26, L27, L28, L29, L30, L31, L32, L47, L48, L50, L51, L57, L59, L90, L97, L100, L120, L122, L127, L179, L187, L199, L200, L487, L974, L1000, L1461, L10000, L18498, L1000000, bd_s, lt_d, gd_n, x_inn, i10, if_false, this, x_tells]
      rfl
    · rw [sR_get, upd_e]
    · exact wJ_get
  · refine op_th h (e := 1) (c := nI 1) (b := nI 0) ?_ rfl (by decide) ?_
    · unfold f_X11_count
      simp (disch := omega) only [L0, L1, L2, L3, L4, L5, L6, L7, L8, L9, L10, L11, L12, L13, L14, L15, L16, L17, L18, L19, L20, L21, L22, L23, L24, L25, L26, L27, L28, L29, L30, L31, L32, L47, L48, L50, L51, L57, L59, L90, L97, L100, L120, L122, L127, L179, L187, L199, L200, L487, L974, L1000, L1461, L10000, L18498, L1000000, bd_s, lt_d, gd_n, y_out_y hv, i10, if_false]
    · unfold f_X12_count
      simp (disch := omega) only [L0, L1, L2, L3, L4, L5, L6, L7, L8, L9, L10, L11, L12, L13, L14, L15, L16, L17, L18, L19, L20, L21, L22, L23, L24, L25, L26, L27, L28, L29, L30, L31, L32, L47, L48, L50, L51, L57, L59, L90, L97, L100, L120, L122, L127, L179, L187, L199, L200, L487, L974, L1000, L1461, L10000, L18498, L1000000, bd_s, lt_d, gd_n, x_in_n hv, if_true, x_fails]
end PH
