/-! Ports: the model's side; tables are emptied. -/
def anF (p : Nat → Bool) (J : Nat → Nat → Bool) : Nat → Nat → Bool
  | 0, _ => false
  | n + 1, o => anF p J n o || (p n && J n o)
def sFs (A : Nat → Bool) (n : Nat) (S : Nat → Int32) : Nat → Int32 := it (fun b S => if A b = true then sFl b S else S) n S
section PPM
variable {m m0 M : me} {S S' : Nat → Int32} {B T : Nat}
theorem pB_of {l e : Nat} (hW : WT B T S) (hl : l < T) (he : e < 2) : S (199 + 18 * l + e) = nI (pB S l e) := by
  obtain ⟨g1, g2, -, -⟩ := hW.ends hl
  have : e = 0 ∨ e = 1 := by omega
  unfold pB
  rcases this with rfl | rfl
  · rw [if_pos rfl]; exact g1
  · rw [if_neg (by decide)]; exact g2
theorem x_g170 {a d d' : Nat} (ha : a + 1 < 487) (hd : d ≤ 3) (hd' : d' ≤ 3) (h : S' (a + 1) = nI d') : j_X12_goesOn_170 (nI a) (nI d) (sR M 129 S') = some (bI (decide (nI d = nI 3) != decide (nI d' = nI 3)), sR M 129 S') := by
  unfold j_X12_goesOn_170 j_X12_goesOn_181 j_X12_goesOn_198
  have e1 : (nI d = nI 3) = (d = 3) := nI_eqs (by omega) (by omega)
  have e2 : (nI d' = nI 3) = (d' = 3) := nI_eqs (by omega) (by omega)
  simp (disch := omega) only [L0, L1, L2, L3, L4, L5, L6, L7, L8, L9, L10, L11, L12, L13, L14, L15, L16, L17, L18, L19, L20, L21, L22, L23, L24, L25, L26, L27, L28, L29, L30, L31, L32, L47, L48, L50, L51, L57, L59, L90, L97, L100, L120, L122, L127, L179, L187, L199, L200, L487, L974, L1000, L1461, L10000, L18498, L1000000, nI_add, pk_mul, nI_cl, nI_lts, nI_les, nI_eqs, Ln1, n1_ne, n1_ne', n1_lts, nI_ltn, n1_les, nI_len, bd_s, lt_d, gd_n, sR_get, h]
  by_cases h1 : d = 3
  · by_cases h2 : d' = 3
    · rw [ifp h1, ifp h2, decide_eq_true h1, decide_eq_true h2]; rfl
    · rw [ifp h1, ifn h2, decide_eq_true h1, decide_eq_false h2]; rfl
  · by_cases h2 : d' = 3
    · rw [ifn h1, ifp h2, decide_eq_false h1, decide_eq_true h2]; rfl
    · rw [ifn h1, ifn h2, decide_eq_false h1, decide_eq_false h2]; rfl
theorem x_goesOn {l e : Nat} (hW : WT B T (M.1 129)) (hl : l < T) (he : e < 2) : f_X12_goesOn (nI l) (nI e) M = some (bI (chP (M.1 129) l e), sR M 129 (sPt l e (M.1 129))) := by
  have w4 := hW.2.2.2.2.1
  have hl16 : l < 16 := by omega
  obtain ⟨d, hd, hd3⟩ := hW.pstate hl he
  have hp := pB_of hW hl he
  have hrole := x_role hW hl he
  unfold chP sPt nsP ntP nSt nTm
  rw [hd]
  generalize rr (M.1 129) l e = r at *
  generalize htm : M.1 129 (199 + 18 * l + 8 + 3 * e + 2) = tm at *
  unfold f_X12_goesOn j_X12_goesOn_169
  by_cases h2 : r = nI 2
  · rw [if_pos h2, if_pos h2]
    have h170 := x_g170 (M := M) (S' := upd (upd (upd (M.1 129) (199 + 18 * l + 8 + 3 * e) r) (199 + 18 * l + 8 + 3 * e + 1) (nI 0)) (199 + 18 * l + 8 + 3 * e + 2) (nI 0)) (a := 199 + 18 * l + 8 + 3 * e) (d := d) (d' := 0) (by omega) hd3 (by omega) (by rw [upd_n (by omega), upd_e])
    subst h2
    simp (maxSteps := 3000000) (disch := omega) only [L0, L1, L2, L3, L4, L5, L6, L7, L8, L9, L10, L11, L12, L13, L14, L15, L16, L17, L18, L19, L20, L21, L22, L23, L24, L25, L26, L27, L28, L29, L30, L31, L32, L47, L48, L50, L51, L57, L59, L90, L97, L100, L120, L122, L127, L179, L187, L199, L200, L487, L974, L1000, L1461, L10000, L18498, L1000000, nI_add, pk_mul, nI_cl, nI_lts, nI_les, nI_eqs, Ln1, n1_ne, n1_ne', n1_lts, nI_ltn, n1_les, nI_len, bd_s, lt_d, gd_n, wI_sR, sR_get, sR_sR, sR_ne, x_of, hp, hrole, hd, upd_e, if_true, h170]
  · rw [if_neg h2, if_neg h2]
    have : d = 0 ∨ d = 3 ∨ d = 1 ∨ d = 2 := by omega
    rcases this with rfl | rfl | hd12
    · rw [if_pos rfl, if_pos rfl]
      have h170 := x_g170 (M := M) (S' := upd (upd (upd (M.1 129) (199 + 18 * l + 8 + 3 * e) r) (199 + 18 * l + 8 + 3 * e + 1) (nI 1)) (199 + 18 * l + 8 + 3 * e + 2) (M.1 129 2)) (a := 199 + 18 * l + 8 + 3 * e) (d := 0) (d' := 1) (by omega) hd3 (by omega) (by rw [upd_n (by omega), upd_e])
      simp (maxSteps := 3000000) (disch := omega) only [L0, L1, L2, L3, L4, L5, L6, L7, L8, L9, L10, L11, L12, L13, L14, L15, L16, L17, L18, L19, L20, L21, L22, L23, L24, L25, L26, L27, L28, L29, L30, L31, L32, L47, L48, L50, L51, L57, L59, L90, L97, L100, L120, L122, L127, L179, L187, L199, L200, L487, L974, L1000, L1461, L10000, L18498, L1000000, nI_add, pk_mul, nI_cl, nI_lts, nI_les, nI_eqs, Ln1, n1_ne, n1_ne', n1_lts, nI_ltn, n1_les, nI_len, bd_s, lt_d, gd_n, wI_sR, sR_get, sR_sR, sR_ne, x_of, hp, hrole, hd, upd_e, upd_n, h2, if_true, if_false, h170]
    · rw [if_neg (by decide), if_pos rfl, if_neg (by decide), if_pos rfl]
      have e1 : upd (upd (upd (M.1 129) (199 + 18 * l + 8 + 3 * e) r) (199 + 18 * l + 8 + 3 * e + 1) (nI 3)) (199 + 18 * l + 8 + 3 * e + 2) tm = upd (M.1 129) (199 + 18 * l + 8 + 3 * e) r := by
        rw [upd_self (f := upd (M.1 129) (199 + 18 * l + 8 + 3 * e) r) (k := 199 + 18 * l + 8 + 3 * e + 1) (by rw [upd_n (by omega)]; exact hd), upd_self (k := 199 + 18 * l + 8 + 3 * e + 2) (by rw [upd_n (by omega)]; exact htm)]
      rw [e1]
      have h170 := x_g170 (M := M) (S' := upd (M.1 129) (199 + 18 * l + 8 + 3 * e) r) (a := 199 + 18 * l + 8 + 3 * e) (d := 3) (d' := 3) (by omega) hd3 (by omega) (by rw [upd_n (by omega)]; exact hd)
      simp (maxSteps := 3000000) (disch := omega) only [L0, L1, L2, L3, L4, L5, L6, L7, L8, L9, L10, L11, L12, L13, L14, L15, L16, L17, L18, L19, L20, L21, L22, L23, L24, L25, L26, L27, L28, L29, L30, L31, L32, L47, L48, L50, L51, L57, L59, L90, L97, L100, L120, L122, L127, L179, L187, L199, L200, L487, L974, L1000, L1461, L10000, L18498, L1000000, nI_add, pk_mul, nI_cl, nI_lts, nI_les, nI_eqs, Ln1, n1_ne, n1_ne', n1_lts, nI_ltn, n1_les, nI_len, bd_s, lt_d, gd_n, wI_sR, sR_get, sR_sR, sR_ne, x_of, hp, hrole, hd, upd_e, h2, if_true, if_false, h170, Nat.reduceEqDiff, Nat.succ_ne_zero]
    · have hd0 : ¬ nI d = nI 0 := by rw [nI_eqs (by omega) (by omega)]; omega
      have hd3' : ¬ nI d = nI 3 := by rw [nI_eqs (by omega) (by omega)]; omega
      have nd0 : ¬ d = 0 := by omega
      have nd3 : ¬ d = 3 := by omega
      rw [if_neg hd0, if_neg hd3', if_neg hd0, if_neg hd3']
      by_cases hz : tm - nI 1 = nI 0
      · rw [if_pos hz, if_pos hz, nI_add]
        have ex : ∀ z : Int32, upd (upd (upd (upd (M.1 129) (199 + 18 * l + 8 + 3 * e) r) (199 + 18 * l + 8 + 3 * e + 2) (nI 0)) (199 + 18 * l + 8 + 3 * e + 1) (nI (d + 1))) (199 + 18 * l + 8 + 3 * e + 2) z = upd (upd (upd (M.1 129) (199 + 18 * l + 8 + 3 * e) r) (199 + 18 * l + 8 + 3 * e + 1) (nI (d + 1))) (199 + 18 * l + 8 + 3 * e + 2) z := fun z => by
          rw [upd_cm (f := upd (M.1 129) (199 + 18 * l + 8 + 3 * e) r) (a := 199 + 18 * l + 8 + 3 * e + 2) (b := 199 + 18 * l + 8 + 3 * e + 1) (by omega), upd_upd]
        have h170 := fun z => x_g170 (M := M) (S' := upd (upd (upd (M.1 129) (199 + 18 * l + 8 + 3 * e) r) (199 + 18 * l + 8 + 3 * e + 1) (nI (d + 1))) (199 + 18 * l + 8 + 3 * e + 2) z) (a := 199 + 18 * l + 8 + 3 * e) (d := d) (d' := d + 1) (by omega) hd3 (by omega) (by rw [upd_n (by omega), upd_e])
        by_cases h1 : d = 1
        · rw [if_pos (show nI d = nI 1 by rw [h1])]
          simp (maxSteps := 3000000) (disch := omega) only [L0, L1, L2, L3, L4, L5, L6, L7, L8, L9, L10, L11, L12, L13, L14, L15, L16, L17, L18, L19, L20, L21, L22, L23, L24, L25, L26, L27, L28, L29, L30, L31, L32, L47, L48, L50, L51, L57, L59, L90, L97, L100, L120, L122, L127, L179, L187, L199, L200, L487, L974, L1000, L1461, L10000, L18498, L1000000, nI_add, pk_mul, nI_cl, nI_lts, nI_les, nI_eqs, Ln1, n1_ne, n1_ne', n1_lts, nI_ltn, n1_les, nI_len, bd_s, lt_d, gd_n, wI_sR, sR_get, sR_sR, sR_ne, x_of, hp, hrole, hd, htm, upd_e, upd_n, h2, if_true, if_false, hz, if_neg nd0, if_neg nd3, if_pos h1, ex, h170]
        · rw [if_neg (show ¬ nI d = nI 1 by rw [nI_eqs (by omega) (by omega)]; exact h1)]
          simp (maxSteps := 3000000) (disch := omega) only [L0, L1, L2, L3, L4, L5, L6, L7, L8, L9, L10, L11, L12, L13, L14, L15, L16, L17, L18, L19, L20, L21, L22, L23, L24, L25, L26, L27, L28, L29, L30, L31, L32, L47, L48, L50, L51, L57, L59, L90, L97, L100, L120, L122, L127, L179, L187, L199, L200, L487, L974, L1000, L1461, L10000, L18498, L1000000, nI_add, pk_mul, nI_cl, nI_lts, nI_les, nI_eqs, Ln1, n1_ne, n1_ne', n1_lts, nI_ltn, n1_les, nI_len, bd_s, lt_d, gd_n, wI_sR, sR_get, sR_sR, sR_ne, x_of, hp, hrole, hd, htm, upd_e, upd_n, h2, if_true, if_false, hz, if_neg nd0, if_neg nd3, if_neg h1, ex, h170]
      · rw [if_neg hz, if_neg hz]
        have e1 : upd (upd (upd (M.1 129) (199 + 18 * l + 8 + 3 * e) r) (199 + 18 * l + 8 + 3 * e + 1) (nI d)) (199 + 18 * l + 8 + 3 * e + 2) (tm - nI 1) = upd (upd (M.1 129) (199 + 18 * l + 8 + 3 * e) r) (199 + 18 * l + 8 + 3 * e + 2) (tm - nI 1) := by
          rw [upd_self (k := 199 + 18 * l + 8 + 3 * e + 1) (by rw [upd_n (by omega)]; exact hd)]
        rw [e1]
        have h170 := x_g170 (M := M) (S' := upd (upd (M.1 129) (199 + 18 * l + 8 + 3 * e) r) (199 + 18 * l + 8 + 3 * e + 2) (tm - nI 1)) (a := 199 + 18 * l + 8 + 3 * e) (d := d) (d' := d) (by omega) hd3 hd3 (by rw [upd_n (by omega), upd_n (by omega)]; exact hd)
        simp (maxSteps := 3000000) (disch := omega) only [L0, L1, L2, L3, L4, L5, L6, L7, L8, L9, L10, L11, L12, L13, L14, L15, L16, L17, L18, L19, L20, L21, L22, L23, L24, L25, L26, L27, L28, L29, L30, L31, L32, L47, L48, L50, L51, L57, L59, L90, L97, L100, L120, L122, L127, L179, L187, L199, L200, L487, L974, L1000, L1461, L10000, L18498, L1000000, nI_add, pk_mul, nI_cl, nI_lts, nI_les, nI_eqs, Ln1, n1_ne, n1_ne', n1_lts, nI_ltn, n1_les, nI_len, bd_s, lt_d, gd_n, wI_sR, sR_get, sR_sR, sR_ne, x_of, hp, hrole, hd, htm, upd_e, upd_n, h2, if_true, if_false, hz, if_neg nd0, if_neg nd3, h170]
theorem x_ports4 (hW : WT B T (M.1 129)) : ∃ z, z < 256 ∧ (∀ b, z.testBit b = (pst (2 * T) (M.1 129)).2 b) ∧ lo b_X12_ports_4 2048 (nI 0, nI 0, M) = some (nI z, nI (2 * T), sR M 129 (pst (2 * T) (M.1 129)).1) := by
  have w4 := hW.2.2.2.2.1
  obtain ⟨t, ht, z, z1, z2, z3⟩ := lo_rel (b := b_X12_ports_4) (s0 := (nI 0, nI 0, M)) (N := 2048) (n := 2 * T)
    (P := fun k s => ∃ z, z < 256 ∧ (∀ b, z.testBit b = (pst k (M.1 129)).2 b) ∧ s = (nI z, nI k, sR M 129 (pst k (M.1 129)).1))
    (Q := fun t => ∃ z, z < 256 ∧ (∀ b, z.testBit b = (pst (2 * T) (M.1 129)).2 b) ∧ t = (nI z, nI (2 * T), sR M 129 (pst (2 * T) (M.1 129)).1))
    ⟨0, by decide, fun b => Nat.zero_testBit b, by rw [show (pst 0 (M.1 129)).1 = M.1 129 from rfl, sR_self]⟩ (fun k s hk hP => by
      obtain ⟨z, z1, z2, rfl⟩ := hP
      have hWk := hW.psts k (by omega)
      have hT : ¬ 2 * T ≤ k := by omega
      have hk2 : k / 2 < T := by omega
      have hke : k % 2 < 2 := by omega
      have hd : nI k / nI 2 = nI (k / 2) := nI_dvs (by omega) (by decide) (by decide)
      have hm : nI k - nI (k / 2) * nI 2 = nI (k % 2) := by
        rw [← hd]
        exact pk_rem (show k < 2 ^ 31 by omega) (by decide) (by decide)
      have hm' : nI k - nI (k / 2 * 2) = nI (k % 2) := by rw [← pk_mul]; exact hm
      have hg := x_goesOn (M := sR M 129 (pst k (M.1 129)).1) (l := k / 2) (e := k % 2) (B := B) (T := T) (by rw [sR_get]; exact hWk) hk2 hke
      rw [sR_get, sR_sR] at hg
      have hb := pB_8 (e := k % 2) hWk hk2
      have hof : sPt (k / 2) (k % 2) (pst k (M.1 129)).1 (199 + 18 * (k / 2) + k % 2) = nI (pB (pst k (M.1 129)).1 (k / 2) (k % 2)) := by rw [sPt_at (by omega)]; exact pB_of hWk hk2 hke
      unfold b_X12_ports_4
      rw [pst_s]
      unfold sPc pPc
      by_cases hch : chP (pst k (M.1 129)).1 (k / 2) (k % 2) = true
      · rw [hch, bI_t] at hg
        rw [if_pos hch, if_pos hch]
        refine ⟨(nI (z ||| 2 ^ pB (pst k (M.1 129)).1 (k / 2) (k % 2)), nI (k + 1), sR M 129 (upd (sPt (k / 2) (k % 2) (pst k (M.1 129)).1) 7 ((pst k (M.1 129)).1 7 + nI 1))), ?_, z ||| 2 ^ pB (pst k (M.1 129)).1 (k / 2) (k % 2), or_lt z1 (p2_lt _ hb.1), fun b => ?_, rfl⟩
        · have hof2 : upd (sPt (k / 2) (k % 2) (pst k (M.1 129)).1) 7 ((pst k (M.1 129)).1 7 + nI 1) (199 + 18 * (k / 2) + k % 2) = nI (pB (pst k (M.1 129)).1 (k / 2) (k % 2)) := by rw [upd_n (by omega)]; exact hof
          simp (disch := omega) only [L0, L1, L2, L3, L4, L5, L6, L7, L8, L9, L10, L11, L12, L13, L14, L15, L16, L17, L18, L19, L20, L21, L22, L23, L24, L25, L26, L27, L28, L29, L30, L31, L32, L47, L48, L50, L51, L57, L59, L90, L97, L100, L120, L122, L127, L179, L187, L199, L200, L487, L974, L1000, L1461, L10000, L18498, L1000000, nI_add, pk_mul, nI_cl, nI_lts, nI_les, nI_eqs, Ln1, n1_ne, n1_ne', n1_lts, nI_ltn, n1_les, nI_len, bd_s, lt_d, gd_n, wI_sR, sR_get, sR_sR, sR_ne, hWk.2.2.2.1, if_neg hT, hd, hm', hg, i10, if_false, sPt_7, x_of, hof2, b_1 _ hb.1, nI_or, Nat.one_ne_zero]
        · show _ = ((pst k (M.1 129)).2 b || decide (b = pB (pst k (M.1 129)).1 (k / 2) (k % 2)))
          rw [Nat.testBit_or, z2 b, Nat.testBit_two_pow, decide_eq_decide.mpr (eq_comm (a := pB (pst k (M.1 129)).1 (k / 2) (k % 2)) (b := b))]
      · have hch' : chP (pst k (M.1 129)).1 (k / 2) (k % 2) = false := by revert hch; cases chP (pst k (M.1 129)).1 (k / 2) (k % 2) <;> simp
        rw [hch', bI_f] at hg
        rw [if_neg hch, if_neg hch]
        refine ⟨_, ?_, z, z1, z2, rfl⟩
        simp (disch := omega) only [L0, L1, L2, L3, L4, L5, L6, L7, L8, L9, L10, L11, L12, L13, L14, L15, L16, L17, L18, L19, L20, L21, L22, L23, L24, L25, L26, L27, L28, L29, L30, L31, L32, L47, L48, L50, L51, L57, L59, L90, L97, L100, L120, L122, L127, L179, L187, L199, L200, L487, L974, L1000, L1461, L10000, L18498, L1000000, nI_add, pk_mul, nI_cl, nI_lts, nI_les, nI_eqs, Ln1, n1_ne, n1_ne', n1_lts, nI_ltn, n1_les, nI_len, bd_s, lt_d, gd_n, wI_sR, sR_get, sR_sR, sR_ne, hWk.2.2.2.1, if_neg hT, hd, hm', hg, if_true]) (fun s hP => by
      obtain ⟨z, z1, z2, rfl⟩ := hP
      refine ⟨_, ?_, z, z1, z2, rfl⟩
      have hWk := hW.psts (2 * T) (Nat.le_refl _)
      unfold b_X12_ports_4
      simp (disch := omega) only [L0, L1, L2, L3, L4, L5, L6, L7, L8, L9, L10, L11, L12, L13, L14, L15, L16, L17, L18, L19, L20, L21, L22, L23, L24, L25, L26, L27, L28, L29, L30, L31, L32, L47, L48, L50, L51, L57, L59, L90, L97, L100, L120, L122, L127, L179, L187, L199, L200, L487, L974, L1000, L1461, L10000, L18498, L1000000, nI_add, pk_mul, nI_cl, nI_lts, nI_les, nI_eqs, Ln1, n1_ne, n1_ne', n1_lts, nI_ltn, n1_les, nI_len, bd_s, lt_d, gd_n, sR_get, hWk.2.2.2.1, if_true, Nat.le_refl]) (by omega)
  exact ⟨z, z1, z2, by rw [ht, z3]⟩
theorem sFl_id {b : Nat} : sFl b (sFl b S) = sFl b S := by
  funext i
  rw [sFl_at]
  by_cases h : 51 + 16 * b ≤ i ∧ i < 51 + 16 * b + 16 ∧ (i - 51) % 2 = 0
  · rw [if_pos h, sFl_at, if_pos h]
  · rw [if_neg h]
theorem WT.flush {b : Nat} (hW : WT B T S) (hb : b < 8) : WT B T (sFl b S) := by
  have e : ∀ i, ¬ (51 + 16 * b ≤ i ∧ i < 51 + 16 * b + 16 ∧ (i - 51) % 2 = 0) → sFl b S i = S i := fun i h => by rw [sFl_at, if_neg h]
  obtain ⟨g1, g2, g3, g4, g5, g6, g7, g8, g9, g10, g11⟩ := hW
  refine ⟨by rw [e _ (by omega)]; exact g1, g2, g3, by rw [e _ (by omega)]; exact g4, g5, by rw [e _ (by omega)]; exact g6, by rw [e _ (by omega)]; exact g7, by rw [e _ (by omega)]; exact g8, fun h hh => by rw [e _ (by omega)]; exact g9 h hh, fun l hl => ?_, fun c h hc hh => ?_⟩
  · obtain ⟨x, y, g⟩ := g10 l hl
    refine ⟨x, y, ?_⟩
    rw [e _ (by omega), e _ (by omega), e _ (by omega), e _ (by omega), e _ (by omega), e _ (by omega), e _ (by omega), e _ (by omega), e _ (by omega), e _ (by omega)]
    obtain ⟨k1, k2, k3, k4, k5, k6, k7, k8, k9, k10, k11, k12, k13⟩ := g
    exact ⟨k1, k2, k3, k4, k5, k6, k7, k8, k9, k10, k11, k12, fun t ht => by rw [e _ (by omega)]; exact k13 t ht⟩
  · have g := g11 c h hc hh
    unfold VI at g ⊢
    by_cases hcb : c = b
    · subst hcb
      exact Or.inl (by rw [sFl_at, if_pos (by omega)])
    · rw [e _ (by omega)]
      rcases g with g | g | ⟨l, hl, k1, k2⟩
      · exact Or.inl g
      · exact Or.inr (Or.inl g)
      · exact Or.inr (Or.inr ⟨l, hl, k1, by rw [e _ (by omega), e _ (by omega)]; exact k2⟩)
theorem sFs_s (A : Nat → Bool) (n : Nat) : sFs A (n + 1) S = if A n = true then sFl n (sFs A n S) else sFs A n S := rfl
theorem WT.flushs {A : Nat → Bool} (hW : WT B T S) : ∀ n, n ≤ 8 → WT B T (sFs A n S)
  | 0, _ => hW
  | n + 1, h => by
    rw [sFs_s]
    split
    · exact (WT.flushs hW n (by omega)).flush (by omega)
    · exact WT.flushs hW n (by omega)
theorem sFs_no {A : Nat → Bool} (h : ∀ b, A b = false) (n : Nat) : sFs A n S = S := by
  induction n with
  | zero => rfl
  | succ n ih => rw [sFs_s, if_neg (by rw [h n]; decide), ih]
theorem anF_no {p : Nat → Bool} {J : Nat → Nat → Bool} (h : ∀ b, p b = false) (o : Nat) : ∀ n, anF p J n o = false
  | 0 => rfl
  | n + 1 => by rw [anF, anF_no h o n, h n]; rfl
/-- the row behind the ports -/
def sPo (B T : Nat) (S : Nat → Int32) : Nat → Int32 := sFs (anF (pst (2 * T) S).2 (JS (pst (2 * T) S).1 T) B) B (pst (2 * T) S).1
theorem WT.po (hW : WT B T S) : WT B T (sPo B T S) := (hW.psts (2 * T) (Nat.le_refl _)).flushs B hW.2.2.1
theorem x_ports (hW : WT B T (M.1 129)) : f_X12_ports M = some (sR M 129 (sPo B T (M.1 129))) := by
  have hB8 := hW.2.2.1
  obtain ⟨z, z1, z2, z3⟩ := x_ports4 hW
  have hWp := hW.psts (2 * T) (Nat.le_refl _)
  generalize hS : (pst (2 * T) (M.1 129)).1 = S4 at *
  generalize hp : (pst (2 * T) (M.1 129)).2 = p at *
  have w0 := hWp.1
  obtain ⟨t, ht, y, y1, y2, y3⟩ := lo_rel (b := b_X12_ports_65 (nI z)) (s0 := (nI 0, nI 0, sR M 129 S4)) (N := 2048) (n := B)
    (P := fun k s => ∃ y, y < 256 ∧ (∀ o, y.testBit o = anF p (JS S4 T) k o) ∧ s = (nI y, nI k, sR M 129 S4))
    (Q := fun t => ∃ y, y < 256 ∧ (∀ o, y.testBit o = anF p (JS S4 T) B o) ∧ t = (nI y, nI B, sR M 129 S4))
    ⟨0, by decide, fun b => Nat.zero_testBit b, rfl⟩ (fun k s hk hP => by
      obtain ⟨y, y1, y2, rfl⟩ := hP
      have hB : ¬ B ≤ k := by omega
      obtain ⟨s, s1, s2, s3⟩ := x_reached (M := sR M 129 S4) (b := k) (B := B) (T := T) (by rw [sR_get]; exact hWp) (by omega)
      rw [sR_get] at s3
      have hsh := b_sh z z1 k (by omega)
      rw [z2 k] at hsh
      unfold b_X12_ports_65
      by_cases hpk : p k = true
      · rw [hpk, bI_t] at hsh
        refine ⟨(nI (y ||| s), nI (k + 1), sR M 129 S4), ?_, y ||| s, or_lt y1 s1, fun o => ?_, rfl⟩
        · simp (disch := omega) only [L0, L1, L2, L3, L4, L5, L6, L7, L8, L9, L10, L11, L12, L13, L14, L15, L16, L17, L18, L19, L20, L21, L22, L23, L24, L25, L26, L27, L28, L29, L30, L31, L32, L47, L48, L50, L51, L57, L59, L90, L97, L100, L120, L122, L127, L179, L187, L199, L200, L487, L974, L1000, L1461, L10000, L18498, L1000000, nI_add, pk_mul, nI_cl, nI_lts, nI_les, nI_eqs, Ln1, n1_ne, n1_ne', n1_lts, nI_ltn, n1_les, nI_len, bd_s, lt_d, gd_n, sR_get, w0, if_neg hB, hsh, if_true, s2, nI_or]
        · rw [Nat.testBit_or, y2 o, s3 o, anF, hpk]; rfl
      · have hpk' : p k = false := by revert hpk; cases p k <;> simp
        rw [hpk', bI_f] at hsh
        refine ⟨(nI (y ||| 0), nI (k + 1), sR M 129 S4), ?_, y ||| 0, or_lt y1 (by decide), fun o => ?_, rfl⟩
        · simp (disch := omega) only [L0, L1, L2, L3, L4, L5, L6, L7, L8, L9, L10, L11, L12, L13, L14, L15, L16, L17, L18, L19, L20, L21, L22, L23, L24, L25, L26, L27, L28, L29, L30, L31, L32, L47, L48, L50, L51, L57, L59, L90, L97, L100, L120, L122, L127, L179, L187, L199, L200, L487, L974, L1000, L1461, L10000, L18498, L1000000, nI_add, pk_mul, nI_cl, nI_lts, nI_les, nI_eqs, Ln1, n1_ne, n1_ne', n1_lts, nI_ltn, n1_les, nI_len, bd_s, lt_d, gd_n, sR_get, w0, if_neg hB, hsh, if_false, nI_or, Nat.zero_ne_one]
        · rw [Nat.or_zero, y2 o, anF, hpk']
          cases anF p (JS S4 T) k o <;> rfl) (fun s hP => by
      obtain ⟨y, y1, y2, rfl⟩ := hP
      refine ⟨_, ?_, y, y1, y2, rfl⟩
      unfold b_X12_ports_65
      simp (disch := omega) only [L0, L1, L2, L3, L4, L5, L6, L7, L8, L9, L10, L11, L12, L13, L14, L15, L16, L17, L18, L19, L20, L21, L22, L23, L24, L25, L26, L27, L28, L29, L30, L31, L32, L47, L48, L50, L51, L57, L59, L90, L97, L100, L120, L122, L127, L179, L187, L199, L200, L487, L974, L1000, L1461, L10000, L18498, L1000000, nI_add, pk_mul, nI_cl, nI_lts, nI_les, nI_eqs, Ln1, n1_ne, n1_ne', n1_lts, nI_ltn, n1_les, nI_len, bd_s, lt_d, gd_n, sR_get, w0, if_true, Nat.le_refl]) (by omega)
  have h3 := lo_gen (b := b_X12_ports_104 (nI z) (nI y)) (fun k => (nI k, sR M 129 (sFs (anF p (JS S4 T) B) k S4))) B (nI B, sR M 129 (sFs (anF p (JS S4 T) B) B S4)) (fun k hk => by
    have hB : ¬ B ≤ k := by omega
    have hWk := (hWp.flushs (A := anF p (JS S4 T) B) k (by omega)).1
    have hsh := b_sh y y1 k (by omega)
    rw [y2 k] at hsh
    unfold b_X12_ports_104
    rw [sFs_s]
    by_cases hA : anF p (JS S4 T) B k = true
    · rw [hA, bI_t] at hsh
      rw [if_pos hA]
      simp (disch := omega) only [L0, L1, L2, L3, L4, L5, L6, L7, L8, L9, L10, L11, L12, L13, L14, L15, L16, L17, L18, L19, L20, L21, L22, L23, L24, L25, L26, L27, L28, L29, L30, L31, L32, L47, L48, L50, L51, L57, L59, L90, L97, L100, L120, L122, L127, L179, L187, L199, L200, L487, L974, L1000, L1461, L10000, L18498, L1000000, nI_add, pk_mul, nI_cl, nI_lts, nI_les, nI_eqs, Ln1, n1_ne, n1_ne', n1_lts, nI_ltn, n1_les, nI_len, bd_s, lt_d, gd_n, wI_sR, sR_get, sR_sR, sR_ne, hWk, if_neg hB, hsh, if_true, x_flushes]
    · have hA' : anF p (JS S4 T) B k = false := by revert hA; cases anF p (JS S4 T) B k <;> simp
      rw [hA', bI_f] at hsh
      rw [if_neg hA]
      simp (disch := omega) only [L0, L1, L2, L3, L4, L5, L6, L7, L8, L9, L10, L11, L12, L13, L14, L15, L16, L17, L18, L19, L20, L21, L22, L23, L24, L25, L26, L27, L28, L29, L30, L31, L32, L47, L48, L50, L51, L57, L59, L90, L97, L100, L120, L122, L127, L179, L187, L199, L200, L487, L974, L1000, L1461, L10000, L18498, L1000000, nI_add, pk_mul, nI_cl, nI_lts, nI_les, nI_eqs, Ln1, n1_ne, n1_ne', n1_lts, nI_ltn, n1_les, nI_len, bd_s, lt_d, gd_n, wI_sR, sR_get, sR_sR, sR_ne, hWk, if_neg hB, hsh, if_false, Nat.zero_ne_one]) (by
    have hWk := (hWp.flushs (A := anF p (JS S4 T) B) B hB8).1
    unfold b_X12_ports_104
    simp (disch := omega) only [L0, L1, L2, L3, L4, L5, L6, L7, L8, L9, L10, L11, L12, L13, L14, L15, L16, L17, L18, L19, L20, L21, L22, L23, L24, L25, L26, L27, L28, L29, L30, L31, L32, L47, L48, L50, L51, L57, L59, L90, L97, L100, L120, L122, L127, L179, L187, L199, L200, L487, L974, L1000, L1461, L10000, L18498, L1000000, nI_add, pk_mul, nI_cl, nI_lts, nI_les, nI_eqs, Ln1, n1_ne, n1_ne', n1_lts, nI_ltn, n1_les, nI_len, bd_s, lt_d, gd_n, sR_get, hWk, if_true, Nat.le_refl]) (N := 2048) (by omega)
  have h3' : lo (b_X12_ports_104 (nI z) (nI y)) 2048 (nI 0, sR M 129 S4) = _ := h3
  unfold f_X12_ports sPo
  rw [hS, hp]
  simp only [L0, z3, bd_s, ht, y3, h3']
end PPM
