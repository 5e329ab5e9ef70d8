/-! Frames: the class's whole way, the model's side, the call. -/
def cbm (F : FT) (i : Nat) : Int32 := if i = 0 then n1 else nI (fw F i)
def MS (M0 : me) (F : FT) (z : Nat) (M : me) : Prop := z < 256 ∧ (∀ b, b < 8 → z.testBit b = fg F b) ∧ M.1 129 = F.1 ∧ (∀ i, i < fn F → M.1 134 i = nI (fq F i)) ∧ (∀ i, i < fn F → M.1 135 i = cbm F i) ∧ (∀ r, r ≠ 129 → r ≠ 134 → r ≠ 135 → M.1 r = M0.1 r) ∧ M.2 = M0.2
def fF0 (S : Nat → Int32) : FT := (S, fun _ => 0, fun _ => 0, fun _ => false, 0, 0, false)
def fF1 (S : Nat → Int32) (b h : Nat) : FT := fRc b 100 h (fF0 S)
def ansF (F : FT) : Int32 := if fd F = true then nI 1000 else nI 0
def sFin (F : FT) : Nat → Int32 := upd (upd (upd F.1 8 (F.1 8 + nI 1)) 9 (F.1 9 + (if fd F = true then nI 1 else nI 0))) 10 (F.1 10 + nI (fu F))
section PFS
variable {m m0 M M0 : me} {S : Nat → Int32} {B T : Nat} {F : FT} {h l o k b z to : Nat}
theorem add0 (x : Int32) : x + nI 0 = x := Int32.add_zero x
theorem FI_1 (hW : WT B T S) (hb : b < B) (hh : h < 8) : FI B T (fF1 S b h) := by
  have hB := hW.2.2.1
  unfold fF1
  rw [fRc_n rfl]
  refine ⟨hW.learn (by omega) hh (Or.inl rfl), Nat.le_refl 1, (show (0 + 1 : Nat) ≤ 8 by decide), fun i hi => ?_, ?_, rfl, fun i h0 hi => ?_⟩
  · obtain rfl : i = 0 := Nat.lt_one_iff.mp hi
    exact ⟨hb, by show (false || decide (b = b)) = true; rw [decide_eq_true rfl]; rfl⟩
  · show cnt (fun x => false || decide (x = b)) 8 = 0 + 1
    have := cnt_dn (p := fun x => false || decide (x = b)) (q := fun _ => false) (d := b) 8 (by omega) (fun x hx => by
      show false = (false || decide (x = b))
      rw [decide_eq_false hx]; rfl) (by show (false || decide (b = b)) = true; rw [decide_eq_true rfl]; rfl) rfl
    have h0 : cnt (fun _ => false) 8 = 0 := rfl
    omega
  · change i < 0 + 1 at hi
    omega
theorem y_carry (hW : WT B T S) (hR : RN m 1 S) (hh : h < 8) (hto : to < 8) (hb : S (179 + h) = nI b) (hbB : b < B) : ∃ m1, f_X2_carry (nI h) (nI to) m = some (nI (fu (fK T h to 8 (fF1 S b h))) + ansF (fK T h to 8 (fF1 S b h)), m1) ∧ Cl m m1 (sFin (fK T h to 8 (fF1 S b h))) := by
  have hB8 := hW.2.2.1
  have h1 := lo_gen (b := b_X2_carry_3 (nI h) (nI to)) (fun k => (nI k, sR m 123 (mx k (fun _ => nI 0) (m.1 123)))) 8 (nI 8, sR m 123 (mx 8 (fun _ => nI 0) (m.1 123))) (fun k hk => by
    unfold b_X2_carry_3
    have : ¬ 8 ≤ k := by omega
    have e : upd (mx k (fun _ => nI 0) (m.1 123)) k (nI 0) = mx (k + 1) (fun _ => nI 0) (m.1 123) := mx_s k (fun _ => nI 0) (m.1 123)
    simp (disch := omega) only [L0, L1, L2, L3, L4, L5, L6, L7, L8, L9, L10, L11, L12, L13, L14, L15, L16, L17, L18, L19, L20, L21, L22, L23, L24, L25, L26, L27, L28, L29, L30, L31, L32, L47, L48, L50, L51, L57, L59, L90, L97, L100, L120, L122, L127, L179, L187, L199, L200, L487, L974, L1000, L1461, L10000, L18498, L1000000, nI_add, pk_mul, nI_cl, nI_lts, nI_les, nI_eqs, Ln1, n1_ne, n1_ne', n1_lts, nI_ltn, n1_les, nI_len, bd_s, lt_d, gd_n, wI_sR, sR_get, sR_sR, sR_ne, if_neg this, e]) (by
    unfold b_X2_carry_3
    simp (disch := omega) only [L0, L1, L2, L3, L4, L5, L6, L7, L8, L9, L10, L11, L12, L13, L14, L15, L16, L17, L18, L19, L20, L21, L22, L23, L24, L25, L26, L27, L28, L29, L30, L31, L32, L47, L48, L50, L51, L57, L59, L90, L97, L100, L120, L122, L127, L179, L187, L199, L200, L487, L974, L1000, L1461, L10000, L18498, L1000000, nI_add, pk_mul, nI_cl, nI_lts, nI_les, nI_eqs, Ln1, n1_ne, n1_ne', n1_lts, nI_ltn, n1_les, nI_len, bd_s, lt_d, gd_n, if_true, Nat.le_refl]) (N := 2048) (by decide)
  simp only [mx_0, sR_self] at h1
  have hC1 : Cl m (sR m 123 (mx 8 (fun _ => nI 0) (m.1 123))) S := ⟨hR.scr (by omega), ⟨fun o g1 g2 => by rw [sR_ne (by omega)], rfl⟩⟩
  have hC2 := ((hC1.sc (q := 122) (j := 3) (v := nI 0) (by omega)).sc (q := 122) (j := 4) (v := nI 0) (by omega)).sc (q := 122) (j := 5) (v := nI 0) (by omega)
  have hCR : CR m (wI (wI (wI (sR m 123 (mx 8 (fun _ => nI 0) (m.1 123))) 122 3 (nI 0)) 122 4 (nI 0)) 122 5 (nI 0)) (fF0 S) := by
    refine ⟨hC2, ?_, ?_, ?_, fun b hb => ?_, fun i hi => absurd hi (Nat.not_lt_zero i), fun i hi => absurd hi (Nat.not_lt_zero i)⟩
    · simp (disch := decide) only [wI_sR, sR_get]; rw [upd_n (by decide), upd_n (by decide), upd_e]; rfl
    · simp (disch := decide) only [wI_sR, sR_get]; rw [upd_n (by decide), upd_e]; rfl
    · simp (disch := decide) only [wI_sR, sR_get, upd_e]; rfl
    · simp (disch := decide) only [wI_sR, sR_get, sR_ne]; rw [mx_lt hb]; rfl
  obtain ⟨m8, a1, a2⟩ := y_receive (o := b) (l := 100) (h := h) hCR (by omega) hh (fun _ => Nat.zero_lt_succ 7) (fun i hi => absurd hi (Nat.not_lt_zero i))
  have r8 := (rd_host hC2.1 hh).trans hb
  have hF1 := FI_1 hW hbB hh
  have a2' : CR m m8 (fF1 S b h) := a2
  obtain ⟨t, ht, j, m9, k1, k2⟩ := lo_rex (b := b_X2_carry_59 (nI h) (nI to)) (s0 := (nI 0, m8)) (N := 2048) (n := 8)
    (P := fun k s => ∃ m1, s = (nI k, m1) ∧ CR m m1 (fK T h to k (fF1 S b h)))
    (Q := fun t => ∃ j m1, t = (nI j, m1) ∧ CR m m1 (fK T h to 8 (fF1 S b h)))
    ⟨m8, rfl, a2'⟩ (fun k s hk hP => by
      obtain ⟨m1, rfl, k2⟩ := hP
      have hFk := hF1.oK (to := to) hh k
      have h8 : ¬ 8 ≤ k := by omega
      have e3 := k2.2.1
      have hn8 := hFk.2.2.1
      by_cases hkn : k < fn (fK T h to k (fF1 S b h))
      · refine Or.inl ?_
        have e125 := k2.2.2.2.2.2.1 k hkn
        obtain ⟨m2, c1, c2⟩ := y_serve (to := to) hFk k2 hkn hh hto
        have hnk : ¬ fn (fK T h to k (fF1 S b h)) ≤ k := by omega
        refine ⟨(nI (k + 1), m2), ?_, m2, rfl, ?_⟩
        · unfold b_X2_carry_59
          simp (disch := omega) only [L0, L1, L2, L3, L4, L5, L6, L7, L8, L9, L10, L11, L12, L13, L14, L15, L16, L17, L18, L19, L20, L21, L22, L23, L24, L25, L26, L27, L28, L29, L30, L31, L32, L47, L48, L50, L51, L57, L59, L90, L97, L100, L120, L122, L127, L179, L187, L199, L200, L487, L974, L1000, L1461, L10000, L18498, L1000000, nI_add, pk_mul, nI_cl, nI_lts, nI_les, nI_eqs, Ln1, n1_ne, n1_ne', n1_lts, nI_ltn, n1_les, nI_len, bd_s, lt_d, gd_n, if_neg h8, e3, if_neg hnk, e125, c1]
        · show CR m m2 (if k < fn (fK T h to k (fF1 S b h)) then fV T h to k (fK T h to k (fF1 S b h)) else fK T h to k (fF1 S b h))
          rw [if_pos hkn]
          exact c2
      · refine Or.inr ⟨(nI k, m1), ?_, k, m1, rfl, ?_⟩
        · have hnk : fn (fK T h to k (fF1 S b h)) ≤ k := by omega
          unfold b_X2_carry_59
          simp (disch := omega) only [L0, L1, L2, L3, L4, L5, L6, L7, L8, L9, L10, L11, L12, L13, L14, L15, L16, L17, L18, L19, L20, L21, L22, L23, L24, L25, L26, L27, L28, L29, L30, L31, L32, L47, L48, L50, L51, L57, L59, L90, L97, L100, L120, L122, L127, L179, L187, L199, L200, L487, L974, L1000, L1461, L10000, L18498, L1000000, nI_add, pk_mul, nI_cl, nI_lts, nI_les, nI_eqs, Ln1, n1_ne, n1_ne', n1_lts, nI_ltn, n1_les, nI_len, bd_s, lt_d, gd_n, if_neg h8, e3, if_pos hnk]
        · have := fK_end (T := T) (h := h) (to := to) (j := k) (F := fF1 S b h) (by omega) (8 - k)
          rw [show k + (8 - k) = 8 by omega] at this
          rw [this]
          exact k2) (fun s hP => by
      obtain ⟨m1, rfl, k2⟩ := hP
      refine ⟨(nI 8, m1), ?_, 8, m1, rfl, k2⟩
      unfold b_X2_carry_59
      simp (disch := omega) only [L0, L1, L2, L3, L4, L5, L6, L7, L8, L9, L10, L11, L12, L13, L14, L15, L16, L17, L18, L19, L20, L21, L22, L23, L24, L25, L26, L27, L28, L29, L30, L31, L32, L47, L48, L50, L51, L57, L59, L90, L97, L100, L120, L122, L127, L179, L187, L199, L200, L487, L974, L1000, L1461, L10000, L18498, L1000000, nI_add, pk_mul, nI_cl, nI_lts, nI_les, nI_eqs, Ln1, n1_ne, n1_ne', n1_lts, nI_ltn, n1_les, nI_len, bd_s, lt_d, gd_n, if_true, Nat.le_refl]) (by decide)
  have r8' : (wI (wI (wI (sR m 123 (mx 8 (fun _ => nI 0) (m.1 123))) 122 3 (nI 0)) 122 4 (nI 0)) 122 5 (nI 0)).1 8 h = nI b := r8
  generalize fK T h to 8 (fF1 S b h) = G at *
  obtain ⟨c1, c2, c3, c4, -⟩ := k2
  have s1 := Cl_sent (v := G.1 8 + nI 1) c1 rfl
  have s2 := Cl_used (v := G.1 10 + nI (fu G)) s1 rfl
  have f7 := rd_sent c1.1
  have f9 : (wI m9 1 7 (G.1 8 + nI 1)).1 1 9 = G.1 10 := by rw [rd_used s1.1, upd_n (by decide)]
  have f4 : (wI m9 1 7 (G.1 8 + nI 1)).1 122 4 = nI (fu G) := by rw [wI_sR, sR_ne (by decide)]; exact c3
  have f5 : (wI (wI m9 1 7 (G.1 8 + nI 1)) 1 9 (G.1 10 + nI (fu G))).1 122 5 = bI (fd G) := by rw [wI_sR, sR_ne (by decide), wI_sR, sR_ne (by decide)]; exact c4
  have f4' : (wI (wI m9 1 7 (G.1 8 + nI 1)) 1 9 (G.1 10 + nI (fu G))).1 122 4 = nI (fu G) := by rw [wI_sR, sR_ne (by decide)]; exact f4
  unfold ansF sFin
  by_cases hd : fd G = true
  · have s3 := Cl_dlvd (v := G.1 9 + nI 1) s2 rfl
    have f8 : (wI (wI m9 1 7 (G.1 8 + nI 1)) 1 9 (G.1 10 + nI (fu G))).1 1 8 = G.1 9 := by rw [rd_dlvd s2.1, upd_n (by decide), upd_n (by decide)]
    have f4'' : (wI (wI (wI m9 1 7 (G.1 8 + nI 1)) 1 9 (G.1 10 + nI (fu G))) 1 8 (G.1 9 + nI 1)).1 122 4 = nI (fu G) := by rw [wI_sR, sR_ne (by decide)]; exact f4'
    rw [hd, bI_t] at f5
    rw [if_pos hd, if_pos hd]
    refine ⟨_, ?_, by rw [upd_cm (by decide)] at s3; exact s3⟩
    unfold f_X2_carry j_X2_carry_95
    simp (disch := omega) only [L0, L1, L2, L3, L4, L5, L6, L7, L8, L9, L10, L11, L12, L13, L14, L15, L16, L17, L18, L19, L20, L21, L22, L23, L24, L25, L26, L27, L28, L29, L30, L31, L32, L47, L48, L50, L51, L57, L59, L90, L97, L100, L120, L122, L127, L179, L187, L199, L200, L487, L974, L1000, L1461, L10000, L18498, L1000000, nI_cl, bd_s, lt_d, gd_n, h1, r8', a1, ht, k1, f7, f9, f4, f5, i10, if_false, f8, f4'']
  · have hd' := bf_of hd
    rw [hd', bI_f] at f5
    rw [if_neg hd, if_neg hd, add0, add0]
    refine ⟨wI (wI m9 1 7 (G.1 8 + nI 1)) 1 9 (G.1 10 + nI (fu G)), ?_, ?_⟩
    · unfold f_X2_carry j_X2_carry_95
      simp (disch := omega) only [L0, L1, L2, L3, L4, L5, L6, L7, L8, L9, L10, L11, L12, L13, L14, L15, L16, L17, L18, L19, L20, L21, L22, L23, L24, L25, L26, L27, L28, L29, L30, L31, L32, L47, L48, L50, L51, L57, L59, L90, L97, L100, L120, L122, L127, L179, L187, L199, L200, L487, L974, L1000, L1461, L10000, L18498, L1000000, nI_cl, bd_s, lt_d, gd_n, h1, r8', a1, ht, k1, f7, f9, f4, f5, if_true, f4']
    · rw [upd_self (k := 9) (by rw [upd_n (by decide)])]
      exact s2
theorem x_learns {v : Int32} (ho : o < 8) (hh : h < 8) : f_X12_learns (nI o) (nI h) v M = some (sR M 129 (lrn o h v (M.1 129))) := by
  unfold f_X12_learns lrn
  have e : upd (M.1 129) (51 + 16 * o + 2 * h) v 1 = M.1 129 1 := upd_n (by omega)
  simp (disch := omega) only [L0, L1, L2, L3, L4, L5, L6, L7, L8, L9, L10, L11, L12, L13, L14, L15, L16, L17, L18, L19, L20, L21, L22, L23, L24, L25, L26, L27, L28, L29, L30, L31, L32, L47, L48, L50, L51, L57, L59, L90, L97, L100, L120, L122, L127, L179, L187, L199, L200, L487, L974, L1000, L1461, L10000, L18498, L1000000, nI_add, pk_mul, nI_cl, nI_lts, nI_les, nI_eqs, Ln1, n1_ne, n1_ne', n1_lts, nI_ltn, n1_les, nI_len, bd_s, lt_d, gd_n, wI_sR, sR_get, sR_sR, sR_ne, e]
theorem x_263 {v2 v6 v7 v9 v10 v11 : Int32} (hF : FI B T F) (hM : MS M0 F z M) (hl : l < T) (hb : b < 8) (hh : h < 8) : ∃ z' M', j_X12_send_263 (nI h) v2 (nI (fn F)) (nI z) (nI (fu F)) v6 v7 (nI b) v9 v10 v11 (nI l) M = some (.inl (nI (fn (fO h l b F)), nI z', nI (fu (fO h l b F)), nI (l + 1), M')) ∧ MS M0 (fO h l b F) z' M' := by
  obtain ⟨z1, z2, z3, z4, z5, z6, z7⟩ := id hM
  have w4 := hF.1.2.2.2.2.1
  have hB8 := hF.1.2.2.1
  have hx : f_X12_other (nI l) (nI b) M = some (nI (oth F.1 l b), M) := by
    have := x_other (M := M) (l := l) (b := b) (B := B) (T := T) (by rw [z3]; exact hF.1) hl hb
    rw [z3] at this
    exact this
  obtain ⟨o1, o2⟩ := oth_B (b := b) hF.1 hl
  unfold fO
  generalize oth F.1 l b = o at *
  have ho8 : o < 8 := by omega
  have hsh := b_sh z z1 o ho8
  rw [z2 o ho8] at hsh
  unfold j_X12_send_263
  by_cases hg : fg F o = true
  · rw [fRc_y (F := fU F) hg]
    rw [hg, bI_t] at hsh
    refine ⟨z, M, ?_, hM⟩
    simp (disch := omega) only [L0, L1, L2, L3, L4, L5, L6, L7, L8, L9, L10, L11, L12, L13, L14, L15, L16, L17, L18, L19, L20, L21, L22, L23, L24, L25, L26, L27, L28, L29, L30, L31, L32, L47, L48, L50, L51, L57, L59, L90, L97, L100, L120, L122, L127, L179, L187, L199, L200, L487, L974, L1000, L1461, L10000, L18498, L1000000, nI_add, pk_mul, nI_cl, nI_lts, nI_les, nI_eqs, Ln1, n1_ne, n1_ne', n1_lts, nI_ltn, n1_les, nI_len, bd_s, lt_d, gd_n, hx, hsh, i10, if_false, Nat.one_ne_zero]
    rfl
  · have hg' := bf_of hg
    rw [fRc_n (F := fU F) hg']
    rw [hg', bI_f] at hsh
    have hn8 := hF.lt8 ho8 hg'
    have hn1 := hF.2.1
    refine ⟨z ||| 2 ^ o, sR (sR (sR M 134 (upd (M.1 134) (fn F) (nI o))) 135 (upd (M.1 135) (fn F) (nI l))) 129 (lrn o h (nI l) F.1), ?_, or_lt z1 (p2_lt o ho8), fun x hx => ?_, sR_get, fun i hi => ?_, fun i hi => ?_, fun r h1 h2 h3 => ?_, z7⟩
    · simp (disch := omega) only [L0, L1, L2, L3, L4, L5, L6, L7, L8, L9, L10, L11, L12, L13, L14, L15, L16, L17, L18, L19, L20, L21, L22, L23, L24, L25, L26, L27, L28, L29, L30, L31, L32, L47, L48, L50, L51, L57, L59, L90, L97, L100, L120, L122, L127, L179, L187, L199, L200, L487, L974, L1000, L1461, L10000, L18498, L1000000, nI_add, pk_mul, nI_cl, nI_lts, nI_les, nI_eqs, Ln1, n1_ne, n1_ne', n1_lts, nI_ltn, n1_les, nI_len, bd_s, lt_d, gd_n, wI_sR, sR_get, sR_sR, sR_ne, hx, hsh, if_true, b_1 o ho8, nI_or, x_learns ho8 hh, z3]
      rfl
    · show _ = (fg F x || decide (x = o))
      rw [Nat.testBit_or, z2 x hx, Nat.testBit_two_pow, decide_eq_decide.mpr (eq_comm (a := o) (b := x))]
    · change i < fn F + 1 at hi
      rw [sR_ne (by decide), sR_ne (by decide), sR_get]
      show upd (M.1 134) (fn F) (nI o) i = nI (uN (fq F) (fn F) o i)
      unfold uN
      by_cases hin : i = fn F
      · rw [hin, upd_e, if_pos rfl]
      · rw [upd_n hin, if_neg hin]; exact z4 i (by omega)
    · change i < fn F + 1 at hi
      rw [sR_ne (by decide), sR_get]
      show upd (M.1 135) (fn F) (nI l) i = if i = 0 then n1 else nI (uN (fw F) (fn F) l i)
      unfold uN
      by_cases hin : i = fn F
      · rw [hin, upd_e, if_neg (by omega), if_pos rfl]
      · rw [upd_n hin, if_neg hin]; exact z5 i (by omega)
    · rw [sR_ne h1, sR_ne h3, sR_ne h2]; exact z6 r h1 h2 h3
theorem cbm_eq (hF : FI B T F) (hl : l < 16) (hk : k < fn F) : (nI l = cbm F k) = (l = fw F k) := by
  have w4 := hF.1.2.2.2.2.1
  unfold cbm
  by_cases h0 : k = 0
  · rw [if_pos h0, n1_ne' (by omega), h0, hF.2.2.2.2.2.1]
    exact propext ⟨fun h => h.elim, fun h => by omega⟩
  · have := hF.2.2.2.2.2.2 k (by omega) hk
    rw [if_neg h0, nI_eqs (by omega) (by omega)]
theorem x_flood {v2 v6 v9 : Int32} (hF : FI B T F) (hM : MS M0 F z M) (hk : k < fn F) (hh : h < 8) : ∃ z' M', lo (b_X12_send_200 (nI h) v2 v6 (nI k) (nI (fq F k)) v9 (nI 0) (nI 0)) 2048 (nI (fn F), nI z, nI (fu F), nI 0, M) = some (nI (fn (fFl h k T F)), nI z', nI (fu (fFl h k T F)), nI T, M') ∧ MS M0 (fFl h k T F) z' M' := by
  have w4 := hF.1.2.2.2.2.1
  have hB8 := hF.1.2.2.1
  have hb8 : fq F k < 8 := by have := (hF.2.2.2.1 k hk).1; omega
  obtain ⟨t, ht, z', M', k1, k2⟩ := lo_rel (b := b_X12_send_200 (nI h) v2 v6 (nI k) (nI (fq F k)) v9 (nI 0) (nI 0)) (s0 := (nI (fn F), nI z, nI (fu F), nI 0, M)) (N := 2048) (n := T)
    (P := fun l s => ∃ z' M', s = (nI (fn (fFl h k l F)), nI z', nI (fu (fFl h k l F)), nI l, M') ∧ MS M0 (fFl h k l F) z' M')
    (Q := fun t => ∃ z' M', t = (nI (fn (fFl h k T F)), nI z', nI (fu (fFl h k T F)), nI T, M') ∧ MS M0 (fFl h k T F) z' M')
    ⟨z, M, rfl, hM⟩ (fun l s hl hP => by
      obtain ⟨z', M', rfl, k2⟩ := hP
      have hFl := hF.oFl (k := k) hh l (by omega)
      obtain ⟨q1, q2, q3⟩ := fFl_keep (h := h) (k := k) hk l
      show ∃ s', _ ∧ ∃ z' M', s' = (nI (fn (fL h k l (fFl h k l F))), nI z', nI (fu (fL h k l (fFl h k l F))), nI (l + 1), M') ∧ MS M0 (fL h k l (fFl h k l F)) z' M'
      rw [← q1]
      rw [← q1] at hb8
      have hk' : k < fn (fFl h k l F) := by omega
      clear q1 q2 q3
      generalize fFl h k l F = G at *
      have hT : ¬ T ≤ l := by omega
      have hl16 : l < 16 := by omega
      have hk8 : k < 8 := by have := hFl.2.2.1; omega
      have hm3 := k2.2.2.1
      have hW3 : WT B T (M'.1 129) := by rw [hm3]; exact hFl.1
      have w3 := hW3.2.2.2.1
      have xat := x_isAt hW3 hl hb8
      have xca := x_carries (m := M') hl16
      rw [hm3] at xat xca
      have r135 := k2.2.2.2.2.1 k hk'
      have hcb := cbm_eq hFl hl16 hk'
      unfold b_X12_send_200 fL
      by_cases hto : (decide (lx G.1 l = fq G k) || decide (ly G.1 l = fq G k)) = true
      · rw [hto] at xat
        rw [hto]
        by_cases hca : ca G.1 l = true
        · rw [hca] at xca
          rw [hca]
          by_cases hlw : l = fw G k
          · refine ⟨(nI (fn G), nI z', nI (fu G), nI (l + 1), M'), ?_, ?_⟩
            · simp (disch := omega) only [L0, L1, L2, L3, L4, L5, L6, L7, L8, L9, L10, L11, L12, L13, L14, L15, L16, L17, L18, L19, L20, L21, L22, L23, L24, L25, L26, L27, L28, L29, L30, L31, L32, L47, L48, L50, L51, L57, L59, L90, L97, L100, L120, L122, L127, L179, L187, L199, L200, L487, L974, L1000, L1461, L10000, L18498, L1000000, nI_add, pk_mul, nI_cl, nI_lts, nI_les, nI_eqs, Ln1, n1_ne, n1_ne', n1_lts, nI_ltn, n1_les, nI_len, bd_s, lt_d, gd_n, w3, if_neg hT, if_true, xat, xca, bI_t, i10, if_false, r135, hcb, if_pos hlw, Nat.one_ne_zero]
            · rw [decide_eq_true hlw, if_neg (by simp)]
              exact ⟨z', M', rfl, k2⟩
          · obtain ⟨z2, M2, a1, a2⟩ := x_263 (v2 := v2) (v6 := v6) (v7 := nI k) (v9 := v9) (v10 := nI 0) (v11 := nI 0) hFl k2 hl hb8 hh
            refine ⟨(nI (fn (fO h l (fq G k) G)), nI z2, nI (fu (fO h l (fq G k) G)), nI (l + 1), M2), ?_, ?_⟩
            rotate_left 1
            · rw [decide_eq_false hlw, if_pos (by simp)]
              exact ⟨z2, M2, rfl, a2⟩
            · simp (disch := omega) only [L0, L1, L2, L3, L4, L5, L6, L7, L8, L9, L10, L11, L12, L13, L14, L15, L16, L17, L18, L19, L20, L21, L22, L23, L24, L25, L26, L27, L28, L29, L30, L31, L32, L47, L48, L50, L51, L57, L59, L90, L97, L100, L120, L122, L127, L179, L187, L199, L200, L487, L974, L1000, L1461, L10000, L18498, L1000000, nI_add, pk_mul, nI_cl, nI_lts, nI_les, nI_eqs, Ln1, n1_ne, n1_ne', n1_lts, nI_ltn, n1_les, nI_len, bd_s, lt_d, gd_n, w3, if_neg hT, if_true, xat, xca, bI_t, i10, if_false, r135, hcb, if_neg hlw, a1, Nat.one_ne_zero]
        · have hca := bf_of hca
          rw [hca] at xca
          refine ⟨(nI (fn G), nI z', nI (fu G), nI (l + 1), M'), ?_, ?_⟩
          · simp (disch := omega) only [L0, L1, L2, L3, L4, L5, L6, L7, L8, L9, L10, L11, L12, L13, L14, L15, L16, L17, L18, L19, L20, L21, L22, L23, L24, L25, L26, L27, L28, L29, L30, L31, L32, L47, L48, L50, L51, L57, L59, L90, L97, L100, L120, L122, L127, L179, L187, L199, L200, L487, L974, L1000, L1461, L10000, L18498, L1000000, nI_add, pk_mul, nI_cl, nI_lts, nI_les, nI_eqs, Ln1, n1_ne, n1_ne', n1_lts, nI_ltn, n1_les, nI_len, bd_s, lt_d, gd_n, w3, if_neg hT, if_true, xat, xca, bI_t, bI_f, i10, if_false, Nat.one_ne_zero]
          · rw [hca, if_neg (by simp)]
            exact ⟨z', M', rfl, k2⟩
      · have hto := bf_of hto
        rw [hto] at xat
        refine ⟨(nI (fn G), nI z', nI (fu G), nI (l + 1), M'), ?_, ?_⟩
        · simp (disch := omega) only [L0, L1, L2, L3, L4, L5, L6, L7, L8, L9, L10, L11, L12, L13, L14, L15, L16, L17, L18, L19, L20, L21, L22, L23, L24, L25, L26, L27, L28, L29, L30, L31, L32, L47, L48, L50, L51, L57, L59, L90, L97, L100, L120, L122, L127, L179, L187, L199, L200, L487, L974, L1000, L1461, L10000, L18498, L1000000, nI_add, pk_mul, nI_cl, nI_lts, nI_les, nI_eqs, Ln1, n1_ne, n1_ne', n1_lts, nI_ltn, n1_les, nI_len, bd_s, lt_d, gd_n, w3, if_neg hT, if_true, xat, bI_f]
        · rw [hto, if_neg (by simp)]
          exact ⟨z', M', rfl, k2⟩) (fun s hP => by
      obtain ⟨z', M', rfl, k2⟩ := hP
      have w3 : M'.1 129 5 = nI T := by rw [k2.2.2.1]; exact (hF.oFl (k := k) hh T (Nat.le_refl T)).1.2.2.2.1
      refine ⟨_, ?_, z', M', rfl, k2⟩
      unfold b_X12_send_200
      simp (disch := omega) only [L0, L1, L2, L3, L4, L5, L6, L7, L8, L9, L10, L11, L12, L13, L14, L15, L16, L17, L18, L19, L20, L21, L22, L23, L24, L25, L26, L27, L28, L29, L30, L31, L32, L47, L48, L50, L51, L57, L59, L90, L97, L100, L120, L122, L127, L179, L187, L199, L200, L487, L974, L1000, L1461, L10000, L18498, L1000000, nI_add, pk_mul, nI_cl, nI_lts, nI_les, nI_eqs, Ln1, n1_ne, n1_ne', n1_lts, nI_ltn, n1_les, nI_len, bd_s, lt_d, gd_n, w3, if_true, Nat.le_refl]) (by omega)
  exact ⟨z', M', by rw [ht, k1], k2⟩
theorem x_alone {v2 v6 : Int32} {l0 : Nat} (hF : FI B T F) (hM : MS M0 F z M) (hk : k < fn F) (hh : h < 8) (hl0 : l0 < T) (hat : lx F.1 l0 = fq F k ∨ ly F.1 l0 = fq F k) (hc0 : ca F.1 l0 = true) : ∃ z' M', lo (b_X12_send_200 (nI h) v2 v6 (nI k) (nI (fq F k)) (nI l0) (nI 1) (nI 0)) 2048 (nI (fn F), nI z, nI (fu F), nI 0, M) = some (nI (fn (fO h l0 (fq F k) F)), nI z', nI (fu (fO h l0 (fq F k) F)), nI T, M') ∧ MS M0 (fO h l0 (fq F k) F) z' M' := by
  have w4 := hF.1.2.2.2.2.1
  have hB8 := hF.1.2.2.1
  have hb8 : fq F k < 8 := by have := (hF.2.2.2.1 k hk).1; omega
  obtain ⟨t, ht, z', M', k1, k2⟩ := lo_rel (b := b_X12_send_200 (nI h) v2 v6 (nI k) (nI (fq F k)) (nI l0) (nI 1) (nI 0)) (s0 := (nI (fn F), nI z, nI (fu F), nI 0, M)) (N := 2048) (n := T)
    (P := fun l s => ∃ z' M', s = (nI (fn (if l0 < l then fO h l0 (fq F k) F else F)), nI z', nI (fu (if l0 < l then fO h l0 (fq F k) F else F)), nI l, M') ∧ MS M0 (if l0 < l then fO h l0 (fq F k) F else F) z' M')
    (Q := fun t => ∃ z' M', t = (nI (fn (fO h l0 (fq F k) F)), nI z', nI (fu (fO h l0 (fq F k) F)), nI T, M') ∧ MS M0 (fO h l0 (fq F k) F) z' M')
    ⟨z, M, by rw [if_neg (by omega)], by rw [if_neg (by omega)]; exact hM⟩ (fun l s hl hP => by
      obtain ⟨z', M', rfl, k2⟩ := hP
      have hT : ¬ T ≤ l := by omega
      have hl16 : l < 16 := by omega
      by_cases hll : l = l0
      · subst hll
        rw [if_neg (by omega)] at k2
        rw [if_neg (show ¬ l < l by omega), if_pos (show l < l + 1 by omega)]
        have hW3 : WT B T (M'.1 129) := by rw [k2.2.2.1]; exact hF.1
        have w3 := hW3.2.2.2.1
        have xat := x_isAt hW3 hl hb8
        have xca := x_carries (m := M') hl16
        rw [k2.2.2.1] at xat xca
        rw [show (decide (lx F.1 l = fq F k) || decide (ly F.1 l = fq F k)) = true by rcases hat with g | g <;> simp [g]] at xat
        rw [hc0] at xca
        obtain ⟨z2, M2, a1, a2⟩ := x_263 (v2 := v2) (v6 := v6) (v7 := nI k) (v9 := nI l) (v10 := nI 1) (v11 := nI 0) hF k2 hl hb8 hh
        refine ⟨_, ?_, z2, M2, rfl, a2⟩
        unfold b_X12_send_200
        simp (disch := omega) only [L0, L1, L2, L3, L4, L5, L6, L7, L8, L9, L10, L11, L12, L13, L14, L15, L16, L17, L18, L19, L20, L21, L22, L23, L24, L25, L26, L27, L28, L29, L30, L31, L32, L47, L48, L50, L51, L57, L59, L90, L97, L100, L120, L122, L127, L179, L187, L199, L200, L487, L974, L1000, L1461, L10000, L18498, L1000000, nI_add, pk_mul, nI_cl, nI_lts, nI_les, nI_eqs, Ln1, n1_ne, n1_ne', n1_lts, nI_ltn, n1_les, nI_len, bd_s, lt_d, gd_n, w3, if_neg hT, if_true, xat, xca, bI_t, i10, if_false, a1, Nat.one_ne_zero]
      · have e1 : (if l0 < l + 1 then fO h l0 (fq F k) F else F) = (if l0 < l then fO h l0 (fq F k) F else F) := by
          by_cases g : l0 < l
          · rw [if_pos g, if_pos (by omega)]
          · rw [if_neg g, if_neg (by omega)]
        have hFG : FI B T (if l0 < l then fO h l0 (fq F k) F else F) := by
          split
          · exact hF.oO hh hl0
          · exact hF
        rw [e1]
        generalize (if l0 < l then fO h l0 (fq F k) F else F) = G at *
        have hW3 : WT B T (M'.1 129) := by rw [k2.2.2.1]; exact hFG.1
        have w3 := hW3.2.2.2.1
        have xat := x_isAt hW3 hl hb8
        have xca := x_carries (m := M') hl16
        refine ⟨(nI (fn G), nI z', nI (fu G), nI (l + 1), M'), ?_, z', M', rfl, k2⟩
        unfold b_X12_send_200
        cases hq : (decide (lx (M'.1 129) l = fq F k) || decide (ly (M'.1 129) l = fq F k))
        · rw [hq] at xat
          simp (disch := omega) only [L0, L1, L2, L3, L4, L5, L6, L7, L8, L9, L10, L11, L12, L13, L14, L15, L16, L17, L18, L19, L20, L21, L22, L23, L24, L25, L26, L27, L28, L29, L30, L31, L32, L47, L48, L50, L51, L57, L59, L90, L97, L100, L120, L122, L127, L179, L187, L199, L200, L487, L974, L1000, L1461, L10000, L18498, L1000000, nI_add, pk_mul, nI_cl, nI_lts, nI_les, nI_eqs, Ln1, n1_ne, n1_ne', n1_lts, nI_ltn, n1_les, nI_len, bd_s, lt_d, gd_n, w3, if_neg hT, if_true, xat, bI_f]
        · rw [hq] at xat
          cases hq2 : ca (M'.1 129) l
          · rw [hq2] at xca
            simp (disch := omega) only [L0, L1, L2, L3, L4, L5, L6, L7, L8, L9, L10, L11, L12, L13, L14, L15, L16, L17, L18, L19, L20, L21, L22, L23, L24, L25, L26, L27, L28, L29, L30, L31, L32, L47, L48, L50, L51, L57, L59, L90, L97, L100, L120, L122, L127, L179, L187, L199, L200, L487, L974, L1000, L1461, L10000, L18498, L1000000, nI_add, pk_mul, nI_cl, nI_lts, nI_les, nI_eqs, Ln1, n1_ne, n1_ne', n1_lts, nI_ltn, n1_les, nI_len, bd_s, lt_d, gd_n, w3, if_neg hT, if_true, xat, xca, bI_t, bI_f, i10, if_false, Nat.one_ne_zero]
          · rw [hq2] at xca
            simp (disch := omega) only [L0, L1, L2, L3, L4, L5, L6, L7, L8, L9, L10, L11, L12, L13, L14, L15, L16, L17, L18, L19, L20, L21, L22, L23, L24, L25, L26, L27, L28, L29, L30, L31, L32, L47, L48, L50, L51, L57, L59, L90, L97, L100, L120, L122, L127, L179, L187, L199, L200, L487, L974, L1000, L1461, L10000, L18498, L1000000, nI_add, pk_mul, nI_cl, nI_lts, nI_les, nI_eqs, Ln1, n1_ne, n1_ne', n1_lts, nI_ltn, n1_les, nI_len, bd_s, lt_d, gd_n, w3, if_neg hT, if_true, xat, xca, bI_t, i10, if_false, if_neg hll, Nat.one_ne_zero]) (fun s hP => by
      obtain ⟨z', M', rfl, k2⟩ := hP
      rw [if_pos hl0] at k2
      rw [if_pos hl0]
      have w3 : M'.1 129 5 = nI T := by rw [k2.2.2.1]; exact (hF.oO hh hl0).1.2.2.2.1
      refine ⟨_, ?_, z', M', rfl, k2⟩
      unfold b_X12_send_200
      simp (disch := omega) only [L0, L1, L2, L3, L4, L5, L6, L7, L8, L9, L10, L11, L12, L13, L14, L15, L16, L17, L18, L19, L20, L21, L22, L23, L24, L25, L26, L27, L28, L29, L30, L31, L32, L47, L48, L50, L51, L57, L59, L90, L97, L100, L120, L122, L127, L179, L187, L199, L200, L487, L974, L1000, L1461, L10000, L18498, L1000000, nI_add, pk_mul, nI_cl, nI_lts, nI_les, nI_eqs, Ln1, n1_ne, n1_ne', n1_lts, nI_ltn, n1_les, nI_len, bd_s, lt_d, gd_n, w3, if_true, Nat.le_refl]) (by omega)
  exact ⟨z', M', by rw [ht, k1], k2⟩
theorem lo_one {σ τ : Type} {b : σ → Option (σ ⊕ τ)} {N : Nat} {s : σ} {t : τ} (hN : 0 < N) (h : b s = some (.inr t)) : lo b N s = some t := by
  obtain ⟨K, rfl⟩ : ∃ z, N = z + 1 := ⟨N - 1, by omega⟩
  unfold lo
  rw [h]
theorem x_here {v1 v2 v6 v7 v8 v9 v10 a c d : Int32} (w3 : M.1 129 5 = nI T) (hT : T ≤ 16) : lo (b_X12_send_200 v1 v2 v6 v7 v8 v9 v10 (nI 1)) 2048 (a, c, d, nI 0, M) = some (a, c, d, nI 0, M) := by
  refine lo_one (by decide) ?_
  unfold b_X12_send_200
  by_cases h0 : T ≤ 0
  · simp (disch := omega) only [L0, L1, L2, L3, L4, L5, L6, L7, L8, L9, L10, L11, L12, L13, L14, L15, L16, L17, L18, L19, L20, L21, L22, L23, L24, L25, L26, L27, L28, L29, L30, L31, L32, L47, L48, L50, L51, L57, L59, L90, L97, L100, L120, L122, L127, L179, L187, L199, L200, L487, L974, L1000, L1461, L10000, L18498, L1000000, nI_add, pk_mul, nI_cl, nI_lts, nI_les, nI_eqs, Ln1, n1_ne, n1_ne', n1_lts, nI_ltn, n1_les, nI_len, bd_s, lt_d, gd_n, w3, if_pos h0]
  · simp (disch := omega) only [L0, L1, L2, L3, L4, L5, L6, L7, L8, L9, L10, L11, L12, L13, L14, L15, L16, L17, L18, L19, L20, L21, L22, L23, L24, L25, L26, L27, L28, L29, L30, L31, L32, L47, L48, L50, L51, L57, L59, L90, L97, L100, L120, L122, L127, L179, L187, L199, L200, L487, L974, L1000, L1461, L10000, L18498, L1000000, nI_add, pk_mul, nI_cl, nI_lts, nI_les, nI_eqs, Ln1, n1_ne, n1_ne', n1_lts, nI_ltn, n1_les, nI_len, bd_s, lt_d, gd_n, w3, if_neg h0, i10, if_false, Nat.one_ne_zero]
theorem fd_O : fd (fO h l b F) = fd F := by
  unfold fO
  by_cases hg : fg (fU F) (oth F.1 l b) = true
  · rw [fRc_y hg]; rfl
  · rw [fRc_n (bf_of hg)]; rfl
theorem fd_Fl (n : Nat) : fd (fFl h k n F) = fd F := by
  induction n with
  | zero => rfl
  | succ n ih =>
    show fd (fL h k n (fFl h k n F)) = fd F
    unfold fL
    split
    · rw [fd_O]; exact ih
    · exact ih
theorem x_158 {kn : Int32} (hF : FI B T F) (hM : MS M0 F z M) (hk : k < fn F) (hh : h < 8) (hto : to < 8) (hkn : kn = ev1 F.1 (fq F k) to) : ∃ z' M', j_X12_send_158 (nI h) (nI to) (nI (fn F)) (nI z) (nI (fu F)) (ansF F) (nI k) (nI (fq F k)) kn (bI (alB T F k to)) M = some (.inl (nI (fn (fV T h to k F)), nI z', nI (fu (fV T h to k F)), ansF (fV T h to k F), nI (k + 1), M')) ∧ MS M0 (fV T h to k F) z' M' := by
  have w4 := hF.1.2.2.2.2.1
  have hm3 := hM.2.2.1
  have w3 : M.1 129 5 = nI T := by rw [hm3]; exact hF.1.2.2.2.1
  unfold j_X12_send_158 j_X12_send_180 j_X12_send_195 fV
  by_cases hhere : F.1 (179 + to) = nI (fq F k)
  · rw [if_pos hhere]
    refine ⟨z, M, ?_, hM⟩
    have hx := x_here (M := M) (T := T) (v1 := nI h) (v2 := nI to) (v6 := nI 1000) (v7 := nI k) (v8 := nI (fq F k)) (v9 := kn) (v10 := bI (alB T F k to)) (a := nI (fn F)) (c := nI z) (d := nI (fu F)) w3 w4
    simp (disch := omega) only [L0, L1, L2, L3, L4, L5, L6, L7, L8, L9, L10, L11, L12, L13, L14, L15, L16, L17, L18, L19, L20, L21, L22, L23, L24, L25, L26, L27, L28, L29, L30, L31, L32, L47, L48, L50, L51, L57, L59, L90, L97, L100, L120, L122, L127, L179, L187, L199, L200, L487, L974, L1000, L1461, L10000, L18498, L1000000, nI_add, nI_cl, bd_s, lt_d, gd_n, hm3, hhere, if_true, i10, if_false, hx]
    rfl
  · rw [if_neg hhere]
    by_cases hal : alB T F k to = true
    · rw [hal, if_pos (show true = true from rfl)]
      obtain ⟨l0, q1, q2, q3, q4, q5⟩ := alB_of hal
      rw [q3]
      have hb8 : fq F k < 8 := by have := (hF.2.2.2.1 k hk).1; have := hF.1.2.2.1; omega
      have hat : lx F.1 l0 = fq F k ∨ ly F.1 l0 = fq F k := by
        rcases ev_cases hF.1 hb8 hto with he | he | ⟨l, hl, he, het⟩
        · rw [he, n1_ne (by omega)] at q2; exact q2.elim
        · rw [he, nI_eqs (by omega) (by omega)] at q2; omega
        · rw [he, nI_eqs (by omega) (by omega)] at q2
          rw [← q2]; exact het
      obtain ⟨z', M', a1, a2⟩ := x_alone (v2 := nI to) (v6 := ansF F) hF hM hk hh q1 hat q4
      refine ⟨z', M', ?_, a2⟩
      have ea : ansF (fO h l0 (fq F k) F) = ansF F := by unfold ansF; rw [fd_O]
      rw [ea]
      rw [hkn, q2, bI_t]
      simp (disch := omega) only [L0, L1, L2, L3, L4, L5, L6, L7, L8, L9, L10, L11, L12, L13, L14, L15, L16, L17, L18, L19, L20, L21, L22, L23, L24, L25, L26, L27, L28, L29, L30, L31, L32, L47, L48, L50, L51, L57, L59, L90, L97, L100, L120, L122, L127, L179, L187, L199, L200, L487, L974, L1000, L1461, L10000, L18498, L1000000, nI_add, nI_cl, bd_s, lt_d, gd_n, hm3, hhere, if_true, if_false, a1]
    · have hal' := bf_of hal
      rw [hal', if_neg (show ¬ false = true by decide), bI_f]
      obtain ⟨z', M', a1, a2⟩ := x_flood (v2 := nI to) (v6 := ansF F) (v9 := kn) hF hM hk hh
      refine ⟨z', M', ?_, a2⟩
      have ea : ansF (fFl h k T F) = ansF F := by unfold ansF; rw [fd_Fl]
      rw [ea]
      simp (disch := omega) only [L0, L1, L2, L3, L4, L5, L6, L7, L8, L9, L10, L11, L12, L13, L14, L15, L16, L17, L18, L19, L20, L21, L22, L23, L24, L25, L26, L27, L28, L29, L30, L31, L32, L47, L48, L50, L51, L57, L59, L90, L97, L100, L120, L122, L127, L179, L187, L199, L200, L487, L974, L1000, L1461, L10000, L18498, L1000000, nI_add, nI_cl, bd_s, lt_d, gd_n, hm3, hhere, if_true, if_false, a1]
theorem x_96 (hF : FI B T F) (hM : MS M0 F z M) (hk : k < fn F) (hh : h < 8) (hto : to < 8) : ∃ z' M', b_X12_send_96 (nI h) (nI to) (nI (fn F), nI z, nI (fu F), ansF F, nI k, M) = some (.inl (nI (fn (fV T h to k F)), nI z', nI (fu (fV T h to k F)), ansF (fV T h to k F), nI (k + 1), M')) ∧ MS M0 (fV T h to k F) z' M' := by
  have w4 := hF.1.2.2.2.2.1
  have hB8 := hF.1.2.2.1
  have hn8 := hF.2.2.1
  have hb8 : fq F k < 8 := by have := (hF.2.2.2.1 k hk).1; omega
  have hm3 := hM.2.2.1
  have r134 := hM.2.2.2.1 k hk
  have r135 := hM.2.2.2.2.1 k hk
  have xe := x_entryOf (m := M) hb8 hto
  rw [hm3] at xe
  obtain ⟨z', M', a1, a2⟩ := x_158 hF hM hk hh hto rfl
  refine ⟨z', M', ?_, a2⟩
  have hnk : ¬ fn F ≤ k := by omega
  unfold b_X12_send_96 j_X12_send_157
  rcases ev_cases hF.1 hb8 hto with he | he | ⟨l, hl, he, het⟩
  · have hal : alB T F k to = false := by
      unfold alB
      rw [he, decide_eq_false (fun g => absurd g.1 (by rw [n1_ne (by decide)]; exact fun h => h))]; rfl
    rw [hal, bI_f, he] at a1
    rw [he] at xe
    simp (disch := omega) only [L0, L1, L2, L3, L4, L5, L6, L7, L8, L9, L10, L11, L12, L13, L14, L15, L16, L17, L18, L19, L20, L21, L22, L23, L24, L25, L26, L27, L28, L29, L30, L31, L32, L47, L48, L50, L51, L57, L59, L90, L97, L100, L120, L122, L127, L179, L187, L199, L200, L487, L974, L1000, L1461, L10000, L18498, L1000000, nI_add, pk_mul, nI_cl, nI_lts, nI_les, nI_eqs, Ln1, n1_ne, n1_ne', n1_lts, nI_ltn, n1_les, nI_len, bd_s, lt_d, gd_n, if_neg hnk, r134, xe, if_true, a1]
  · have hal : alB T F k to = false := by
      unfold alB
      rw [he, decide_eq_false (fun g => absurd g.2 (by rw [nv_100]; omega))]; rfl
    rw [hal, bI_f, he] at a1
    rw [he] at xe
    simp (disch := omega) only [L0, L1, L2, L3, L4, L5, L6, L7, L8, L9, L10, L11, L12, L13, L14, L15, L16, L17, L18, L19, L20, L21, L22, L23, L24, L25, L26, L27, L28, L29, L30, L31, L32, L47, L48, L50, L51, L57, L59, L90, L97, L100, L120, L122, L127, L179, L187, L199, L200, L487, L974, L1000, L1461, L10000, L18498, L1000000, nI_add, pk_mul, nI_cl, nI_lts, nI_les, nI_eqs, Ln1, n1_ne, n1_ne', n1_lts, nI_ltn, n1_les, nI_len, bd_s, lt_d, gd_n, if_neg hnk, r134, xe, Nat.not_lt_zero, if_false, if_true, Nat.le_refl, a1]
  · have hnv : nv (nI l) = l := nv_n (by omega)
    have hl16 : l < 16 := by omega
    have n1' : ¬ 100 ≤ l := by omega
    have eal : alB T F k to = (ca F.1 l && !decide (l = fw F k)) := by
      unfold alB
      rw [he, hnv, decide_eq_true ⟨rfl, hl⟩]; rfl
    have xca := x_carries (m := M) hl16
    have hcb := cbm_eq hF hl16 hk
    rw [hm3] at xca
    rw [eal, he] at a1
    rw [he] at xe
    by_cases hca : ca F.1 l = true
    · rw [hca] at xca a1
      by_cases hlw : l = fw F k
      · rw [decide_eq_true hlw] at a1
        have a1' : j_X12_send_158 (nI h) (nI to) (nI (fn F)) (nI z) (nI (fu F)) (ansF F) (nI k) (nI (fq F k)) (nI l) (nI 0) M = _ := a1
        simp (disch := omega) only [L0, L1, L2, L3, L4, L5, L6, L7, L8, L9, L10, L11, L12, L13, L14, L15, L16, L17, L18, L19, L20, L21, L22, L23, L24, L25, L26, L27, L28, L29, L30, L31, L32, L47, L48, L50, L51, L57, L59, L90, L97, L100, L120, L122, L127, L179, L187, L199, L200, L487, L974, L1000, L1461, L10000, L18498, L1000000, nI_add, pk_mul, nI_cl, nI_lts, nI_les, nI_eqs, Ln1, n1_ne, n1_ne', n1_lts, nI_ltn, n1_les, nI_len, bd_s, lt_d, gd_n, if_neg hnk, r134, xe, Nat.not_lt_zero, if_false, if_neg n1', xca, bI_t, i10, r135, hcb, if_pos hlw, a1', Nat.one_ne_zero]
      · rw [decide_eq_false hlw] at a1
        have a1' : j_X12_send_158 (nI h) (nI to) (nI (fn F)) (nI z) (nI (fu F)) (ansF F) (nI k) (nI (fq F k)) (nI l) (nI 1) M = _ := a1
        simp (disch := omega) only [L0, L1, L2, L3, L4, L5, L6, L7, L8, L9, L10, L11, L12, L13, L14, L15, L16, L17, L18, L19, L20, L21, L22, L23, L24, L25, L26, L27, L28, L29, L30, L31, L32, L47, L48, L50, L51, L57, L59, L90, L97, L100, L120, L122, L127, L179, L187, L199, L200, L487, L974, L1000, L1461, L10000, L18498, L1000000, nI_add, pk_mul, nI_cl, nI_lts, nI_les, nI_eqs, Ln1, n1_ne, n1_ne', n1_lts, nI_ltn, n1_les, nI_len, bd_s, lt_d, gd_n, if_neg hnk, r134, xe, Nat.not_lt_zero, if_false, if_neg n1', xca, bI_t, i10, r135, hcb, if_neg hlw, a1', Nat.one_ne_zero]
    · have hca := bf_of hca
      rw [hca] at xca a1
      have a1' : j_X12_send_158 (nI h) (nI to) (nI (fn F)) (nI z) (nI (fu F)) (ansF F) (nI k) (nI (fq F k)) (nI l) (nI 0) M = _ := a1
      simp (disch := omega) only [L0, L1, L2, L3, L4, L5, L6, L7, L8, L9, L10, L11, L12, L13, L14, L15, L16, L17, L18, L19, L20, L21, L22, L23, L24, L25, L26, L27, L28, L29, L30, L31, L32, L47, L48, L50, L51, L57, L59, L90, L97, L100, L120, L122, L127, L179, L187, L199, L200, L487, L974, L1000, L1461, L10000, L18498, L1000000, nI_add, pk_mul, nI_cl, nI_lts, nI_les, nI_eqs, Ln1, n1_ne, n1_ne', n1_lts, nI_ltn, n1_les, nI_len, bd_s, lt_d, gd_n, if_neg hnk, r134, xe, Nat.not_lt_zero, if_false, if_neg n1', xca, bI_f, if_true, a1']
theorem x_sendLoop (hF : FI B T F) (hM : MS M0 F z M) (hh : h < 8) (hto : to < 8) : ∃ j z' M', lo (b_X12_send_96 (nI h) (nI to)) 2048 (nI (fn F), nI z, nI (fu F), ansF F, nI 0, M) = some (nI (fn (fK T h to 8 F)), nI z', nI (fu (fK T h to 8 F)), ansF (fK T h to 8 F), nI j, M') ∧ MS M0 (fK T h to 8 F) z' M' := by
  obtain ⟨t, ht, j, z', M', k1, k2⟩ := lo_rex (b := b_X12_send_96 (nI h) (nI to)) (s0 := (nI (fn F), nI z, nI (fu F), ansF F, nI 0, M)) (N := 2048) (n := 8)
    (P := fun k s => ∃ z' M', s = (nI (fn (fK T h to k F)), nI z', nI (fu (fK T h to k F)), ansF (fK T h to k F), nI k, M') ∧ MS M0 (fK T h to k F) z' M')
    (Q := fun t => ∃ j z' M', t = (nI (fn (fK T h to 8 F)), nI z', nI (fu (fK T h to 8 F)), ansF (fK T h to 8 F), nI j, M') ∧ MS M0 (fK T h to 8 F) z' M')
    ⟨z, M, rfl, hM⟩ (fun k s hk hP => by
      obtain ⟨z', M', rfl, k2⟩ := hP
      have hFk := hF.oK (to := to) hh k
      have hn8 := hFk.2.2.1
      by_cases hkn : k < fn (fK T h to k F)
      · refine Or.inl ?_
        obtain ⟨z2, M2, a1, a2⟩ := x_96 hFk k2 hkn hh hto
        refine ⟨_, a1, z2, M2, ?_⟩
        show _ = (nI (fn (if k < fn (fK T h to k F) then fV T h to k (fK T h to k F) else fK T h to k F)), nI z2, nI (fu (if k < fn (fK T h to k F) then fV T h to k (fK T h to k F) else fK T h to k F)), ansF (if k < fn (fK T h to k F) then fV T h to k (fK T h to k F) else fK T h to k F), nI (k + 1), M2) ∧ MS M0 (if k < fn (fK T h to k F) then fV T h to k (fK T h to k F) else fK T h to k F) z2 M2
        rw [if_pos hkn]
        exact ⟨rfl, a2⟩
      · refine Or.inr ⟨_, ?_, k, z', M', rfl, ?_⟩
        · have hnk : fn (fK T h to k F) ≤ k := by omega
          have := fK_end (T := T) (h := h) (to := to) (j := k) (F := F) (by omega) (8 - k)
          rw [show k + (8 - k) = 8 by omega] at this
          rw [this]
          unfold b_X12_send_96
          simp (disch := omega) only [L0, L1, L2, L3, L4, L5, L6, L7, L8, L9, L10, L11, L12, L13, L14, L15, L16, L17, L18, L19, L20, L21, L22, L23, L24, L25, L26, L27, L28, L29, L30, L31, L32, L47, L48, L50, L51, L57, L59, L90, L97, L100, L120, L122, L127, L179, L187, L199, L200, L487, L974, L1000, L1461, L10000, L18498, L1000000, nI_add, pk_mul, nI_cl, nI_lts, nI_les, nI_eqs, Ln1, n1_ne, n1_ne', n1_lts, nI_ltn, n1_les, nI_len, bd_s, lt_d, gd_n, if_pos hnk]
        · have := fK_end (T := T) (h := h) (to := to) (j := k) (F := F) (by omega) (8 - k)
          rw [show k + (8 - k) = 8 by omega] at this
          rw [this]
          exact k2) (fun s hP => by
      obtain ⟨z', M', rfl, k2⟩ := hP
      have hn8 := (hF.oK (to := to) hh 8).2.2.1
      refine ⟨_, ?_, 8, z', M', rfl, k2⟩
      unfold b_X12_send_96
      simp (disch := omega) only [L0, L1, L2, L3, L4, L5, L6, L7, L8, L9, L10, L11, L12, L13, L14, L15, L16, L17, L18, L19, L20, L21, L22, L23, L24, L25, L26, L27, L28, L29, L30, L31, L32, L47, L48, L50, L51, L57, L59, L90, L97, L100, L120, L122, L127, L179, L187, L199, L200, L487, L974, L1000, L1461, L10000, L18498, L1000000, nI_add, pk_mul, nI_cl, nI_lts, nI_les, nI_eqs, Ln1, n1_ne, n1_ne', n1_lts, nI_ltn, n1_les, nI_len, bd_s, lt_d, gd_n, if_pos hn8]) (by decide)
  exact ⟨j, z', M', by rw [ht, k1], k2⟩
theorem op_send (hI : Inv m) (v1 v2 : Int32) : OPv (f_X11_send v1 v2) (f_X12_send v1 v2) cdIA m := by
  obtain ⟨⟨B, T, hW⟩, hR, -⟩ := id hI
  have hB8 := hW.2.2.1
  by_cases h1 : v1 < nI 0 ∨ nI 7 < v1
  · refine op_th hI (e := 0) (c := nI 1) (b := nI 0) ?_ rfl (by decide) ?_
    · unfold f_X11_send
      simp (disch := omega) only [L0, L1, L2, L3, L4, L5, L6, L7, L8, L9, L10, L11, L12, L13, L14, L15, L16, L17, L18, L19, L20, L21, L22, L23, L24, L25, L26, L27, L28, L29, L30, L31, L32, L47, L48, L50, L51, L57, L59, L90, L97, L100, L120, L122, L127, L179, L187, L199, L200, L487, L974, L1000, L1461, L10000, L18498, L1000000, bd_s, lt_d, gd_n, y_out_y h1, i10, if_false]
    · unfold f_X12_send j_X12_send_14
      simp (disch := omega) only [L0, L1, L2, L3, L4, L5, L6, L7, L8, L9, L10, L11, L12, L13, L14, L15, L16, L17, L18, L19, L20, L21, L22, L23, L24, L25, L26, L27, L28, L29, L30, L31, L32, L47, L48, L50, L51, L57, L59, L90, L97, L100, L120, L122, L127, L179, L187, L199, L200, L487, L974, L1000, L1461, L10000, L18498, L1000000, bd_s, lt_d, gd_n, x_isHost_n h1, if_true, x_fails]
  · obtain ⟨h, -, hh, rfl⟩ := (rng v1 0 7 (by decide) (by decide)).resolve_right h1
    by_cases h2 : v2 < nI 0 ∨ nI 7 < v2
    · refine op_th hI (e := 0) (c := nI 1) (b := nI 0) ?_ rfl (by decide) ?_
      · unfold f_X11_send
        simp (disch := omega) only [L0, L1, L2, L3, L4, L5, L6, L7, L8, L9, L10, L11, L12, L13, L14, L15, L16, L17, L18, L19, L20, L21, L22, L23, L24, L25, L26, L27, L28, L29, L30, L31, L32, L47, L48, L50, L51, L57, L59, L90, L97, L100, L120, L122, L127, L179, L187, L199, L200, L487, L974, L1000, L1461, L10000, L18498, L1000000, bd_s, lt_d, gd_n, y_out_n, y_out_y h2, i10, if_false, if_true]
      · unfold f_X12_send j_X12_send_14
        simp (disch := omega) only [L0, L1, L2, L3, L4, L5, L6, L7, L8, L9, L10, L11, L12, L13, L14, L15, L16, L17, L18, L19, L20, L21, L22, L23, L24, L25, L26, L27, L28, L29, L30, L31, L32, L47, L48, L50, L51, L57, L59, L90, L97, L100, L120, L122, L127, L179, L187, L199, L200, L487, L974, L1000, L1461, L10000, L18498, L1000000, bd_s, lt_d, gd_n, x_isHost_y, x_isHost_n h2, i10, if_false, if_true, x_fails]
    · obtain ⟨to, -, hto, rfl⟩ := (rng v2 0 7 (by decide) (by decide)).resolve_right h2
      by_cases heq : h = to
      · refine op_th hI (e := 1) (c := nI 2) (b := nI 0) ?_ rfl (by decide) ?_
        · unfold f_X11_send
          simp (disch := omega) only [L0, L1, L2, L3, L4, L5, L6, L7, L8, L9, L10, L11, L12, L13, L14, L15, L16, L17, L18, L19, L20, L21, L22, L23, L24, L25, L26, L27, L28, L29, L30, L31, L32, L47, L48, L50, L51, L57, L59, L90, L97, L100, L120, L122, L127, L179, L187, L199, L200, L487, L974, L1000, L1461, L10000, L18498, L1000000, nI_add, pk_mul, nI_cl, nI_lts, nI_les, nI_eqs, Ln1, n1_ne, n1_ne', n1_lts, nI_ltn, n1_les, nI_len, bd_s, lt_d, gd_n, y_out_n, heq, if_true]
        · unfold f_X12_send
          simp (disch := omega) only [L0, L1, L2, L3, L4, L5, L6, L7, L8, L9, L10, L11, L12, L13, L14, L15, L16, L17, L18, L19, L20, L21, L22, L23, L24, L25, L26, L27, L28, L29, L30, L31, L32, L47, L48, L50, L51, L57, L59, L90, L97, L100, L120, L122, L127, L179, L187, L199, L200, L487, L974, L1000, L1461, L10000, L18498, L1000000, nI_add, pk_mul, nI_cl, nI_lts, nI_les, nI_eqs, Ln1, n1_ne, n1_ne', n1_lts, nI_ltn, n1_les, nI_len, bd_s, lt_d, gd_n, x_isHost_y, i10, if_false, heq, if_true, x_fails, Nat.one_ne_zero]
      · have hh8 : h < 8 := by omega
        have hto8 : to < 8 := by omega
        obtain ⟨b, hbB, hb⟩ := hW.2.2.2.2.2.2.2.2.1 h hh8
        have hb8 : b < 8 := by omega
        have hF1 := FI_1 hW hbB hh8
        have hFK := hF1.oK (to := to) hh8 8
        refine op_mut (v := nI (fu (fK T h to 8 (fF1 (m.1 129) b h))) + ansF (fK T h to 8 (fF1 (m.1 129) b h))) (S' := sFin (fK T h to 8 (fF1 (m.1 129) b h))) hI ⟨B, T, ?_⟩ (fun ms e1 e2 => ?_) (fun M hM => ?_)
        · refine hFK.1.cg (fun i hi => ?_)
          unfold wx at hi
          unfold sFin
          rw [upd_n (by omega), upd_n (by omega), upd_n (by omega)]
        · obtain ⟨m1, a1, a2⟩ := y_carry hW e2 hh8 hto8 hb hbB
          refine ⟨m1, ?_, a2⟩
          unfold f_X11_send
          simp (disch := omega) only [L0, L1, L2, L3, L4, L5, L6, L7, L8, L9, L10, L11, L12, L13, L14, L15, L16, L17, L18, L19, L20, L21, L22, L23, L24, L25, L26, L27, L28, L29, L30, L31, L32, L47, L48, L50, L51, L57, L59, L90, L97, L100, L120, L122, L127, L179, L187, L199, L200, L487, L974, L1000, L1461, L10000, L18498, L1000000, nI_add, pk_mul, nI_cl, nI_lts, nI_les, nI_eqs, Ln1, n1_ne, n1_ne', n1_lts, nI_ltn, n1_les, nI_len, bd_s, lt_d, gd_n, y_out_n, heq, if_true, if_false, e1, a1]
        · have hMS : MS (sR M 131 (mx 487 (m.1 129) (M.1 131))) (fF1 (m.1 129) b h) (2 ^ b) (sR (sR (sR (sR M 131 (mx 487 (m.1 129) (M.1 131))) 134 (upd (M.1 134) 0 (nI b))) 135 (upd (M.1 135) 0 n1)) 129 (lrn b h (nI 100) (m.1 129))) := by
            unfold fF1
            rw [fRc_n rfl]
            refine ⟨p2_lt b hb8, fun x hx => ?_, sR_get, fun i hi => ?_, fun i hi => ?_, fun r h1 h2 h3 => ?_, rfl⟩
            · show _ = (false || decide (x = b))
              rw [Nat.testBit_two_pow, decide_eq_decide.mpr (eq_comm (a := b) (b := x))]; rfl
            · obtain rfl : i = 0 := Nat.lt_one_iff.mp hi
              rw [sR_ne (by decide), sR_ne (by decide), sR_get, upd_e]; rfl
            · obtain rfl : i = 0 := Nat.lt_one_iff.mp hi
              rw [sR_ne (by decide), sR_get, upd_e]; rfl
            · rw [sR_ne h1, sR_ne h3, sR_ne h2]
          obtain ⟨j, z', M', a1, a2⟩ := x_sendLoop (to := to) hF1 hMS hh8 hto8
          have a1' : lo (b_X12_send_96 (nI h) (nI to)) 2048 (nI 1, nI (2 ^ b), nI 0, nI 0, nI 0, _) = _ := a1
          generalize fK T h to 8 (fF1 (m.1 129) b h) = G at *
          obtain ⟨-, -, y3, -, -, y6, y7⟩ := a2
          refine ⟨sR M' 129 (sFin G), ⟨sR_get, ?_, ?_, ?_, fun q hq => ?_, ?_⟩, ?_⟩
          · rw [sR_ne (by decide), y6 131 (by decide) (by decide) (by decide), sR_get]
          · rw [sR_ne (by decide), y6 128 (by decide) (by decide) (by decide), sR_ne (by decide)]
          · rw [sR_ne (by decide), y6 128 (by decide) (by decide) (by decide), sR_ne (by decide)]
          · rw [sR_ne (by omega), y6 q (by omega) (by omega) (by omega), sR_ne (by omega)]
          · exact y7
          · have hdv : ansF G / nI 1000 = (if fd G = true then nI 1 else nI 0) := by
              unfold ansF
              by_cases hd : fd G = true
              · rw [if_pos hd, if_pos hd]; rfl
              · rw [if_neg hd, if_neg hd]; rfl
            have e9 : ∀ x : Int32, upd G.1 8 x 9 = G.1 9 := fun x => upd_n (by decide)
            have e10 : ∀ x y : Int32, upd (upd G.1 8 x) 9 y 10 = G.1 10 := fun x y => by rw [upd_n (by decide), upd_n (by decide)]
            unfold f_X12_send
            simp (disch := omega) only [L0, L1, L2, L3, L4, L5, L6, L7, L8, L9, L10, L11, L12, L13, L14, L15, L16, L17, L18, L19, L20, L21, L22, L23, L24, L25, L26, L27, L28, L29, L30, L31, L32, L47, L48, L50, L51, L57, L59, L90, L97, L100, L120, L122, L127, L179, L187, L199, L200, L487, L974, L1000, L1461, L10000, L18498, L1000000, nI_add, pk_mul, nI_cl, nI_lts, nI_les, nI_eqs, Ln1, n1_ne, n1_ne', n1_lts, nI_ltn, n1_les, nI_len, bd_s, lt_d, gd_n, wI_sR, sR_get, sR_sR, sR_ne, x_isHost_y, i10, if_false, heq, x_hold, hM, hb, b_1 b hb8, upd_e, x_learns hb8 hh8, a1', y3, hdv, e9, e10, Nat.one_ne_zero]
            rfl
end PFS
