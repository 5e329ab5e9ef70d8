/-! Frames: the pure way, and the class's. -/
abbrev FT : Type := (Nat → Int32) × (Nat → Nat) × (Nat → Nat) × (Nat → Bool) × Nat × Nat × Bool
def fq (F : FT) : Nat → Nat := F.2.1
def fw (F : FT) : Nat → Nat := F.2.2.1
def fg (F : FT) : Nat → Bool := F.2.2.2.1
def fn (F : FT) : Nat := F.2.2.2.2.1
def fu (F : FT) : Nat := F.2.2.2.2.2.1
def fd (F : FT) : Bool := F.2.2.2.2.2.2
def uN (f : Nat → Nat) (k x : Nat) : Nat → Nat := fun j => if j = k then x else f j
def lrn (o h : Nat) (v : Int32) (S : Nat → Int32) : Nat → Int32 := upd (upd S (51 + 16 * o + 2 * h) v) (51 + 16 * o + 2 * h + 1) (S 1)
/-- the bridge o receives the frame by l -/
def fRc (o l h : Nat) (F : FT) : FT := if fg F o = true then F else (lrn o h (nI l) F.1, uN (fq F) (fn F) o, uN (fw F) (fn F) l, (fun b => fg F b || decide (b = o)), fn F + 1, fu F, fd F)
def fU (F : FT) : FT := (F.1, fq F, fw F, fg F, fn F, fu F + 1, fd F)
def fD (F : FT) : FT := (F.1, fq F, fw F, fg F, fn F, fu F, true)
def oth (S : Nat → Int32) (l b : Nat) : Nat := if lx S l = b then ly S l else lx S l
def fO (h l b : Nat) (F : FT) : FT := fRc (oth F.1 l b) l h (fU F)
def fL (h k l : Nat) (F : FT) : FT := if (ca F.1 l && (decide (lx F.1 l = fq F k) || decide (ly F.1 l = fq F k)) && !decide (l = fw F k)) = true then fO h l (fq F k) F else F
def fFl (h k n : Nat) (F : FT) : FT := it (fun l F => fL h k l F) n F
/-- whether the frame goes on by the known link alone -/
def alB (T : Nat) (F : FT) (k to : Nat) : Bool := decide (ev1 F.1 (fq F k) to = nI (nv (ev1 F.1 (fq F k) to)) ∧ nv (ev1 F.1 (fq F k) to) < T) && (ca F.1 (nv (ev1 F.1 (fq F k) to)) && !decide (nv (ev1 F.1 (fq F k) to) = fw F k))
def fV (T h to k : Nat) (F : FT) : FT := if F.1 (179 + to) = nI (fq F k) then fD F else if alB T F k to = true then fO h (nv (ev1 F.1 (fq F k) to)) (fq F k) F else fFl h k T F
def fK (T h to n : Nat) (F : FT) : FT := it (fun k F => if k < fn F then fV T h to k F else F) n F
def FI (B T : Nat) (F : FT) : Prop := WT B T F.1 ∧ 1 ≤ fn F ∧ fn F ≤ 8 ∧ (∀ i, i < fn F → fq F i < B ∧ fg F (fq F i) = true) ∧ cnt (fg F) 8 = fn F ∧ fw F 0 = 100 ∧ ∀ i, 0 < i → i < fn F → fw F i < T
section PF
variable {m m0 M : me} {S : Nat → Int32} {B T : Nat} {F : FT} {h l o k b : Nat}
theorem fRc_y (hg : fg F o = true) : fRc o l h F = F := if_pos hg
theorem fRc_n (hg : fg F o = false) : fRc o l h F = (lrn o h (nI l) F.1, uN (fq F) (fn F) o, uN (fw F) (fn F) l, (fun b => fg F b || decide (b = o)), fn F + 1, fu F, fd F) := if_neg (by rw [hg]; decide)
theorem bf_of {x : Bool} (h : ¬ x = true) : x = false := by revert h; cases x <;> simp
theorem fRc_keep {i : Nat} (hi : i < fn F) : fq (fRc o l h F) i = fq F i ∧ fw (fRc o l h F) i = fw F i ∧ fn F ≤ fn (fRc o l h F) := by
  by_cases hg : fg F o = true
  · rw [fRc_y hg]; exact ⟨rfl, rfl, Nat.le_refl _⟩
  · rw [fRc_n (bf_of hg)]
    exact ⟨if_neg (by omega), if_neg (by omega), Nat.le_succ _⟩
theorem fO_keep {i : Nat} (hi : i < fn F) : fq (fO h l b F) i = fq F i ∧ fw (fO h l b F) i = fw F i ∧ fn F ≤ fn (fO h l b F) := fRc_keep (F := fU F) hi
theorem WT.learn {v : Int32} (hW : WT B T S) (ho : o < 8) (hh : h < 8) (hv : v = nI 100 ∨ ∃ l, l < T ∧ v = nI l ∧ (lx S l = o ∨ ly S l = o)) : WT B T (lrn o h v S) := by
  have e : ∀ i, i ≠ 51 + 16 * o + 2 * h → i ≠ 51 + 16 * o + 2 * h + 1 → lrn o h v S i = S i := fun i h1 h2 => by unfold lrn; rw [upd_n h2, upd_n h1]
  have hW' := hW
  obtain ⟨g1, g2, g3, g4, g5, g6, g7, g8, g9, g10, g11⟩ := hW
  refine ⟨by rw [e _ (by omega) (by omega)]; exact g1, g2, g3, by rw [e _ (by omega) (by omega)]; exact g4, g5, by rw [e _ (by omega) (by omega)]; exact g6, by rw [e _ (by omega) (by omega)]; exact g7, by rw [e _ (by omega) (by omega)]; exact g8, fun h hh => by rw [e _ (by omega) (by omega)]; exact g9 h hh, fun l hl => ?_, fun c h' hc hh' => ?_⟩
  · obtain ⟨x, y, g⟩ := g10 l hl
    refine ⟨x, y, ?_⟩
    rw [e _ (by omega) (by omega), e _ (by omega) (by omega), e _ (by omega) (by omega), e _ (by omega) (by omega), e _ (by omega) (by omega), e _ (by omega) (by omega), e _ (by omega) (by omega), e _ (by omega) (by omega), e _ (by omega) (by omega), e _ (by omega) (by omega)]
    obtain ⟨k1, k2, k3, k4, k5, k6, k7, k8, k9, k10, k11, k12, k13⟩ := g
    exact ⟨k1, k2, k3, k4, k5, k6, k7, k8, k9, k10, k11, k12, fun t ht => by rw [e _ (by omega) (by omega)]; exact k13 t ht⟩
  · have g := g11 c h' hc hh'
    unfold VI at g ⊢
    by_cases hch : c = o ∧ h' = h
    · obtain ⟨rfl, rfl⟩ := hch
      have ev : lrn c h' v S (51 + 16 * c + 2 * h') = v := by unfold lrn; rw [upd_n (by omega), upd_e]
      rw [ev]
      rcases hv with hv | ⟨l, hl, q1, q2⟩
      · exact Or.inr (Or.inl hv)
      · obtain ⟨r1, r2, -, -⟩ := hW'.ends hl
        refine Or.inr (Or.inr ⟨l, hl, q1, ?_⟩)
        rw [e _ (by omega) (by omega), e _ (by omega) (by omega), r1, r2]
        rcases q2 with q2 | q2
        · exact Or.inl (by rw [q2])
        · exact Or.inr (by rw [q2])
    · rw [e _ (by omega) (by omega)]
      rcases g with g | g | ⟨l, hl, k1, k2⟩
      · exact Or.inl g
      · exact Or.inr (Or.inl g)
      · exact Or.inr (Or.inr ⟨l, hl, k1, by rw [e _ (by omega) (by omega), e _ (by omega) (by omega)]; exact k2⟩)
theorem cnt_lt8 {g : Nat → Bool} (ho : o < 8) (hg : g o = false) : cnt g 8 < 8 := by
  have := cnt_up (p := g) (q := fun _ => true) 8 ho (fun _ _ _ => rfl) hg rfl
  have h2 := cnt_le (fun _ => true) 8
  omega
theorem FI.lt8 (hF : FI B T F) (ho : o < 8) (hg : fg F o = false) : fn F < 8 := by
  have := cnt_lt8 ho hg
  have := hF.2.2.2.2.1
  omega
theorem FI.rc (hF : FI B T F) (ho : o < B) (hh : h < 8) (hl : l < T) (hlo : lx F.1 l = o ∨ ly F.1 l = o) : FI B T (fRc o l h F) := by
  by_cases hg : fg F o = true
  · rw [fRc_y hg]; exact hF
  · have hg := bf_of hg
    rw [fRc_n hg]
    have hB := hF.1.2.2.1
    have hn8 := hF.lt8 (show o < 8 by omega) hg
    obtain ⟨h1, h2, h3, h4, h5, h6, h7⟩ := hF
    refine ⟨h1.learn (by omega) hh (Or.inr ⟨l, hl, rfl, hlo⟩), by show 1 ≤ fn F + 1; omega, by show fn F + 1 ≤ 8; omega, fun i hi => ?_, ?_, ?_, fun i h0 hi => ?_⟩
    · change i < fn F + 1 at hi
      show uN (fq F) (fn F) o i < B ∧ (fg F (uN (fq F) (fn F) o i) || decide (uN (fq F) (fn F) o i = o)) = true
      unfold uN
      by_cases hin : i = fn F
      · rw [if_pos hin]; exact ⟨ho, by rw [decide_eq_true rfl, Bool.or_true]⟩
      · rw [if_neg hin]
        obtain ⟨q1, q2⟩ := h4 i (by omega)
        exact ⟨q1, by rw [q2]; rfl⟩
    · show cnt (fun b => fg F b || decide (b = o)) 8 = fn F + 1
      have := cnt_dn (p := fun b => fg F b || decide (b = o)) (q := fg F) (d := o) 8 (by omega) (fun b hb => by
        show fg F b = (fg F b || decide (b = o))
        rw [decide_eq_false hb, Bool.or_false]) (by show (fg F o || decide (o = o)) = true; rw [decide_eq_true rfl, Bool.or_true]) hg
      omega
    · show uN (fw F) (fn F) l 0 = 100
      unfold uN
      rw [if_neg (by omega)]; exact h6
    · change i < fn F + 1 at hi
      show uN (fw F) (fn F) l i < T
      unfold uN
      by_cases hin : i = fn F
      · rw [if_pos hin]; exact hl
      · rw [if_neg hin]; exact h7 i h0 (by omega)
theorem oth_B (hW : WT B T S) (hl : l < T) : oth S l b < B ∧ (lx S l = oth S l b ∨ ly S l = oth S l b) := by
  obtain ⟨g1, g2⟩ := hW.endB l hl
  unfold oth
  by_cases h : lx S l = b
  · rw [if_pos h]; exact ⟨g2, Or.inr rfl⟩
  · rw [if_neg h]; exact ⟨g1, Or.inl rfl⟩
theorem FI.oO (hF : FI B T F) (hh : h < 8) (hl : l < T) : FI B T (fO h l b F) := by
  obtain ⟨h1, h2⟩ := oth_B (b := b) hF.1 hl
  exact FI.rc (F := fU F) hF h1 hh hl h2
theorem FI.oL (hF : FI B T F) (hh : h < 8) (hl : l < T) : FI B T (fL h k l F) := by
  unfold fL
  split
  · exact hF.oO hh hl
  · exact hF
theorem fL_keep {i : Nat} (hi : i < fn F) : fq (fL h k l F) i = fq F i ∧ fw (fL h k l F) i = fw F i ∧ fn F ≤ fn (fL h k l F) := by
  unfold fL
  split
  · exact fO_keep hi
  · exact ⟨rfl, rfl, Nat.le_refl _⟩
theorem FI.oFl (hF : FI B T F) (hh : h < 8) : ∀ n, n ≤ T → FI B T (fFl h k n F)
  | 0, _ => hF
  | n + 1, hn => (FI.oFl hF hh n (by omega)).oL hh (by omega)
theorem fFl_keep {i : Nat} (hi : i < fn F) : ∀ n, fq (fFl h k n F) i = fq F i ∧ fw (fFl h k n F) i = fw F i ∧ fn F ≤ fn (fFl h k n F)
  | 0 => ⟨rfl, rfl, Nat.le_refl _⟩
  | n + 1 => by
    obtain ⟨h1, h2, h3⟩ := fFl_keep hi n
    obtain ⟨g1, g2, g3⟩ := fL_keep (h := h) (k := k) (l := n) (F := fFl h k n F) (i := i) (by omega)
    exact ⟨g1.trans h1, g2.trans h2, Nat.le_trans h3 g3⟩
theorem alB_of {to : Nat} (h : alB T F k to = true) : ∃ l0, l0 < T ∧ ev1 F.1 (fq F k) to = nI l0 ∧ nv (ev1 F.1 (fq F k) to) = l0 ∧ ca F.1 l0 = true ∧ l0 ≠ fw F k := by
  unfold alB at h
  simp only [Bool.and_eq_true, decide_eq_true_eq, Bool.not_eq_true', decide_eq_false_iff_not] at h
  obtain ⟨⟨h1, h2⟩, h3, h4⟩ := h
  exact ⟨_, h2, h1, rfl, h3, h4⟩
theorem FI.oV {to : Nat} (hF : FI B T F) (hh : h < 8) : FI B T (fV T h to k F) := by
  unfold fV
  split
  · exact hF
  · split
    · rename_i hal
      obtain ⟨l0, q1, q2, q3, -⟩ := alB_of hal
      rw [q3]
      exact hF.oO hh q1
    · exact hF.oFl hh T (Nat.le_refl T)
theorem FI.oK {to : Nat} (hF : FI B T F) (hh : h < 8) : ∀ n, FI B T (fK T h to n F)
  | 0 => hF
  | n + 1 => by
    show FI B T (if n < fn (fK T h to n F) then fV T h to n (fK T h to n F) else fK T h to n F)
    split
    · exact (FI.oK hF hh n).oV hh
    · exact FI.oK hF hh n
theorem fK_end {to j : Nat} (hj : fn (fK T h to j F) ≤ j) : ∀ n, fK T h to (j + n) F = fK T h to j F
  | 0 => rfl
  | n + 1 => by
    show (if j + n < fn (fK T h to (j + n) F) then fV T h to (j + n) (fK T h to (j + n) F) else fK T h to (j + n) F) = _
    rw [fK_end hj n, if_neg (by omega)]
/-- the valid entry is none, the bridge itself, or a link there -/
theorem ev_cases (hW : WT B T S) {to : Nat} (hb : b < 8) (hto : to < 8) : ev1 S b to = n1 ∨ ev1 S b to = nI 100 ∨ ∃ l, l < T ∧ ev1 S b to = nI l ∧ (lx S l = b ∨ ly S l = b) := by
  have hv := hW.2.2.2.2.2.2.2.2.2.2 b to hb hto
  have hB := hW.2.2.1
  unfold ev1
  by_cases h1 : S (51 + 16 * b + 2 * to) = n1
  · rw [if_pos h1]; exact Or.inl rfl
  · rw [if_neg h1]
    by_cases h2 : nI 50 < S 1 - S (51 + 16 * b + 2 * to + 1)
    · rw [if_pos h2]; exact Or.inl rfl
    · rw [if_neg h2]
      unfold VI at hv
      rcases hv with hv | hv | ⟨l, hl, k1, k2⟩
      · exact absurd hv h1
      · exact Or.inr (Or.inl hv)
      · refine Or.inr (Or.inr ⟨l, hl, k1, ?_⟩)
        obtain ⟨r1, r2, r3, r4⟩ := hW.ends hl
        rcases k2 with k2 | k2
        · refine Or.inl ?_
          rw [r1, nI_eqs (by omega) (by omega)] at k2
          exact k2
        · refine Or.inr ?_
          rw [r2, nI_eqs (by omega) (by omega)] at k2
          exact k2
/-- the class's frame -/
def CR (m0 m : me) (F : FT) : Prop := Cl m0 m F.1 ∧ m.1 122 3 = nI (fn F) ∧ m.1 122 4 = nI (fu F) ∧ m.1 122 5 = bI (fd F) ∧ (∀ b, b < 8 → m.1 123 b = bI (fg F b)) ∧ (∀ i, i < fn F → m.1 125 i = nI (fq F i)) ∧ ∀ i, i < fn F → m.1 124 (fq F i) = nI (fw F i)
theorem Cl.sc {q j : Nat} {v : Int32} (hC : Cl m0 m S) (hq : 114 ≤ q ∧ q < 128) : Cl m0 (wI m q j v) S := ⟨hC.1.scr (by omega), hC.2.w (Or.inr hq)⟩
theorem y_receive (hR : CR m0 m F) (ho : o < 8) (hh : h < 8) (hn : fg F o = false → fn F < 8) (hqg : ∀ i, i < fn F → fg F (fq F i) = true) : ∃ m1, f_X2_receive (nI o) (nI l) (nI h) m = some m1 ∧ CR m0 m1 (fRc o l h F) := by
  obtain ⟨c1, c2, c3, c4, c5, c6, c7⟩ := id hR
  by_cases hg : fg F o = true
  · refine ⟨m, ?_, by rw [fRc_y hg]; exact hR⟩
    have e := c5 o ho
    rw [hg, bI_t] at e
    unfold f_X2_receive
    simp (disch := omega) only [L0, L1, L2, L3, L4, L5, L6, L7, L8, L9, L10, L11, L12, L13, L14, L15, L16, L17, L18, L19, L20, L21, L22, L23, L24, L25, L26, L27, L28, L29, L30, L31, L32, L47, L48, L50, L51, L57, L59, L90, L97, L100, L120, L122, L127, L179, L187, L199, L200, L487, L974, L1000, L1461, L10000, L18498, L1000000, nI_add, pk_mul, nI_cl, nI_lts, nI_les, nI_eqs, Ln1, n1_ne, n1_ne', n1_lts, nI_ltn, n1_les, nI_len, bd_s, lt_d, gd_n, e, if_false, Nat.one_ne_zero]
  · have hg := bf_of hg
    have hn8 := hn hg
    rw [fRc_n hg]
    have e := c5 o ho
    rw [hg, bI_f] at e
    have d1 := (((c1.sc (q := 123) (j := o) (v := nI 1) (by omega)).sc (q := 124) (j := o) (v := nI l) (by omega)).sc (q := 125) (j := fn F) (v := nI o) (by omega)).sc (q := 122) (j := 3) (v := nI (fn F + 1)) (by omega)
    have d2 := Cl_learn (v := nI l) (w := F.1 1) d1 ho hh rfl rfl
    refine ⟨_, ?_, d2, ?_, ?_, ?_, fun b hb => ?_, fun i hi => ?_, fun i hi => ?_⟩
    · have e1 : (wI (wI m 123 o (nI 1)) 124 o (nI l)).1 122 3 = nI (fn F) := by
        rw [wI_sR, sR_ne (by decide), wI_sR, sR_ne (by decide)]; exact c2
      have e2 : (wI (wI (wI m 123 o (nI 1)) 124 o (nI l)) 125 (fn F) (nI o)).1 122 3 = nI (fn F) := by
        rw [wI_sR, sR_ne (by decide)]; exact e1
      have e3 := rd_clock d1.1
      have e8 : o * 8 = 8 * o := Nat.mul_comm _ _
      unfold f_X2_receive f_X1_makeEntry
      simp (disch := omega) only [L0, L1, L2, L3, L4, L5, L6, L7, L8, L9, L10, L11, L12, L13, L14, L15, L16, L17, L18, L19, L20, L21, L22, L23, L24, L25, L26, L27, L28, L29, L30, L31, L32, L47, L48, L50, L51, L57, L59, L90, L97, L100, L120, L122, L127, L179, L187, L199, L200, L487, L974, L1000, L1461, L10000, L18498, L1000000, nI_add, pk_mul, nI_cl, nI_lts, nI_les, nI_eqs, Ln1, n1_ne, n1_ne', n1_lts, nI_ltn, n1_les, nI_len, bd_s, lt_d, gd_n, e, c2, if_true, if_pos hn8, e1, e2, e3, e8]
    · simp (disch := decide) only [wI_sR, sR_ne, sR_get, upd_e]; rfl
    · simp (disch := decide) only [wI_sR, sR_ne, sR_get]; rw [upd_n (by decide)]; exact c3
    · simp (disch := decide) only [wI_sR, sR_ne, sR_get]; rw [upd_n (by decide)]; exact c4
    · simp (disch := decide) only [wI_sR, sR_ne, sR_get]
      show upd (m.1 123) o (nI 1) b = bI (fg F b || decide (b = o))
      by_cases hbo : b = o
      · rw [hbo, upd_e, decide_eq_true rfl, Bool.or_true]; rfl
      · rw [upd_n hbo, decide_eq_false hbo, Bool.or_false]; exact c5 b hb
    · change i < fn F + 1 at hi
      simp (disch := decide) only [wI_sR, sR_ne, sR_get]
      show upd (m.1 125) (fn F) (nI o) i = nI (uN (fq F) (fn F) o i)
      unfold uN
      by_cases hin : i = fn F
      · rw [hin, upd_e, if_pos rfl]
      · rw [upd_n hin, if_neg hin]; exact c6 i (by omega)
    · change i < fn F + 1 at hi
      simp (disch := decide) only [wI_sR, sR_ne, sR_get]
      show upd (m.1 124) o (nI l) (uN (fq F) (fn F) o i) = nI (uN (fw F) (fn F) l i)
      unfold uN
      by_cases hin : i = fn F
      · rw [if_pos hin, if_pos hin, upd_e]
      · rw [if_neg hin, if_neg hin]
        have hne : fq F i ≠ o := fun he => by
          have := hqg i (by omega)
          rw [he, hg] at this
          exact absurd this (by decide)
        rw [upd_n hne]; exact c7 i (by omega)
theorem y_sendOn (hF : FI B T F) (hR : CR m0 m F) (hl : l < T) (hb : b < 8) (hh : h < 8) : ∃ m1, f_X2_sendOn (nI b) (nI l) (nI h) m = some m1 ∧ CR m0 m1 (fO h l b F) := by
  have hW := hF.1
  have w3 := hW.2.2.2.1
  have w4 := hW.2.2.2.2.1
  have hB8 := hW.2.2.1
  have hl16 : l < 16 := by omega
  obtain ⟨g1, g2, g3, g4⟩ := hW.ends hl
  obtain ⟨g5, g6⟩ := hW.end8 l hl
  obtain ⟨o1, o2⟩ := oth_B (b := b) hW hl
  obtain ⟨c1, c2, c3, c4, c5, c6, c7⟩ := id hR
  have hR1 : CR m0 (wI m 122 4 (nI (fu F + 1))) (fU F) := by
    refine ⟨c1.sc (by omega), ?_, ?_, ?_, fun b hb => ?_, fun i hi => ?_, fun i hi => ?_⟩
    · rw [wI_sR, sR_get, upd_n (by decide)]; exact c2
    · rw [wI_sR, sR_get, upd_e]; rfl
    · rw [wI_sR, sR_get, upd_n (by decide)]; exact c4
    · rw [wI_sR, sR_ne (by decide)]; exact c5 b hb
    · rw [wI_sR, sR_ne (by decide)]; exact c6 i hi
    · rw [wI_sR, sR_ne (by decide)]; exact c7 i hi
  have r12 := (rd_low hR1.1.1 w3 w4 hl).trans g1
  have r13 := (rd_high hR1.1.1 w3 w4 hl).trans g2
  obtain ⟨m1, a1, a2⟩ := y_receive (o := oth F.1 l b) (l := l) (h := h) hR1 (by omega) hh (fun hg => hF.lt8 (by omega) hg) (fun i hi => (hF.2.2.2.1 i hi).2)
  refine ⟨m1, ?_, a2⟩
  unfold oth at a1
  unfold f_X2_sendOn f_X3_otherEnd
  by_cases hlb : lx F.1 l = b
  · rw [if_pos hlb] at a1
    simp (disch := omega) only [L0, L1, L2, L3, L4, L5, L6, L7, L8, L9, L10, L11, L12, L13, L14, L15, L16, L17, L18, L19, L20, L21, L22, L23, L24, L25, L26, L27, L28, L29, L30, L31, L32, L47, L48, L50, L51, L57, L59, L90, L97, L100, L120, L122, L127, L179, L187, L199, L200, L487, L974, L1000, L1461, L10000, L18498, L1000000, nI_add, pk_mul, nI_cl, nI_lts, nI_les, nI_eqs, Ln1, n1_ne, n1_ne', n1_lts, nI_ltn, n1_les, nI_len, bd_s, lt_d, gd_n, c3, r12, r13, if_pos hlb, a1]
  · rw [if_neg hlb] at a1
    simp (disch := omega) only [L0, L1, L2, L3, L4, L5, L6, L7, L8, L9, L10, L11, L12, L13, L14, L15, L16, L17, L18, L19, L20, L21, L22, L23, L24, L25, L26, L27, L28, L29, L30, L31, L32, L47, L48, L50, L51, L57, L59, L90, L97, L100, L120, L122, L127, L179, L187, L199, L200, L487, L974, L1000, L1461, L10000, L18498, L1000000, nI_add, pk_mul, nI_cl, nI_lts, nI_les, nI_eqs, Ln1, n1_ne, n1_ne', n1_lts, nI_ltn, n1_les, nI_len, bd_s, lt_d, gd_n, c3, r12, r13, if_neg hlb, a1]
theorem y_flood (hF : FI B T F) (hR : CR m0 m F) (hk : k < fn F) (hh : h < 8) : ∃ m1, j_X2_serve_69 (nI (fq F k)) (nI h) m = some m1 ∧ CR m0 m1 (fFl h k T F) := by
  have w4 := hF.1.2.2.2.2.1
  have hB8 := hF.1.2.2.1
  have hb8 : fq F k < 8 := by have := (hF.2.2.2.1 k hk).1; omega
  obtain ⟨t, ht, m1, k1, k2⟩ := lo_rel (b := b_X2_serve_72 (nI (fq F k)) (nI h)) (s0 := (nI 0, m)) (N := 2048) (n := T)
    (P := fun l s => ∃ m1, s = (nI l, m1) ∧ CR m0 m1 (fFl h k l F))
    (Q := fun t => ∃ m1, t = (nI T, m1) ∧ CR m0 m1 (fFl h k T F))
    ⟨m, rfl, hR⟩ (fun l s hl hP => by
      obtain ⟨m1, rfl, k2⟩ := hP
      have hFl := hF.oFl (k := k) hh l (by omega)
      obtain ⟨q1, q2, q3⟩ := fFl_keep (h := h) (k := k) hk l
      show ∃ s', _ ∧ ∃ m1, s' = (nI (l + 1), m1) ∧ CR m0 m1 (fL h k l (fFl h k l F))
      rw [← q1]
      rw [← q1] at hb8
      have hk' : k < fn (fFl h k l F) := by omega
      clear q1 q2 q3
      generalize fFl h k l F = G at *
      have hT : ¬ T ≤ l := by omega
      have hl16 : l < 16 := by omega
      have w3 := hFl.1.2.2.2.1
      obtain ⟨g1, g2, g3, g4⟩ := hFl.1.ends hl
      obtain ⟨g5, g6⟩ := hFl.1.end8 l hl
      have e11 := (rd_total k2.1.1).trans w3
      have r12 := (rd_low k2.1.1 w3 w4 hl).trans g1
      have r13 := (rd_high k2.1.1 w3 w4 hl).trans g2
      have r124 := k2.2.2.2.2.2.2 k hk'
      have hw : fw G k < 2147483648 := by
        by_cases h0 : k = 0
        · rw [h0, hFl.2.2.2.2.2.1]; omega
        · have := hFl.2.2.2.2.2.2 k (by omega) hk'; omega
      unfold b_X2_serve_72 f_X3_touches fL
      by_cases hca : ca G.1 l = true
      · rw [hca]
        by_cases hto : lx G.1 l = fq G k ∨ ly G.1 l = fq G k
        · by_cases hlw : l = fw G k
          · refine ⟨(nI (l + 1), m1), ?_, m1, rfl, ?_⟩
            · rcases hto with ht1 | ht1
              · simp (disch := omega) only [L0, L1, L2, L3, L4, L5, L6, L7, L8, L9, L10, L11, L12, L13, L14, L15, L16, L17, L18, L19, L20, L21, L22, L23, L24, L25, L26, L27, L28, L29, L30, L31, L32, L47, L48, L50, L51, L57, L59, L90, L97, L100, L120, L122, L127, L179, L187, L199, L200, L487, L974, L1000, L1461, L10000, L18498, L1000000, nI_add, pk_mul, nI_cl, nI_lts, nI_les, nI_eqs, Ln1, n1_ne, n1_ne', n1_lts, nI_ltn, n1_les, nI_len, bd_s, lt_d, gd_n, e11, if_neg hT, y_carries hFl.1 k2.1.1 hl, hca, bI_t, i10, if_false, r12, r13, if_pos ht1, r124, if_pos hlw, Nat.one_ne_zero]
              · have ht2 : ¬ lx G.1 l = fq G k := by omega
                simp (disch := omega) only [L0, L1, L2, L3, L4, L5, L6, L7, L8, L9, L10, L11, L12, L13, L14, L15, L16, L17, L18, L19, L20, L21, L22, L23, L24, L25, L26, L27, L28, L29, L30, L31, L32, L47, L48, L50, L51, L57, L59, L90, L97, L100, L120, L122, L127, L179, L187, L199, L200, L487, L974, L1000, L1461, L10000, L18498, L1000000, nI_add, pk_mul, nI_cl, nI_lts, nI_les, nI_eqs, Ln1, n1_ne, n1_ne', n1_lts, nI_ltn, n1_les, nI_len, bd_s, lt_d, gd_n, e11, if_neg hT, y_carries hFl.1 k2.1.1 hl, hca, bI_t, i10, if_false, r12, r13, if_neg ht2, if_pos ht1, r124, if_pos hlw, Nat.one_ne_zero]
            · rw [decide_eq_true hlw, if_neg (by simp)]; exact k2
          · obtain ⟨m2, a1, a2⟩ := y_sendOn hFl k2 hl hb8 hh
            refine ⟨(nI (l + 1), m2), ?_, m2, rfl, ?_⟩
            · rcases hto with ht1 | ht1
              · simp (disch := omega) only [L0, L1, L2, L3, L4, L5, L6, L7, L8, L9, L10, L11, L12, L13, L14, L15, L16, L17, L18, L19, L20, L21, L22, L23, L24, L25, L26, L27, L28, L29, L30, L31, L32, L47, L48, L50, L51, L57, L59, L90, L97, L100, L120, L122, L127, L179, L187, L199, L200, L487, L974, L1000, L1461, L10000, L18498, L1000000, nI_add, pk_mul, nI_cl, nI_lts, nI_les, nI_eqs, Ln1, n1_ne, n1_ne', n1_lts, nI_ltn, n1_les, nI_len, bd_s, lt_d, gd_n, e11, if_neg hT, y_carries hFl.1 k2.1.1 hl, hca, bI_t, i10, if_false, r12, r13, if_pos ht1, r124, if_neg hlw, a1, Nat.one_ne_zero]
              · have ht2 : ¬ lx G.1 l = fq G k := by omega
                simp (disch := omega) only [L0, L1, L2, L3, L4, L5, L6, L7, L8, L9, L10, L11, L12, L13, L14, L15, L16, L17, L18, L19, L20, L21, L22, L23, L24, L25, L26, L27, L28, L29, L30, L31, L32, L47, L48, L50, L51, L57, L59, L90, L97, L100, L120, L122, L127, L179, L187, L199, L200, L487, L974, L1000, L1461, L10000, L18498, L1000000, nI_add, pk_mul, nI_cl, nI_lts, nI_les, nI_eqs, Ln1, n1_ne, n1_ne', n1_lts, nI_ltn, n1_les, nI_len, bd_s, lt_d, gd_n, e11, if_neg hT, y_carries hFl.1 k2.1.1 hl, hca, bI_t, i10, if_false, r12, r13, if_neg ht2, if_pos ht1, r124, if_neg hlw, a1, Nat.one_ne_zero]
            · rw [decide_eq_false hlw, if_pos (by rcases hto with ht1 | ht1 <;> simp [ht1])]; exact a2
        · have t1 : ¬ lx G.1 l = fq G k := fun g => hto (Or.inl g)
          have t2 : ¬ ly G.1 l = fq G k := fun g => hto (Or.inr g)
          refine ⟨(nI (l + 1), m1), ?_, m1, rfl, ?_⟩
          · simp (disch := omega) only [L0, L1, L2, L3, L4, L5, L6, L7, L8, L9, L10, L11, L12, L13, L14, L15, L16, L17, L18, L19, L20, L21, L22, L23, L24, L25, L26, L27, L28, L29, L30, L31, L32, L47, L48, L50, L51, L57, L59, L90, L97, L100, L120, L122, L127, L179, L187, L199, L200, L487, L974, L1000, L1461, L10000, L18498, L1000000, nI_add, pk_mul, nI_cl, nI_lts, nI_les, nI_eqs, Ln1, n1_ne, n1_ne', n1_lts, nI_ltn, n1_les, nI_len, bd_s, lt_d, gd_n, e11, if_neg hT, y_carries hFl.1 k2.1.1 hl, hca, bI_t, i10, if_false, r12, r13, if_neg t1, if_neg t2, if_true, Nat.one_ne_zero]
          · rw [decide_eq_false t1, decide_eq_false t2, if_neg (by simp)]; exact k2
      · have hca := bf_of hca
        refine ⟨(nI (l + 1), m1), ?_, m1, rfl, ?_⟩
        · simp (disch := omega) only [L0, L1, L2, L3, L4, L5, L6, L7, L8, L9, L10, L11, L12, L13, L14, L15, L16, L17, L18, L19, L20, L21, L22, L23, L24, L25, L26, L27, L28, L29, L30, L31, L32, L47, L48, L50, L51, L57, L59, L90, L97, L100, L120, L122, L127, L179, L187, L199, L200, L487, L974, L1000, L1461, L10000, L18498, L1000000, nI_add, pk_mul, nI_cl, nI_lts, nI_les, nI_eqs, Ln1, n1_ne, n1_ne', n1_lts, nI_ltn, n1_les, nI_len, bd_s, lt_d, gd_n, e11, if_neg hT, y_carries hFl.1 k2.1.1 hl, hca, bI_f, if_true]
        · rw [hca, if_neg (by simp)]; exact k2) (fun s hP => by
      obtain ⟨m1, rfl, k2⟩ := hP
      have e11 := (rd_total k2.1.1).trans (hF.oFl (k := k) hh T (Nat.le_refl T)).1.2.2.2.1
      refine ⟨_, ?_, m1, rfl, k2⟩
      unfold b_X2_serve_72
      simp (disch := omega) only [L0, L1, L2, L3, L4, L5, L6, L7, L8, L9, L10, L11, L12, L13, L14, L15, L16, L17, L18, L19, L20, L21, L22, L23, L24, L25, L26, L27, L28, L29, L30, L31, L32, L47, L48, L50, L51, L57, L59, L90, L97, L100, L120, L122, L127, L179, L187, L199, L200, L487, L974, L1000, L1461, L10000, L18498, L1000000, nI_add, pk_mul, nI_cl, nI_lts, nI_les, nI_eqs, Ln1, n1_ne, n1_ne', n1_lts, nI_ltn, n1_les, nI_len, bd_s, lt_d, gd_n, e11, if_true, Nat.le_refl]) (by omega)
  refine ⟨m1, ?_, k2⟩
  unfold j_X2_serve_69
  simp only [L0, ht, k1, bd_s]
theorem nv_100 : nv (nI 100) = 100 := nv_n (by decide)
theorem y_serve {to : Nat} (hF : FI B T F) (hR : CR m0 m F) (hk : k < fn F) (hh : h < 8) (hto : to < 8) : ∃ m1, f_X2_serve (nI (fq F k)) (nI h) (nI to) m = some m1 ∧ CR m0 m1 (fV T h to k F) := by
  have hW := hF.1
  have w3 := hW.2.2.2.1
  have w4 := hW.2.2.2.2.1
  have hB8 := hW.2.2.1
  have hb8 : fq F k < 8 := by have := (hF.2.2.2.1 k hk).1; omega
  obtain ⟨c1, c2, c3, c4, c5, c6, c7⟩ := id hR
  have r8 := rd_host c1.1 hto
  have r1 := rd_clock c1.1
  have rev := y_entryOf c1.1 hb8 hto
  have r124 := c7 k hk
  obtain ⟨m1, a1, a2⟩ := y_flood (h := h) hF hR hk hh
  unfold fV f_X2_serve
  by_cases hhere : F.1 (179 + to) = nI (fq F k)
  · rw [if_pos hhere]
    refine ⟨wI m 122 5 (nI 1), ?_, c1.sc (by omega), ?_, ?_, ?_, fun b hb => ?_, fun i hi => ?_, fun i hi => ?_⟩
    · simp (disch := omega) only [L0, L1, L2, L3, L4, L5, L6, L7, L8, L9, L10, L11, L12, L13, L14, L15, L16, L17, L18, L19, L20, L21, L22, L23, L24, L25, L26, L27, L28, L29, L30, L31, L32, L47, L48, L50, L51, L57, L59, L90, L97, L100, L120, L122, L127, L179, L187, L199, L200, L487, L974, L1000, L1461, L10000, L18498, L1000000, nI_add, pk_mul, nI_cl, nI_lts, nI_les, nI_eqs, Ln1, n1_ne, n1_ne', n1_lts, nI_ltn, n1_les, nI_len, bd_s, lt_d, gd_n, r8, hhere, if_true]
    · rw [wI_sR, sR_get, upd_n (by decide)]; exact c2
    · rw [wI_sR, sR_get, upd_n (by decide)]; exact c3
    · rw [wI_sR, sR_get, upd_e]; rfl
    · rw [wI_sR, sR_ne (by decide)]; exact c5 b hb
    · rw [wI_sR, sR_ne (by decide)]; exact c6 i hi
    · rw [wI_sR, sR_ne (by decide)]; exact c7 i hi
  · rw [if_neg hhere]
    rcases ev_cases hW hb8 hto with he | he | ⟨l, hl, he, het⟩
    · have hal : alB T F k to = false := by
        unfold alB
        rw [he, decide_eq_false (fun g => absurd g.1 (by rw [n1_ne (by decide)]; exact fun h => h))]; rfl
      rw [hal, if_neg (show ¬ false = true by decide)]
      refine ⟨m1, ?_, a2⟩
      have hc := y_carries_n (m := m) (v := n1) hW c1.1 (Or.inl n1_lt)
      simp (disch := omega) only [L0, L1, L2, L3, L4, L5, L6, L7, L8, L9, L10, L11, L12, L13, L14, L15, L16, L17, L18, L19, L20, L21, L22, L23, L24, L25, L26, L27, L28, L29, L30, L31, L32, L47, L48, L50, L51, L57, L59, L90, L97, L100, L120, L122, L127, L179, L187, L199, L200, L487, L974, L1000, L1461, L10000, L18498, L1000000, nI_cl, bd_s, lt_d, gd_n, r8, hhere, if_false, r1, rev, he, hc, if_true, a1]
    · have hal : alB T F k to = false := by
        unfold alB
        rw [he, decide_eq_false (fun g => absurd g.2 (by rw [nv_100]; omega))]; rfl
      rw [hal, if_neg (show ¬ false = true by decide)]
      refine ⟨m1, ?_, a2⟩
      have hc := y_carries_n (m := m) (v := nI 100) hW c1.1 (Or.inr (nI_le (by omega) (by decide)))
      simp (disch := omega) only [L0, L1, L2, L3, L4, L5, L6, L7, L8, L9, L10, L11, L12, L13, L14, L15, L16, L17, L18, L19, L20, L21, L22, L23, L24, L25, L26, L27, L28, L29, L30, L31, L32, L47, L48, L50, L51, L57, L59, L90, L97, L100, L120, L122, L127, L179, L187, L199, L200, L487, L974, L1000, L1461, L10000, L18498, L1000000, nI_cl, bd_s, lt_d, gd_n, r8, hhere, if_false, r1, rev, he, hc, if_true, a1]
    · have hnv : nv (nI l) = l := nv_n (by omega)
      have hw : fw F k < 2147483648 := by
        by_cases h0 : k = 0
        · rw [h0, hF.2.2.2.2.2.1]; omega
        · have := hF.2.2.2.2.2.2 k (by omega) hk; omega
      have eal : alB T F k to = (ca F.1 l && !decide (l = fw F k)) := by
        unfold alB
        rw [he, hnv, decide_eq_true ⟨rfl, hl⟩]; rfl
      have hc := y_carries hW c1.1 hl
      rw [eal, he, hnv]
      by_cases hca : ca F.1 l = true
      · rw [hca] at hc ⊢
        by_cases hlw : l = fw F k
        · rw [decide_eq_true hlw, if_neg (show ¬ (true && !true) = true by decide)]
          refine ⟨m1, ?_, a2⟩
          have r124' : m.1 124 (fq F k) = nI l := by rw [r124, hlw]
          simp (disch := omega) only [L0, L1, L2, L3, L4, L5, L6, L7, L8, L9, L10, L11, L12, L13, L14, L15, L16, L17, L18, L19, L20, L21, L22, L23, L24, L25, L26, L27, L28, L29, L30, L31, L32, L47, L48, L50, L51, L57, L59, L90, L97, L100, L120, L122, L127, L179, L187, L199, L200, L487, L974, L1000, L1461, L10000, L18498, L1000000, nI_cl, bd_s, lt_d, gd_n, r8, hhere, if_false, r1, rev, he, hc, bI_t, i10, r124', if_true, a1]
        · rw [decide_eq_false hlw, if_pos (show (true && !false) = true by decide)]
          obtain ⟨m2, b1, b2⟩ := y_sendOn hF hR hl hb8 hh
          refine ⟨m2, ?_, b2⟩
          have hlw' : ¬ nI l = nI (fw F k) := by rw [nI_eqs (by omega) hw]; exact hlw
          simp (disch := omega) only [L0, L1, L2, L3, L4, L5, L6, L7, L8, L9, L10, L11, L12, L13, L14, L15, L16, L17, L18, L19, L20, L21, L22, L23, L24, L25, L26, L27, L28, L29, L30, L31, L32, L47, L48, L50, L51, L57, L59, L90, L97, L100, L120, L122, L127, L179, L187, L199, L200, L487, L974, L1000, L1461, L10000, L18498, L1000000, nI_cl, bd_s, lt_d, gd_n, r8, hhere, if_false, r1, rev, he, hc, bI_t, i10, r124, hlw', b1]
      · have hca := bf_of hca
        rw [hca] at hc ⊢
        rw [if_neg (show ¬ (false && !decide (l = fw F k)) = true by simp)]
        refine ⟨m1, ?_, a2⟩
        simp (disch := omega) only [L0, L1, L2, L3, L4, L5, L6, L7, L8, L9, L10, L11, L12, L13, L14, L15, L16, L17, L18, L19, L20, L21, L22, L23, L24, L25, L26, L27, L28, L29, L30, L31, L32, L47, L48, L50, L51, L57, L59, L90, L97, L100, L120, L122, L127, L179, L187, L199, L200, L487, L974, L1000, L1461, L10000, L18498, L1000000, nI_cl, bd_s, lt_d, gd_n, r8, hhere, if_false, r1, rev, he, hc, bI_f, if_true, a1]
end PF
