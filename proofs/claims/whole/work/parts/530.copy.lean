/-! What every row of the model keeps; copies of networks; the undo stack. -/
def LK (B : Nat) (S : Nat → Int32) (l : Nat) : Prop := ∃ a b : Nat, a < b ∧ b < B ∧ S (199 + 18 * l) = nI a ∧ S (199 + 18 * l + 1) = nI b ∧ (∃ d, S (199 + 18 * l + 2) = nI d ∧ d ≤ 100) ∧ (∃ d, S (199 + 18 * l + 3) = nI d ∧ d ≤ 1100) ∧ (S (199 + 18 * l + 4) = nI 0 ∨ S (199 + 18 * l + 4) = nI 1) ∧ (S (199 + 18 * l + 5) = n1 ∨ ∃ t, t < 4 ∧ S (199 + 18 * l + 5) = nI t) ∧ (∃ d, S (199 + 18 * l + 6) = nI d ∧ d ≤ 1000) ∧ (∃ d, S (199 + 18 * l + 7) = nI d ∧ d ≤ 2) ∧ (∃ d, S (199 + 18 * l + 9) = nI d ∧ d ≤ 3) ∧ (∃ d, S (199 + 18 * l + 12) = nI d ∧ d ≤ 3) ∧ ∀ t, t < 4 → ∃ d, S (199 + 18 * l + (14 + t)) = nI d ∧ d ≤ 1000
def VI (T : Nat) (S : Nat → Int32) (b h : Nat) : Prop := S (51 + 16 * b + 2 * h) = n1 ∨ S (51 + 16 * b + 2 * h) = nI 100 ∨ ∃ l, l < T ∧ S (51 + 16 * b + 2 * h) = nI l ∧ (S (199 + 18 * l) = nI b ∨ S (199 + 18 * l + 1) = nI b)
def WT (B T : Nat) (S : Nat → Int32) : Prop := S 0 = nI B ∧ 2 ≤ B ∧ B ≤ 8 ∧ S 5 = nI T ∧ T ≤ 16 ∧ (∃ d, S 2 = nI d ∧ 1 ≤ d ∧ d ≤ 20) ∧ (∃ d, S 3 = nI d ∧ 5 ≤ d ∧ d ≤ 100) ∧ (∃ d, S 4 = nI d ∧ d ≤ 100) ∧ (∀ h, h < 8 → ∃ b, b < B ∧ S (179 + h) = nI b) ∧ (∀ l, l < T → LK B S l) ∧ ∀ b h, b < 8 → h < 8 → VI T S b h
def WF (S : Nat → Int32) : Prop := ∃ B T : Nat, WT B T S
theorem WF.cg {S S' : Nat → Int32} (h : WF S) (he : ∀ i, i < 487 → S' i = S i) : WF S' := by
  obtain ⟨B, T, h1, h2, h3, h4, h5, h6, h7, h8, h9, h10, h11⟩ := h
  refine ⟨B, T, by rw [he _ (by decide)]; exact h1, h2, h3, by rw [he _ (by decide)]; exact h4, h5, by rw [he _ (by decide)]; exact h6, by rw [he _ (by decide)]; exact h7, by rw [he _ (by decide)]; exact h8, fun h hh => by rw [he _ (by omega)]; exact h9 h hh, fun l hl => ?_, fun b h hb hh => ?_⟩
  · obtain ⟨a, b, g⟩ := h10 l hl
    refine ⟨a, b, ?_⟩
    rw [he _ (by omega), he _ (by omega), he _ (by omega), he _ (by omega), he _ (by omega), he _ (by omega), he _ (by omega), he _ (by omega), he _ (by omega), he _ (by omega)]
    obtain ⟨g1, g2, g3, g4, g5, g6, g7, g8, g9, g10, g11, g12, g13⟩ := g
    exact ⟨g1, g2, g3, g4, g5, g6, g7, g8, g9, g10, g11, g12, fun t ht => by rw [he _ (by omega)]; exact g13 t ht⟩
  · have g := h11 b h hb hh
    unfold VI at g ⊢
    rw [he _ (by omega)]
    rcases g with g | g | ⟨l, hl, g1, g2⟩
    · exact Or.inl g
    · exact Or.inr (Or.inl g)
    · refine Or.inr (Or.inr ⟨l, hl, g1, ?_⟩)
      rw [he _ (by omega), he _ (by omega)]
      exact g2
theorem cp_mx (m : me) (s d n : Nat) : cp m s d 0 0 n = sR m d (mx n (m.1 s) (m.1 d)) := by
  unfold cp sR
  refine Prod.ext ?_ rfl
  show w2 m.1 d (va_cpy (m.1 s) (m.1 d) 0 0 n) = w2 m.1 d (mx n (m.1 s) (m.1 d))
  refine congrArg (w2 m.1 d) ?_
  funext j
  unfold va_cpy mx
  by_cases h : j < n
  · rw [if_pos ⟨Nat.zero_le _, by omega⟩, if_pos h]
    simp
  · rw [if_neg (fun q => h (by omega)), if_neg h]
theorem mx_lt {k j : Nat} {f g : Nat → Int32} (h : j < k) : mx k f g j = f j := if_pos h
theorem gd_tt {α : Type} {k : Option α} : gd true k = k := rfl
theorem all_isB {f : Nat → Int32} (h : ∀ l, l < 16 → isB (f l) = true) : (List.range 16).all (fun i => isB (f i)) = true := by
  rw [List.all_eq_true]
  intro x hx
  exact h x (List.mem_range.mp hx)
/-- how long the rows are -/
def rln (r : Nat) : Nat := if r = 0 then 10 else if r < 8 then 8 else if r < 10 then 64 else if r = 10 then 1 else if r < 19 then 16 else if r < 22 then 32 else if r < 26 then 4 else 64
theorem pl_rln : ∀ i, i < 487 → (pl i).2 < rln (pl i).1 ∧ (pl i).1 ≠ 1 ∧ (pl i).1 ≠ 22 := by decide +kernel
theorem RN_copy {m m' : me} {s d : Nat} {S : Nat → Int32} (h : RN m s S) (he : ∀ r, r < 27 → r ≠ 1 → r ≠ 22 → ∀ j, j < rln r → m'.1 (d + r) j = m.1 (s + r) j) : RN m' d S := by
  refine ⟨fun i hi hr => ?_, fun t l ht hl hT => ?_, fun l hl => ?_⟩
  · rw [he _ (pl_lt i hi) (pl_rln i hi).2.1 (pl_rln i hi).2.2 _ (pl_rln i hi).1]
    exact h.1 i hi hr
  · rw [he 26 (by decide) (by decide) (by decide) _ (show 16 * t + l < 64 by omega)]
    exact h.2.1 t l ht hl hT
  · rw [he 15 (by decide) (by decide) (by decide) _ (show l < 16 from hl)]
    exact h.2.2 l hl
set_option maxHeartbeats 2000000 in
theorem y_copy_30_1 {m : me} (hub : ∀ l, l < 16 → isB (m.1 16 l) = true) : ∃ m', f_X4_copyFrom_30_1 m = some m' ∧ (∀ S, RN m 1 S → RN m' 30 S) ∧ (∀ q, ¬ (30 ≤ q ∧ q < 57) → m'.1 q = m.1 q) ∧ m'.2 = m.2 := by
  have hall := all_isB hub
  unfold f_X4_copyFrom_30_1 f_X1_copyFrom_31_2 f_X3_copyFrom_40_11 f_X8_copyFrom_52_23
  simp (disch := decide) only [bd_s, lt_d, gd_n, wI_sR, sR_get, sR_sR, sR_ne, cp_mx, hall, gd_tt]
  refine ⟨_, rfl, fun S hS => RN_copy hS (fun r hr h1 h22 => ?_), fun q hq => ?_, rfl⟩
  · match r, hr, h1, h22 with
    | 0, _, _, _ =>
      intro j hj
      have hj : j < 10 := hj
      simp (disch := decide) only [Nat.add_zero, sR_get, sR_ne]
      match j, hj with
      | 0, _ => simp (disch := decide) only [upd_e, upd_n]
      | 1, _ => simp (disch := decide) only [upd_e, upd_n]
      | 2, _ => simp (disch := decide) only [upd_e, upd_n]
      | 3, _ => simp (disch := decide) only [upd_e, upd_n]
      | 4, _ => simp (disch := decide) only [upd_e, upd_n]
      | 5, _ => simp (disch := decide) only [upd_e, upd_n]
      | 6, _ => simp (disch := decide) only [upd_e, upd_n]
      | 7, _ => simp (disch := decide) only [upd_e, upd_n]
      | 8, _ => simp (disch := decide) only [upd_e, upd_n]
      | 9, _ => simp (disch := decide) only [upd_e, upd_n]
    | 2, _, _, _ =>
      intro j hj
      have hj : j < 8 := hj
      simp (disch := decide) only [Nat.reduceAdd, sR_get, sR_ne]
      exact mx_lt hj
    | 3, _, _, _ =>
      intro j hj
      have hj : j < 8 := hj
      simp (disch := decide) only [Nat.reduceAdd, sR_get, sR_ne]
      exact mx_lt hj
    | 4, _, _, _ =>
      intro j hj
      have hj : j < 8 := hj
      simp (disch := decide) only [Nat.reduceAdd, sR_get, sR_ne]
      exact mx_lt hj
    | 5, _, _, _ =>
      intro j hj
      have hj : j < 8 := hj
      simp (disch := decide) only [Nat.reduceAdd, sR_get, sR_ne]
      exact mx_lt hj
    | 6, _, _, _ =>
      intro j hj
      have hj : j < 8 := hj
      simp (disch := decide) only [Nat.reduceAdd, sR_get, sR_ne]
      exact mx_lt hj
    | 7, _, _, _ =>
      intro j hj
      have hj : j < 8 := hj
      simp (disch := decide) only [Nat.reduceAdd, sR_get, sR_ne]
      exact mx_lt hj
    | 8, _, _, _ =>
      intro j hj
      have hj : j < 64 := hj
      simp (disch := decide) only [Nat.reduceAdd, sR_get, sR_ne]
      exact mx_lt hj
    | 9, _, _, _ =>
      intro j hj
      have hj : j < 64 := hj
      simp (disch := decide) only [Nat.reduceAdd, sR_get, sR_ne]
      exact mx_lt hj
    | 10, _, _, _ =>
      intro j hj
      have hj : j < 1 := hj
      simp (disch := decide) only [Nat.reduceAdd, sR_get, sR_ne]
      obtain rfl : j = 0 := by omega
      exact upd_e
    | 11, _, _, _ =>
      intro j hj
      have hj : j < 16 := hj
      simp (disch := decide) only [Nat.reduceAdd, sR_get, sR_ne]
      exact mx_lt hj
    | 12, _, _, _ =>
      intro j hj
      have hj : j < 16 := hj
      simp (disch := decide) only [Nat.reduceAdd, sR_get, sR_ne]
      exact mx_lt hj
    | 13, _, _, _ =>
      intro j hj
      have hj : j < 16 := hj
      simp (disch := decide) only [Nat.reduceAdd, sR_get, sR_ne]
      exact mx_lt hj
    | 14, _, _, _ =>
      intro j hj
      have hj : j < 16 := hj
      simp (disch := decide) only [Nat.reduceAdd, sR_get, sR_ne]
      exact mx_lt hj
    | 15, _, _, _ =>
      intro j hj
      have hj : j < 16 := hj
      simp (disch := decide) only [Nat.reduceAdd, sR_get, sR_ne]
      exact mx_lt hj
    | 16, _, _, _ =>
      intro j hj
      have hj : j < 16 := hj
      simp (disch := decide) only [Nat.reduceAdd, sR_get, sR_ne]
      exact mx_lt hj
    | 17, _, _, _ =>
      intro j hj
      have hj : j < 16 := hj
      simp (disch := decide) only [Nat.reduceAdd, sR_get, sR_ne]
      exact mx_lt hj
    | 18, _, _, _ =>
      intro j hj
      have hj : j < 16 := hj
      simp (disch := decide) only [Nat.reduceAdd, sR_get, sR_ne]
      exact mx_lt hj
    | 19, _, _, _ =>
      intro j hj
      have hj : j < 32 := hj
      simp (disch := decide) only [Nat.reduceAdd, sR_get, sR_ne]
      exact mx_lt hj
    | 20, _, _, _ =>
      intro j hj
      have hj : j < 32 := hj
      simp (disch := decide) only [Nat.reduceAdd, sR_get, sR_ne]
      exact mx_lt hj
    | 21, _, _, _ =>
      intro j hj
      have hj : j < 32 := hj
      simp (disch := decide) only [Nat.reduceAdd, sR_get, sR_ne]
      exact mx_lt hj
    | 23, _, _, _ =>
      intro j hj
      have hj : j < 4 := hj
      simp (disch := decide) only [Nat.reduceAdd, sR_get, sR_ne]
      exact mx_lt hj
    | 24, _, _, _ =>
      intro j hj
      have hj : j < 4 := hj
      simp (disch := decide) only [Nat.reduceAdd, sR_get, sR_ne]
      exact mx_lt hj
    | 25, _, _, _ =>
      intro j hj
      have hj : j < 4 := hj
      simp (disch := decide) only [Nat.reduceAdd, sR_get, sR_ne]
      exact mx_lt hj
    | 26, _, _, _ =>
      intro j hj
      have hj : j < 64 := hj
      simp (disch := decide) only [Nat.reduceAdd, sR_get, sR_ne]
      exact mx_lt hj
    | 1, _, h, _ => exact absurd rfl h
    | 22, _, _, h => exact absurd rfl h
    | r + 27, h, _, _ => exact absurd h (by omega)
  · simp (disch := omega) only [sR_ne]
set_option maxHeartbeats 2000000 in
theorem y_copy_57_1 {m : me} (hub : ∀ l, l < 16 → isB (m.1 16 l) = true) : ∃ m', f_X4_copyFrom_57_1 m = some m' ∧ (∀ S, RN m 1 S → RN m' 57 S) ∧ (∀ q, ¬ (57 ≤ q ∧ q < 84) → m'.1 q = m.1 q) ∧ m'.2 = m.2 := by
  have hall := all_isB hub
  unfold f_X4_copyFrom_57_1 f_X1_copyFrom_58_2 f_X3_copyFrom_67_11 f_X8_copyFrom_79_23
  simp (disch := decide) only [bd_s, lt_d, gd_n, wI_sR, sR_get, sR_sR, sR_ne, cp_mx, hall, gd_tt]
  refine ⟨_, rfl, fun S hS => RN_copy hS (fun r hr h1 h22 => ?_), fun q hq => ?_, rfl⟩
  · match r, hr, h1, h22 with
    | 0, _, _, _ =>
      intro j hj
      have hj : j < 10 := hj
      simp (disch := decide) only [Nat.add_zero, sR_get, sR_ne]
      match j, hj with
      | 0, _ => simp (disch := decide) only [upd_e, upd_n]
      | 1, _ => simp (disch := decide) only [upd_e, upd_n]
      | 2, _ => simp (disch := decide) only [upd_e, upd_n]
      | 3, _ => simp (disch := decide) only [upd_e, upd_n]
      | 4, _ => simp (disch := decide) only [upd_e, upd_n]
      | 5, _ => simp (disch := decide) only [upd_e, upd_n]
      | 6, _ => simp (disch := decide) only [upd_e, upd_n]
      | 7, _ => simp (disch := decide) only [upd_e, upd_n]
      | 8, _ => simp (disch := decide) only [upd_e, upd_n]
      | 9, _ => simp (disch := decide) only [upd_e, upd_n]
    | 2, _, _, _ =>
      intro j hj
      have hj : j < 8 := hj
      simp (disch := decide) only [Nat.reduceAdd, sR_get, sR_ne]
      exact mx_lt hj
    | 3, _, _, _ =>
      intro j hj
      have hj : j < 8 := hj
      simp (disch := decide) only [Nat.reduceAdd, sR_get, sR_ne]
      exact mx_lt hj
    | 4, _, _, _ =>
      intro j hj
      have hj : j < 8 := hj
      simp (disch := decide) only [Nat.reduceAdd, sR_get, sR_ne]
      exact mx_lt hj
    | 5, _, _, _ =>
      intro j hj
      have hj : j < 8 := hj
      simp (disch := decide) only [Nat.reduceAdd, sR_get, sR_ne]
      exact mx_lt hj
    | 6, _, _, _ =>
      intro j hj
      have hj : j < 8 := hj
      simp (disch := decide) only [Nat.reduceAdd, sR_get, sR_ne]
      exact mx_lt hj
    | 7, _, _, _ =>
      intro j hj
      have hj : j < 8 := hj
      simp (disch := decide) only [Nat.reduceAdd, sR_get, sR_ne]
      exact mx_lt hj
    | 8, _, _, _ =>
      intro j hj
      have hj : j < 64 := hj
      simp (disch := decide) only [Nat.reduceAdd, sR_get, sR_ne]
      exact mx_lt hj
    | 9, _, _, _ =>
      intro j hj
      have hj : j < 64 := hj
      simp (disch := decide) only [Nat.reduceAdd, sR_get, sR_ne]
      exact mx_lt hj
    | 10, _, _, _ =>
      intro j hj
      have hj : j < 1 := hj
      simp (disch := decide) only [Nat.reduceAdd, sR_get, sR_ne]
      obtain rfl : j = 0 := by omega
      exact upd_e
    | 11, _, _, _ =>
      intro j hj
      have hj : j < 16 := hj
      simp (disch := decide) only [Nat.reduceAdd, sR_get, sR_ne]
      exact mx_lt hj
    | 12, _, _, _ =>
      intro j hj
      have hj : j < 16 := hj
      simp (disch := decide) only [Nat.reduceAdd, sR_get, sR_ne]
      exact mx_lt hj
    | 13, _, _, _ =>
      intro j hj
      have hj : j < 16 := hj
      simp (disch := decide) only [Nat.reduceAdd, sR_get, sR_ne]
      exact mx_lt hj
    | 14, _, _, _ =>
      intro j hj
      have hj : j < 16 := hj
      simp (disch := decide) only [Nat.reduceAdd, sR_get, sR_ne]
      exact mx_lt hj
    | 15, _, _, _ =>
      intro j hj
      have hj : j < 16 := hj
      simp (disch := decide) only [Nat.reduceAdd, sR_get, sR_ne]
      exact mx_lt hj
    | 16, _, _, _ =>
      intro j hj
      have hj : j < 16 := hj
      simp (disch := decide) only [Nat.reduceAdd, sR_get, sR_ne]
      exact mx_lt hj
    | 17, _, _, _ =>
      intro j hj
      have hj : j < 16 := hj
      simp (disch := decide) only [Nat.reduceAdd, sR_get, sR_ne]
      exact mx_lt hj
    | 18, _, _, _ =>
      intro j hj
      have hj : j < 16 := hj
      simp (disch := decide) only [Nat.reduceAdd, sR_get, sR_ne]
      exact mx_lt hj
    | 19, _, _, _ =>
      intro j hj
      have hj : j < 32 := hj
      simp (disch := decide) only [Nat.reduceAdd, sR_get, sR_ne]
      exact mx_lt hj
    | 20, _, _, _ =>
      intro j hj
      have hj : j < 32 := hj
      simp (disch := decide) only [Nat.reduceAdd, sR_get, sR_ne]
      exact mx_lt hj
    | 21, _, _, _ =>
      intro j hj
      have hj : j < 32 := hj
      simp (disch := decide) only [Nat.reduceAdd, sR_get, sR_ne]
      exact mx_lt hj
    | 23, _, _, _ =>
      intro j hj
      have hj : j < 4 := hj
      simp (disch := decide) only [Nat.reduceAdd, sR_get, sR_ne]
      exact mx_lt hj
    | 24, _, _, _ =>
      intro j hj
      have hj : j < 4 := hj
      simp (disch := decide) only [Nat.reduceAdd, sR_get, sR_ne]
      exact mx_lt hj
    | 25, _, _, _ =>
      intro j hj
      have hj : j < 4 := hj
      simp (disch := decide) only [Nat.reduceAdd, sR_get, sR_ne]
      exact mx_lt hj
    | 26, _, _, _ =>
      intro j hj
      have hj : j < 64 := hj
      simp (disch := decide) only [Nat.reduceAdd, sR_get, sR_ne]
      exact mx_lt hj
    | 1, _, h, _ => exact absurd rfl h
    | 22, _, _, h => exact absurd rfl h
    | r + 27, h, _, _ => exact absurd h (by omega)
  · simp (disch := omega) only [sR_ne]
set_option maxHeartbeats 2000000 in
theorem y_copy_84_1 {m : me} (hub : ∀ l, l < 16 → isB (m.1 16 l) = true) : ∃ m', f_X4_copyFrom_84_1 m = some m' ∧ (∀ S, RN m 1 S → RN m' 84 S) ∧ (∀ q, ¬ (84 ≤ q ∧ q < 111) → m'.1 q = m.1 q) ∧ m'.2 = m.2 := by
  have hall := all_isB hub
  unfold f_X4_copyFrom_84_1 f_X1_copyFrom_85_2 f_X3_copyFrom_94_11 f_X8_copyFrom_106_23
  simp (disch := decide) only [bd_s, lt_d, gd_n, wI_sR, sR_get, sR_sR, sR_ne, cp_mx, hall, gd_tt]
  refine ⟨_, rfl, fun S hS => RN_copy hS (fun r hr h1 h22 => ?_), fun q hq => ?_, rfl⟩
  · match r, hr, h1, h22 with
    | 0, _, _, _ =>
      intro j hj
      have hj : j < 10 := hj
      simp (disch := decide) only [Nat.add_zero, sR_get, sR_ne]
      match j, hj with
      | 0, _ => simp (disch := decide) only [upd_e, upd_n]
      | 1, _ => simp (disch := decide) only [upd_e, upd_n]
      | 2, _ => simp (disch := decide) only [upd_e, upd_n]
      | 3, _ => simp (disch := decide) only [upd_e, upd_n]
      | 4, _ => simp (disch := decide) only [upd_e, upd_n]
      | 5, _ => simp (disch := decide) only [upd_e, upd_n]
      | 6, _ => simp (disch := decide) only [upd_e, upd_n]
      | 7, _ => simp (disch := decide) only [upd_e, upd_n]
      | 8, _ => simp (disch := decide) only [upd_e, upd_n]
      | 9, _ => simp (disch := decide) only [upd_e, upd_n]
    | 2, _, _, _ =>
      intro j hj
      have hj : j < 8 := hj
      simp (disch := decide) only [Nat.reduceAdd, sR_get, sR_ne]
      exact mx_lt hj
    | 3, _, _, _ =>
      intro j hj
      have hj : j < 8 := hj
      simp (disch := decide) only [Nat.reduceAdd, sR_get, sR_ne]
      exact mx_lt hj
    | 4, _, _, _ =>
      intro j hj
      have hj : j < 8 := hj
      simp (disch := decide) only [Nat.reduceAdd, sR_get, sR_ne]
      exact mx_lt hj
    | 5, _, _, _ =>
      intro j hj
      have hj : j < 8 := hj
      simp (disch := decide) only [Nat.reduceAdd, sR_get, sR_ne]
      exact mx_lt hj
    | 6, _, _, _ =>
      intro j hj
      have hj : j < 8 := hj
      simp (disch := decide) only [Nat.reduceAdd, sR_get, sR_ne]
      exact mx_lt hj
    | 7, _, _, _ =>
      intro j hj
      have hj : j < 8 := hj
      simp (disch := decide) only [Nat.reduceAdd, sR_get, sR_ne]
      exact mx_lt hj
    | 8, _, _, _ =>
      intro j hj
      have hj : j < 64 := hj
      simp (disch := decide) only [Nat.reduceAdd, sR_get, sR_ne]
      exact mx_lt hj
    | 9, _, _, _ =>
      intro j hj
      have hj : j < 64 := hj
      simp (disch := decide) only [Nat.reduceAdd, sR_get, sR_ne]
      exact mx_lt hj
    | 10, _, _, _ =>
      intro j hj
      have hj : j < 1 := hj
      simp (disch := decide) only [Nat.reduceAdd, sR_get, sR_ne]
      obtain rfl : j = 0 := by omega
      exact upd_e
    | 11, _, _, _ =>
      intro j hj
      have hj : j < 16 := hj
      simp (disch := decide) only [Nat.reduceAdd, sR_get, sR_ne]
      exact mx_lt hj
    | 12, _, _, _ =>
      intro j hj
      have hj : j < 16 := hj
      simp (disch := decide) only [Nat.reduceAdd, sR_get, sR_ne]
      exact mx_lt hj
    | 13, _, _, _ =>
      intro j hj
      have hj : j < 16 := hj
      simp (disch := decide) only [Nat.reduceAdd, sR_get, sR_ne]
      exact mx_lt hj
    | 14, _, _, _ =>
      intro j hj
      have hj : j < 16 := hj
      simp (disch := decide) only [Nat.reduceAdd, sR_get, sR_ne]
      exact mx_lt hj
    | 15, _, _, _ =>
      intro j hj
      have hj : j < 16 := hj
      simp (disch := decide) only [Nat.reduceAdd, sR_get, sR_ne]
      exact mx_lt hj
    | 16, _, _, _ =>
      intro j hj
      have hj : j < 16 := hj
      simp (disch := decide) only [Nat.reduceAdd, sR_get, sR_ne]
      exact mx_lt hj
    | 17, _, _, _ =>
      intro j hj
      have hj : j < 16 := hj
      simp (disch := decide) only [Nat.reduceAdd, sR_get, sR_ne]
      exact mx_lt hj
    | 18, _, _, _ =>
      intro j hj
      have hj : j < 16 := hj
      simp (disch := decide) only [Nat.reduceAdd, sR_get, sR_ne]
      exact mx_lt hj
    | 19, _, _, _ =>
      intro j hj
      have hj : j < 32 := hj
      simp (disch := decide) only [Nat.reduceAdd, sR_get, sR_ne]
      exact mx_lt hj
    | 20, _, _, _ =>
      intro j hj
      have hj : j < 32 := hj
      simp (disch := decide) only [Nat.reduceAdd, sR_get, sR_ne]
      exact mx_lt hj
    | 21, _, _, _ =>
      intro j hj
      have hj : j < 32 := hj
      simp (disch := decide) only [Nat.reduceAdd, sR_get, sR_ne]
      exact mx_lt hj
    | 23, _, _, _ =>
      intro j hj
      have hj : j < 4 := hj
      simp (disch := decide) only [Nat.reduceAdd, sR_get, sR_ne]
      exact mx_lt hj
    | 24, _, _, _ =>
      intro j hj
      have hj : j < 4 := hj
      simp (disch := decide) only [Nat.reduceAdd, sR_get, sR_ne]
      exact mx_lt hj
    | 25, _, _, _ =>
      intro j hj
      have hj : j < 4 := hj
      simp (disch := decide) only [Nat.reduceAdd, sR_get, sR_ne]
      exact mx_lt hj
    | 26, _, _, _ =>
      intro j hj
      have hj : j < 64 := hj
      simp (disch := decide) only [Nat.reduceAdd, sR_get, sR_ne]
      exact mx_lt hj
    | 1, _, h, _ => exact absurd rfl h
    | 22, _, _, h => exact absurd rfl h
    | r + 27, h, _, _ => exact absurd h (by omega)
  · simp (disch := omega) only [sR_ne]
set_option maxHeartbeats 2000000 in
theorem y_copy_1_30 {m : me} (hub : ∀ l, l < 16 → isB (m.1 45 l) = true) : ∃ m', f_X4_copyFrom_1_30 m = some m' ∧ (∀ S, RN m 30 S → RN m' 1 S) ∧ (∀ q, ¬ (1 ≤ q ∧ q < 28) → m'.1 q = m.1 q) ∧ m'.2 = m.2 := by
  have hall := all_isB hub
  unfold f_X4_copyFrom_1_30 f_X1_copyFrom_2_31 f_X3_copyFrom_11_40 f_X8_copyFrom_23_52
  simp (disch := decide) only [bd_s, lt_d, gd_n, wI_sR, sR_get, sR_sR, sR_ne, cp_mx, hall, gd_tt]
  refine ⟨_, rfl, fun S hS => RN_copy hS (fun r hr h1 h22 => ?_), fun q hq => ?_, rfl⟩
  · match r, hr, h1, h22 with
    | 0, _, _, _ =>
      intro j hj
      have hj : j < 10 := hj
      simp (disch := decide) only [Nat.add_zero, sR_get, sR_ne]
      match j, hj with
      | 0, _ => simp (disch := decide) only [upd_e, upd_n]
      | 1, _ => simp (disch := decide) only [upd_e, upd_n]
      | 2, _ => simp (disch := decide) only [upd_e, upd_n]
      | 3, _ => simp (disch := decide) only [upd_e, upd_n]
      | 4, _ => simp (disch := decide) only [upd_e, upd_n]
      | 5, _ => simp (disch := decide) only [upd_e, upd_n]
      | 6, _ => simp (disch := decide) only [upd_e, upd_n]
      | 7, _ => simp (disch := decide) only [upd_e, upd_n]
      | 8, _ => simp (disch := decide) only [upd_e, upd_n]
      | 9, _ => simp (disch := decide) only [upd_e, upd_n]
    | 2, _, _, _ =>
      intro j hj
      have hj : j < 8 := hj
      simp (disch := decide) only [Nat.reduceAdd, sR_get, sR_ne]
      exact mx_lt hj
    | 3, _, _, _ =>
      intro j hj
      have hj : j < 8 := hj
      simp (disch := decide) only [Nat.reduceAdd, sR_get, sR_ne]
      exact mx_lt hj
    | 4, _, _, _ =>
      intro j hj
      have hj : j < 8 := hj
      simp (disch := decide) only [Nat.reduceAdd, sR_get, sR_ne]
      exact mx_lt hj
    | 5, _, _, _ =>
      intro j hj
      have hj : j < 8 := hj
      simp (disch := decide) only [Nat.reduceAdd, sR_get, sR_ne]
      exact mx_lt hj
    | 6, _, _, _ =>
      intro j hj
      have hj : j < 8 := hj
      simp (disch := decide) only [Nat.reduceAdd, sR_get, sR_ne]
      exact mx_lt hj
    | 7, _, _, _ =>
      intro j hj
      have hj : j < 8 := hj
      simp (disch := decide) only [Nat.reduceAdd, sR_get, sR_ne]
      exact mx_lt hj
    | 8, _, _, _ =>
      intro j hj
      have hj : j < 64 := hj
      simp (disch := decide) only [Nat.reduceAdd, sR_get, sR_ne]
      exact mx_lt hj
    | 9, _, _, _ =>
      intro j hj
      have hj : j < 64 := hj
      simp (disch := decide) only [Nat.reduceAdd, sR_get, sR_ne]
      exact mx_lt hj
    | 10, _, _, _ =>
      intro j hj
      have hj : j < 1 := hj
      simp (disch := decide) only [Nat.reduceAdd, sR_get, sR_ne]
      obtain rfl : j = 0 := by omega
      exact upd_e
    | 11, _, _, _ =>
      intro j hj
      have hj : j < 16 := hj
      simp (disch := decide) only [Nat.reduceAdd, sR_get, sR_ne]
      exact mx_lt hj
    | 12, _, _, _ =>
      intro j hj
      have hj : j < 16 := hj
      simp (disch := decide) only [Nat.reduceAdd, sR_get, sR_ne]
      exact mx_lt hj
    | 13, _, _, _ =>
      intro j hj
      have hj : j < 16 := hj
      simp (disch := decide) only [Nat.reduceAdd, sR_get, sR_ne]
      exact mx_lt hj
    | 14, _, _, _ =>
      intro j hj
      have hj : j < 16 := hj
      simp (disch := decide) only [Nat.reduceAdd, sR_get, sR_ne]
      exact mx_lt hj
    | 15, _, _, _ =>
      intro j hj
      have hj : j < 16 := hj
      simp (disch := decide) only [Nat.reduceAdd, sR_get, sR_ne]
      exact mx_lt hj
    | 16, _, _, _ =>
      intro j hj
      have hj : j < 16 := hj
      simp (disch := decide) only [Nat.reduceAdd, sR_get, sR_ne]
      exact mx_lt hj
    | 17, _, _, _ =>
      intro j hj
      have hj : j < 16 := hj
      simp (disch := decide) only [Nat.reduceAdd, sR_get, sR_ne]
      exact mx_lt hj
    | 18, _, _, _ =>
      intro j hj
      have hj : j < 16 := hj
      simp (disch := decide) only [Nat.reduceAdd, sR_get, sR_ne]
      exact mx_lt hj
    | 19, _, _, _ =>
      intro j hj
      have hj : j < 32 := hj
      simp (disch := decide) only [Nat.reduceAdd, sR_get, sR_ne]
      exact mx_lt hj
    | 20, _, _, _ =>
      intro j hj
      have hj : j < 32 := hj
      simp (disch := decide) only [Nat.reduceAdd, sR_get, sR_ne]
      exact mx_lt hj
    | 21, _, _, _ =>
      intro j hj
      have hj : j < 32 := hj
      simp (disch := decide) only [Nat.reduceAdd, sR_get, sR_ne]
      exact mx_lt hj
    | 23, _, _, _ =>
      intro j hj
      have hj : j < 4 := hj
      simp (disch := decide) only [Nat.reduceAdd, sR_get, sR_ne]
      exact mx_lt hj
    | 24, _, _, _ =>
      intro j hj
      have hj : j < 4 := hj
      simp (disch := decide) only [Nat.reduceAdd, sR_get, sR_ne]
      exact mx_lt hj
    | 25, _, _, _ =>
      intro j hj
      have hj : j < 4 := hj
      simp (disch := decide) only [Nat.reduceAdd, sR_get, sR_ne]
      exact mx_lt hj
    | 26, _, _, _ =>
      intro j hj
      have hj : j < 64 := hj
      simp (disch := decide) only [Nat.reduceAdd, sR_get, sR_ne]
      exact mx_lt hj
    | 1, _, h, _ => exact absurd rfl h
    | 22, _, _, h => exact absurd rfl h
    | r + 27, h, _, _ => exact absurd h (by omega)
  · simp (disch := omega) only [sR_ne]
set_option maxHeartbeats 2000000 in
theorem y_copy_1_57 {m : me} (hub : ∀ l, l < 16 → isB (m.1 72 l) = true) : ∃ m', f_X4_copyFrom_1_57 m = some m' ∧ (∀ S, RN m 57 S → RN m' 1 S) ∧ (∀ q, ¬ (1 ≤ q ∧ q < 28) → m'.1 q = m.1 q) ∧ m'.2 = m.2 := by
  have hall := all_isB hub
  unfold f_X4_copyFrom_1_57 f_X1_copyFrom_2_58 f_X3_copyFrom_11_67 f_X8_copyFrom_23_79
  simp (disch := decide) only [bd_s, lt_d, gd_n, wI_sR, sR_get, sR_sR, sR_ne, cp_mx, hall, gd_tt]
  refine ⟨_, rfl, fun S hS => RN_copy hS (fun r hr h1 h22 => ?_), fun q hq => ?_, rfl⟩
  · match r, hr, h1, h22 with
    | 0, _, _, _ =>
      intro j hj
      have hj : j < 10 := hj
      simp (disch := decide) only [Nat.add_zero, sR_get, sR_ne]
      match j, hj with
      | 0, _ => simp (disch := decide) only [upd_e, upd_n]
      | 1, _ => simp (disch := decide) only [upd_e, upd_n]
      | 2, _ => simp (disch := decide) only [upd_e, upd_n]
      | 3, _ => simp (disch := decide) only [upd_e, upd_n]
      | 4, _ => simp (disch := decide) only [upd_e, upd_n]
      | 5, _ => simp (disch := decide) only [upd_e, upd_n]
      | 6, _ => simp (disch := decide) only [upd_e, upd_n]
      | 7, _ => simp (disch := decide) only [upd_e, upd_n]
      | 8, _ => simp (disch := decide) only [upd_e, upd_n]
      | 9, _ => simp (disch := decide) only [upd_e, upd_n]
    | 2, _, _, _ =>
      intro j hj
      have hj : j < 8 := hj
      simp (disch := decide) only [Nat.reduceAdd, sR_get, sR_ne]
      exact mx_lt hj
    | 3, _, _, _ =>
      intro j hj
      have hj : j < 8 := hj
      simp (disch := decide) only [Nat.reduceAdd, sR_get, sR_ne]
      exact mx_lt hj
    | 4, _, _, _ =>
      intro j hj
      have hj : j < 8 := hj
      simp (disch := decide) only [Nat.reduceAdd, sR_get, sR_ne]
      exact mx_lt hj
    | 5, _, _, _ =>
      intro j hj
      have hj : j < 8 := hj
      simp (disch := decide) only [Nat.reduceAdd, sR_get, sR_ne]
      exact mx_lt hj
    | 6, _, _, _ =>
      intro j hj
      have hj : j < 8 := hj
      simp (disch := decide) only [Nat.reduceAdd, sR_get, sR_ne]
      exact mx_lt hj
    | 7, _, _, _ =>
      intro j hj
      have hj : j < 8 := hj
      simp (disch := decide) only [Nat.reduceAdd, sR_get, sR_ne]
      exact mx_lt hj
    | 8, _, _, _ =>
      intro j hj
      have hj : j < 64 := hj
      simp (disch := decide) only [Nat.reduceAdd, sR_get, sR_ne]
      exact mx_lt hj
    | 9, _, _, _ =>
      intro j hj
      have hj : j < 64 := hj
      simp (disch := decide) only [Nat.reduceAdd, sR_get, sR_ne]
      exact mx_lt hj
    | 10, _, _, _ =>
      intro j hj
      have hj : j < 1 := hj
      simp (disch := decide) only [Nat.reduceAdd, sR_get, sR_ne]
      obtain rfl : j = 0 := by omega
      exact upd_e
    | 11, _, _, _ =>
      intro j hj
      have hj : j < 16 := hj
      simp (disch := decide) only [Nat.reduceAdd, sR_get, sR_ne]
      exact mx_lt hj
    | 12, _, _, _ =>
      intro j hj
      have hj : j < 16 := hj
      simp (disch := decide) only [Nat.reduceAdd, sR_get, sR_ne]
      exact mx_lt hj
    | 13, _, _, _ =>
      intro j hj
      have hj : j < 16 := hj
      simp (disch := decide) only [Nat.reduceAdd, sR_get, sR_ne]
      exact mx_lt hj
    | 14, _, _, _ =>
      intro j hj
      have hj : j < 16 := hj
      simp (disch := decide) only [Nat.reduceAdd, sR_get, sR_ne]
      exact mx_lt hj
    | 15, _, _, _ =>
      intro j hj
      have hj : j < 16 := hj
      simp (disch := decide) only [Nat.reduceAdd, sR_get, sR_ne]
      exact mx_lt hj
    | 16, _, _, _ =>
      intro j hj
      have hj : j < 16 := hj
      simp (disch := decide) only [Nat.reduceAdd, sR_get, sR_ne]
      exact mx_lt hj
    | 17, _, _, _ =>
      intro j hj
      have hj : j < 16 := hj
      simp (disch := decide) only [Nat.reduceAdd, sR_get, sR_ne]
      exact mx_lt hj
    | 18, _, _, _ =>
      intro j hj
      have hj : j < 16 := hj
      simp (disch := decide) only [Nat.reduceAdd, sR_get, sR_ne]
      exact mx_lt hj
    | 19, _, _, _ =>
      intro j hj
      have hj : j < 32 := hj
      simp (disch := decide) only [Nat.reduceAdd, sR_get, sR_ne]
      exact mx_lt hj
    | 20, _, _, _ =>
      intro j hj
      have hj : j < 32 := hj
      simp (disch := decide) only [Nat.reduceAdd, sR_get, sR_ne]
      exact mx_lt hj
    | 21, _, _, _ =>
      intro j hj
      have hj : j < 32 := hj
      simp (disch := decide) only [Nat.reduceAdd, sR_get, sR_ne]
      exact mx_lt hj
    | 23, _, _, _ =>
      intro j hj
      have hj : j < 4 := hj
      simp (disch := decide) only [Nat.reduceAdd, sR_get, sR_ne]
      exact mx_lt hj
    | 24, _, _, _ =>
      intro j hj
      have hj : j < 4 := hj
      simp (disch := decide) only [Nat.reduceAdd, sR_get, sR_ne]
      exact mx_lt hj
    | 25, _, _, _ =>
      intro j hj
      have hj : j < 4 := hj
      simp (disch := decide) only [Nat.reduceAdd, sR_get, sR_ne]
      exact mx_lt hj
    | 26, _, _, _ =>
      intro j hj
      have hj : j < 64 := hj
      simp (disch := decide) only [Nat.reduceAdd, sR_get, sR_ne]
      exact mx_lt hj
    | 1, _, h, _ => exact absurd rfl h
    | 22, _, _, h => exact absurd rfl h
    | r + 27, h, _, _ => exact absurd h (by omega)
  · simp (disch := omega) only [sR_ne]
set_option maxHeartbeats 2000000 in
theorem y_copy_1_84 {m : me} (hub : ∀ l, l < 16 → isB (m.1 99 l) = true) : ∃ m', f_X4_copyFrom_1_84 m = some m' ∧ (∀ S, RN m 84 S → RN m' 1 S) ∧ (∀ q, ¬ (1 ≤ q ∧ q < 28) → m'.1 q = m.1 q) ∧ m'.2 = m.2 := by
  have hall := all_isB hub
  unfold f_X4_copyFrom_1_84 f_X1_copyFrom_2_85 f_X3_copyFrom_11_94 f_X8_copyFrom_23_106
  simp (disch := decide) only [bd_s, lt_d, gd_n, wI_sR, sR_get, sR_sR, sR_ne, cp_mx, hall, gd_tt]
  refine ⟨_, rfl, fun S hS => RN_copy hS (fun r hr h1 h22 => ?_), fun q hq => ?_, rfl⟩
  · match r, hr, h1, h22 with
    | 0, _, _, _ =>
      intro j hj
      have hj : j < 10 := hj
      simp (disch := decide) only [Nat.add_zero, sR_get, sR_ne]
      match j, hj with
      | 0, _ => simp (disch := decide) only [upd_e, upd_n]
      | 1, _ => simp (disch := decide) only [upd_e, upd_n]
      | 2, _ => simp (disch := decide) only [upd_e, upd_n]
      | 3, _ => simp (disch := decide) only [upd_e, upd_n]
      | 4, _ => simp (disch := decide) only [upd_e, upd_n]
      | 5, _ => simp (disch := decide) only [upd_e, upd_n]
      | 6, _ => simp (disch := decide) only [upd_e, upd_n]
      | 7, _ => simp (disch := decide) only [upd_e, upd_n]
      | 8, _ => simp (disch := decide) only [upd_e, upd_n]
      | 9, _ => simp (disch := decide) only [upd_e, upd_n]
    | 2, _, _, _ =>
      intro j hj
      have hj : j < 8 := hj
      simp (disch := decide) only [Nat.reduceAdd, sR_get, sR_ne]
      exact mx_lt hj
    | 3, _, _, _ =>
      intro j hj
      have hj : j < 8 := hj
      simp (disch := decide) only [Nat.reduceAdd, sR_get, sR_ne]
      exact mx_lt hj
    | 4, _, _, _ =>
      intro j hj
      have hj : j < 8 := hj
      simp (disch := decide) only [Nat.reduceAdd, sR_get, sR_ne]
      exact mx_lt hj
    | 5, _, _, _ =>
      intro j hj
      have hj : j < 8 := hj
      simp (disch := decide) only [Nat.reduceAdd, sR_get, sR_ne]
      exact mx_lt hj
    | 6, _, _, _ =>
      intro j hj
      have hj : j < 8 := hj
      simp (disch := decide) only [Nat.reduceAdd, sR_get, sR_ne]
      exact mx_lt hj
    | 7, _, _, _ =>
      intro j hj
      have hj : j < 8 := hj
      simp (disch := decide) only [Nat.reduceAdd, sR_get, sR_ne]
      exact mx_lt hj
    | 8, _, _, _ =>
      intro j hj
      have hj : j < 64 := hj
      simp (disch := decide) only [Nat.reduceAdd, sR_get, sR_ne]
      exact mx_lt hj
    | 9, _, _, _ =>
      intro j hj
      have hj : j < 64 := hj
      simp (disch := decide) only [Nat.reduceAdd, sR_get, sR_ne]
      exact mx_lt hj
    | 10, _, _, _ =>
      intro j hj
      have hj : j < 1 := hj
      simp (disch := decide) only [Nat.reduceAdd, sR_get, sR_ne]
      obtain rfl : j = 0 := by omega
      exact upd_e
    | 11, _, _, _ =>
      intro j hj
      have hj : j < 16 := hj
      simp (disch := decide) only [Nat.reduceAdd, sR_get, sR_ne]
      exact mx_lt hj
    | 12, _, _, _ =>
      intro j hj
      have hj : j < 16 := hj
      simp (disch := decide) only [Nat.reduceAdd, sR_get, sR_ne]
      exact mx_lt hj
    | 13, _, _, _ =>
      intro j hj
      have hj : j < 16 := hj
      simp (disch := decide) only [Nat.reduceAdd, sR_get, sR_ne]
      exact mx_lt hj
    | 14, _, _, _ =>
      intro j hj
      have hj : j < 16 := hj
      simp (disch := decide) only [Nat.reduceAdd, sR_get, sR_ne]
      exact mx_lt hj
    | 15, _, _, _ =>
      intro j hj
      have hj : j < 16 := hj
      simp (disch := decide) only [Nat.reduceAdd, sR_get, sR_ne]
      exact mx_lt hj
    | 16, _, _, _ =>
      intro j hj
      have hj : j < 16 := hj
      simp (disch := decide) only [Nat.reduceAdd, sR_get, sR_ne]
      exact mx_lt hj
    | 17, _, _, _ =>
      intro j hj
      have hj : j < 16 := hj
      simp (disch := decide) only [Nat.reduceAdd, sR_get, sR_ne]
      exact mx_lt hj
    | 18, _, _, _ =>
      intro j hj
      have hj : j < 16 := hj
      simp (disch := decide) only [Nat.reduceAdd, sR_get, sR_ne]
      exact mx_lt hj
    | 19, _, _, _ =>
      intro j hj
      have hj : j < 32 := hj
      simp (disch := decide) only [Nat.reduceAdd, sR_get, sR_ne]
      exact mx_lt hj
    | 20, _, _, _ =>
      intro j hj
      have hj : j < 32 := hj
      simp (disch := decide) only [Nat.reduceAdd, sR_get, sR_ne]
      exact mx_lt hj
    | 21, _, _, _ =>
      intro j hj
      have hj : j < 32 := hj
      simp (disch := decide) only [Nat.reduceAdd, sR_get, sR_ne]
      exact mx_lt hj
    | 23, _, _, _ =>
      intro j hj
      have hj : j < 4 := hj
      simp (disch := decide) only [Nat.reduceAdd, sR_get, sR_ne]
      exact mx_lt hj
    | 24, _, _, _ =>
      intro j hj
      have hj : j < 4 := hj
      simp (disch := decide) only [Nat.reduceAdd, sR_get, sR_ne]
      exact mx_lt hj
    | 25, _, _, _ =>
      intro j hj
      have hj : j < 4 := hj
      simp (disch := decide) only [Nat.reduceAdd, sR_get, sR_ne]
      exact mx_lt hj
    | 26, _, _, _ =>
      intro j hj
      have hj : j < 64 := hj
      simp (disch := decide) only [Nat.reduceAdd, sR_get, sR_ne]
      exact mx_lt hj
    | 1, _, h, _ => exact absurd rfl h
    | 22, _, _, h => exact absurd rfl h
    | r + 27, h, _, _ => exact absurd h (by omega)
  · simp (disch := omega) only [sR_ne]
