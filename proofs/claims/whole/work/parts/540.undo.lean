/-! The undo stack. -/
/-- slot i of the past stands in the network at a -/
def SV (m : me) (P : Nat → Int32) (i a : Nat) : Prop := RN m a (fun j => P (487 * i + j)) ∧ WF (fun j => P (487 * i + j))
def rot (a b c : Nat) : Prop := (a = 30 ∧ b = 57 ∧ c = 84) ∨ (a = 57 ∧ b = 84 ∧ c = 30) ∨ (a = 84 ∧ b = 30 ∧ c = 57)
def UN (m : me) (P : Nat → Int32) (k : Nat) : Prop := k ≤ 3 ∧ m.1 28 1 = nI k ∧ ∃ a b c, rot a b c ∧ m.2.2 29 0 = some a ∧ m.2.2 29 1 = some b ∧ m.2.2 29 2 = some c ∧ (0 < k → SV m P 0 a) ∧ (1 < k → SV m P 1 b) ∧ (2 < k → SV m P 2 c)
/-- the past, moved by one state; the past with a state put at k -/
def psh (P : Nat → Int32) : Nat → Int32 := mx 974 (fun j => P (j + 487)) P
def ppt (P : Nat → Int32) (k : Nat) (A : Nat → Int32) : Nat → Int32 := fun j => if 487 * k ≤ j ∧ j < 487 * k + 487 then A (j - 487 * k) else P j
section PU
variable {m m' : me} {P P' S : Nat → Int32} {k i a : Nat}
theorem SV.cg (h : SV m P i a) (ha : a = 30 ∨ a = 57 ∨ a = 84) (he : ∀ q, 28 ≤ q → q < 111 → m'.1 q = m.1 q) : SV m' P i a :=
  ⟨h.1.cg (fun r hr => he _ (by omega) (by omega)), h.2⟩
theorem SV.cg' (h : SV m P i a) (he : ∀ r, r < 27 → m'.1 (a + r) = m.1 (a + r)) : SV m' P i a := ⟨h.1.cg he, h.2⟩
theorem SV.eq (h : SV m P i a) {i' : Nat} (he : ∀ j, j < 487 → P' (487 * i' + j) = P (487 * i + j)) : SV m P' i' a := ⟨h.1.eqv he, h.2.cg he⟩
theorem rot.of {a b c : Nat} (h : rot a b c) : (a = 30 ∨ a = 57 ∨ a = 84) ∧ (b = 30 ∨ b = 57 ∨ b = 84) ∧ (c = 30 ∨ c = 57 ∨ c = 84) ∧ a ≠ b ∧ b ≠ c ∧ a ≠ c := by
  unfold rot at h
  omega
theorem UN.cg (h : UN m P k) (he : ∀ q, 28 ≤ q → q < 111 → m'.1 q = m.1 q) (h2 : m'.2.2 = m.2.2) : UN m' P k := by
  obtain ⟨h1, h3, a, b, c, hr, r1, r2, r3, s1, s2, s3⟩ := h
  have := hr.of
  exact ⟨h1, by rw [he 28 (by omega) (by omega)]; exact h3, a, b, c, hr, by rw [h2]; exact r1, by rw [h2]; exact r2, by rw [h2]; exact r3, fun h => (s1 h).cg this.1 he, fun h => (s2 h).cg this.2.1 he, fun h => (s3 h).cg this.2.2.1 he⟩
theorem ppt_in {A : Nat → Int32} {j : Nat} (h : j < 487) : ppt P k A (487 * k + j) = A j := by
  unfold ppt
  rw [if_pos ⟨by omega, by omega⟩, Nat.add_sub_cancel_left]
theorem ppt_out {A : Nat → Int32} {i j : Nat} (h : j < 487) (hi : i ≠ k) : ppt P k A (487 * i + j) = P (487 * i + j) := by
  unfold ppt
  rw [if_neg (by omega)]
theorem sv_put {m : me} (h : RN m a S) (hw : WF S) : SV m (ppt P k S) k a := ⟨h.eqv (fun j hj => ppt_in hj), hw.cg (fun j hj => ppt_in hj)⟩
/-- a state is put onto the stack that has room -/
theorem y_save12 (hU : UN m P k) (hk : k < 3) (hR : RN m 1 S) (hw : WF S) : ∃ m', j_X9_save_12 m = some m' ∧ UN m' (ppt P k S) (k + 1) ∧ (∀ q, ¬ (28 ≤ q ∧ q < 111) → m'.1 q = m.1 q) ∧ m'.2 = m.2 := by
  obtain ⟨h1, h3, a, b, c, hr, r1, r2, r3, s1, s2, s3⟩ := hU
  have hro := hr.of
  have hub : ∀ l, l < 16 → isB (m.1 16 l) = true := hR.2.2
  unfold j_X9_save_12
  have fin : ∀ x : Nat, (x = 30 ∨ x = 57 ∨ x = 84) → m.2.2 29 k = some x → (∀ m1 : me, (∀ S, RN m 1 S → RN m1 x S) → (∀ q, ¬ (x ≤ q ∧ q < x + 27) → m1.1 q = m.1 q) → m1.2 = m.2 → UN (wI m1 28 1 ((m1.1 28 1) + 1)) (ppt P k S) (k + 1) ∧ (∀ q, ¬ (28 ≤ q ∧ q < 111) → (wI m1 28 1 ((m1.1 28 1) + 1)).1 q = m.1 q) ∧ (wI m1 28 1 ((m1.1 28 1) + 1)).2 = m.2) := by
    intro x hx hxk m1 c1 c2 c3
    have e28 : m1.1 28 1 = nI k := by rw [c2 28 (by omega)]; exact h3
    have hne : ∀ y i, m.2.2 29 i = some y → (y = 30 ∨ y = 57 ∨ y = 84) → y ≠ x → SV m P i y → i ≠ k → SV (wI m1 28 1 ((m1.1 28 1) + 1)) (ppt P k S) i y := by
      intro y i _ hy hyx hs hik
      have hs1 : SV (wI m1 28 1 ((m1.1 28 1) + 1)) P i y := hs.cg' (fun r hr => by rw [wI_sR, sR_ne (by omega), c2 _ (by omega)])
      exact hs1.eq (fun j hj => ppt_out hj hik)
    have hself : SV (wI m1 28 1 ((m1.1 28 1) + 1)) (ppt P k S) k x := by
      have : SV m1 (ppt P k S) k x := sv_put (c1 S hR) hw
      exact this.cg' (fun r hr => by rw [wI_sR, sR_ne (by omega)])
    refine ⟨⟨by omega, ?_, a, b, c, hr, by rw [← r1, ← c3]; rfl, by rw [← r2, ← c3]; rfl, by rw [← r3, ← c3]; rfl, fun _ => ?_, fun h => ?_, fun h => ?_⟩, fun q hq => ?_, c3⟩
    · rw [wI_sR, sR_get, upd_e, e28, L1, nI_add]
    · by_cases hk0 : k = 0
      · subst hk0
        rw [r1] at hxk
        cases hxk
        exact hself
      · refine hne a 0 r1 hro.1 (fun e => ?_) (s1 (by omega)) (by omega)
        have : k = 1 ∨ k = 2 := by omega
        rcases this with rfl | rfl
        · rw [r2] at hxk; cases hxk; exact hro.2.2.2.1 e
        · rw [r3] at hxk; cases hxk; exact hro.2.2.2.2.2 e
    · have : k = 1 ∨ k = 2 := by omega
      rcases this with rfl | rfl
      · rw [r2] at hxk; cases hxk; exact hself
      · refine hne b 1 r2 hro.2.1 (fun e => ?_) (s2 (by omega)) (by omega)
        rw [r3] at hxk; cases hxk; exact hro.2.2.2.2.1 e
    · obtain rfl : k = 2 := by omega
      rw [r3] at hxk; cases hxk; exact hself
    · rw [wI_sR, sR_ne (by omega)]
      exact c2 q (by omega)
  have hxx : ∃ x, (x = 30 ∨ x = 57 ∨ x = 84) ∧ m.2.2 29 k = some x := by
    have : k = 0 ∨ k = 1 ∨ k = 2 := by omega
    rcases this with rfl | rfl | rfl
    · exact ⟨a, hro.1, r1⟩
    · exact ⟨b, hro.2.1, r2⟩
    · exact ⟨c, hro.2.2.1, r3⟩
  obtain ⟨x, hx, hxk⟩ := hxx
  rw [h3, gd_n (by omega) (by omega), nI_cl (by omega), hxk]
  rcases hx with rfl | rfl | rfl
  · obtain ⟨m1, e1, c1, c2, c3⟩ := y_copy_30_1 hub
    rw [if_pos rfl, e1, bd_s]
    exact ⟨_, rfl, fin 30 (by decide) hxk m1 c1 c2 c3⟩
  · obtain ⟨m1, e1, c1, c2, c3⟩ := y_copy_57_1 hub
    rw [if_neg (by decide), if_pos rfl, e1, bd_s]
    exact ⟨_, rfl, fin 57 (by decide) hxk m1 c1 c2 c3⟩
  · obtain ⟨m1, e1, c1, c2, c3⟩ := y_copy_84_1 hub
    rw [if_neg (by decide), if_neg (by decide), if_pos rfl, e1, bd_s]
    exact ⟨_, rfl, fin 84 (by decide) hxk m1 c1 c2 c3⟩
theorem psh_at {i j : Nat} (h : j < 487) (hi : i < 2) : psh P (487 * i + j) = P (487 * (i + 1) + j) := by
  unfold psh
  rw [mx_lt (by omega)]
  show P (487 * i + j + 487) = _
  rw [show 487 * i + j + 487 = 487 * (i + 1) + j by omega]
theorem wR_1 {m : me} {o j q : Nat} : (wR m o j q).1 = m.1 := rfl
theorem wR_get {m : me} {o j q : Nat} : (wR m o j q).2.2 o = va_up (m.2.2 o) j (some q) := w2_self
theorem wR_21 {m : me} {o j q : Nat} : (wR m o j q).2.1 = m.2.1 := rfl
-- GEN
theorem y_drop' {m : me} (r1 : m.2.2 29 0 = some 30) (r2 : m.2.2 29 1 = some 57) (r3 : m.2.2 29 2 = some 84) : f_X9_dropOldest m = some (wI (wR (wR (wR m 29 0 57) 29 1 84) 29 2 30) 28 1 2) := by
  unfold f_X9_dropOldest
  have h := lo_gen (b := b_X9_dropOldest_9) (fun k => if k = 0 then (nI 1, m) else if k = 1 then (nI 2, wR m 29 0 57) else (nI 3, wR (wR m 29 0 57) 29 1 84)) 2 (nI 3, wR (wR m 29 0 57) 29 1 84) (fun k hk => by
    have : k = 0 ∨ k = 1 := by omega
    rcases this with rfl | rfl
    · rw [if_pos rfl]
      unfold b_X9_dropOldest_9
      have e0 : (nI 1 - nI 1 : Int32) = nI 0 := by decide
      simp (disch := decide) only [L0, L1, L2, L3, L4, L5, L6, L7, L8, L9, L10, L11, L12, L13, L14, L15, L16, L17, L18, L19, L20, L21, L22, L23, L24, L25, L26, L27, L28, L29, L30, L31, L32, L47, L48, L50, L51, L57, L59, L90, L97, L100, L120, L122, L127, L179, L187, L199, L200, L487, L974, L1000, L1461, L10000, L18498, L1000000, nI_add, pk_mul, nI_cl, nI_lts, nI_les, nI_eqs, Ln1, n1_ne, n1_ne', n1_lts, nI_ltn, n1_les, nI_len, bd_s, lt_d, gd_n, e0, r2, if_neg, if_pos, Option.some.injEq, Nat.reduceEqDiff, Nat.reduceAdd, if_true, if_false, reduceIte, Nat.reduceLeDiff, Nat.zero_add, Nat.succ_ne_self]
    · unfold b_X9_dropOldest_9
      have e0 : (nI 2 - nI 1 : Int32) = nI 1 := by decide
      have e1 : (wR m 29 0 57).2.2 29 2 = some 84 := by rw [wR_get, va_up_ne _ _ (by decide)]; exact r3
      simp (disch := decide) only [L0, L1, L2, L3, L4, L5, L6, L7, L8, L9, L10, L11, L12, L13, L14, L15, L16, L17, L18, L19, L20, L21, L22, L23, L24, L25, L26, L27, L28, L29, L30, L31, L32, L47, L48, L50, L51, L57, L59, L90, L97, L100, L120, L122, L127, L179, L187, L199, L200, L487, L974, L1000, L1461, L10000, L18498, L1000000, nI_add, pk_mul, nI_cl, nI_lts, nI_les, nI_eqs, Ln1, n1_ne, n1_ne', n1_lts, nI_ltn, n1_les, nI_len, bd_s, lt_d, gd_n, e0, e1, if_neg, if_pos, Option.some.injEq, Nat.reduceEqDiff, Nat.reduceAdd, if_true, if_false, reduceIte, Nat.reduceLeDiff]) (by
    unfold b_X9_dropOldest_9
    simp (disch := decide) only [L0, L1, L2, L3, L4, L5, L6, L7, L8, L9, L10, L11, L12, L13, L14, L15, L16, L17, L18, L19, L20, L21, L22, L23, L24, L25, L26, L27, L28, L29, L30, L31, L32, L47, L48, L50, L51, L57, L59, L90, L97, L100, L120, L122, L127, L179, L187, L199, L200, L487, L974, L1000, L1461, L10000, L18498, L1000000, nI_add, pk_mul, nI_cl, nI_lts, nI_les, nI_eqs, Ln1, n1_ne, n1_ne', n1_lts, nI_ltn, n1_les, nI_len, bd_s, lt_d, gd_n, if_neg, if_pos, Nat.reduceEqDiff, if_true, if_false, reduceIte, Nat.le_refl]) (N := 2048) (by decide)
  simp only [reduceIte] at h
  rw [r1]
  simp (disch := decide) only [bd_s, lt_d, gd_n, L1, h, Option.some.injEq, Nat.reduceEqDiff, reduceIte]
theorem y_drop_1' {m : me} (r1 : m.2.2 29 0 = some 57) (r2 : m.2.2 29 1 = some 84) (r3 : m.2.2 29 2 = some 30) : f_X9_dropOldest m = some (wI (wR (wR (wR m 29 0 84) 29 1 30) 29 2 57) 28 1 2) := by
  unfold f_X9_dropOldest
  have h := lo_gen (b := b_X9_dropOldest_9_1) (fun k => if k = 0 then (nI 1, m) else if k = 1 then (nI 2, wR m 29 0 84) else (nI 3, wR (wR m 29 0 84) 29 1 30)) 2 (nI 3, wR (wR m 29 0 84) 29 1 30) (fun k hk => by
    have : k = 0 ∨ k = 1 := by omega
    rcases this with rfl | rfl
    · rw [if_pos rfl]
      unfold b_X9_dropOldest_9_1
      have e0 : (nI 1 - nI 1 : Int32) = nI 0 := by decide
      simp (disch := decide) only [L0, L1, L2, L3, L4, L5, L6, L7, L8, L9, L10, L11, L12, L13, L14, L15, L16, L17, L18, L19, L20, L21, L22, L23, L24, L25, L26, L27, L28, L29, L30, L31, L32, L47, L48, L50, L51, L57, L59, L90, L97, L100, L120, L122, L127, L179, L187, L199, L200, L487, L974, L1000, L1461, L10000, L18498, L1000000, nI_add, pk_mul, nI_cl, nI_lts, nI_les, nI_eqs, Ln1, n1_ne, n1_ne', n1_lts, nI_ltn, n1_les, nI_len, bd_s, lt_d, gd_n, e0, r2, if_neg, if_pos, Option.some.injEq, Nat.reduceEqDiff, Nat.reduceAdd, if_true, if_false, reduceIte, Nat.reduceLeDiff, Nat.zero_add, Nat.succ_ne_self]
    · unfold b_X9_dropOldest_9_1
      have e0 : (nI 2 - nI 1 : Int32) = nI 1 := by decide
      have e1 : (wR m 29 0 84).2.2 29 2 = some 30 := by rw [wR_get, va_up_ne _ _ (by decide)]; exact r3
      simp (disch := decide) only [L0, L1, L2, L3, L4, L5, L6, L7, L8, L9, L10, L11, L12, L13, L14, L15, L16, L17, L18, L19, L20, L21, L22, L23, L24, L25, L26, L27, L28, L29, L30, L31, L32, L47, L48, L50, L51, L57, L59, L90, L97, L100, L120, L122, L127, L179, L187, L199, L200, L487, L974, L1000, L1461, L10000, L18498, L1000000, nI_add, pk_mul, nI_cl, nI_lts, nI_les, nI_eqs, Ln1, n1_ne, n1_ne', n1_lts, nI_ltn, n1_les, nI_len, bd_s, lt_d, gd_n, e0, e1, if_neg, if_pos, Option.some.injEq, Nat.reduceEqDiff, Nat.reduceAdd, if_true, if_false, reduceIte, Nat.reduceLeDiff]) (by
    unfold b_X9_dropOldest_9_1
    simp (disch := decide) only [L0, L1, L2, L3, L4, L5, L6, L7, L8, L9, L10, L11, L12, L13, L14, L15, L16, L17, L18, L19, L20, L21, L22, L23, L24, L25, L26, L27, L28, L29, L30, L31, L32, L47, L48, L50, L51, L57, L59, L90, L97, L100, L120, L122, L127, L179, L187, L199, L200, L487, L974, L1000, L1461, L10000, L18498, L1000000, nI_add, pk_mul, nI_cl, nI_lts, nI_les, nI_eqs, Ln1, n1_ne, n1_ne', n1_lts, nI_ltn, n1_les, nI_len, bd_s, lt_d, gd_n, if_neg, if_pos, Nat.reduceEqDiff, if_true, if_false, reduceIte, Nat.le_refl]) (N := 2048) (by decide)
  simp only [reduceIte] at h
  rw [r1]
  simp (disch := decide) only [bd_s, lt_d, gd_n, L1, h, Option.some.injEq, Nat.reduceEqDiff, reduceIte]
theorem y_drop_2' {m : me} (r1 : m.2.2 29 0 = some 84) (r2 : m.2.2 29 1 = some 30) (r3 : m.2.2 29 2 = some 57) : f_X9_dropOldest m = some (wI (wR (wR (wR m 29 0 30) 29 1 57) 29 2 84) 28 1 2) := by
  unfold f_X9_dropOldest
  have h := lo_gen (b := b_X9_dropOldest_9_2) (fun k => if k = 0 then (nI 1, m) else if k = 1 then (nI 2, wR m 29 0 30) else (nI 3, wR (wR m 29 0 30) 29 1 57)) 2 (nI 3, wR (wR m 29 0 30) 29 1 57) (fun k hk => by
    have : k = 0 ∨ k = 1 := by omega
    rcases this with rfl | rfl
    · rw [if_pos rfl]
      unfold b_X9_dropOldest_9_2
      have e0 : (nI 1 - nI 1 : Int32) = nI 0 := by decide
      simp (disch := decide) only [L0, L1, L2, L3, L4, L5, L6, L7, L8, L9, L10, L11, L12, L13, L14, L15, L16, L17, L18, L19, L20, L21, L22, L23, L24, L25, L26, L27, L28, L29, L30, L31, L32, L47, L48, L50, L51, L57, L59, L90, L97, L100, L120, L122, L127, L179, L187, L199, L200, L487, L974, L1000, L1461, L10000, L18498, L1000000, nI_add, pk_mul, nI_cl, nI_lts, nI_les, nI_eqs, Ln1, n1_ne, n1_ne', n1_lts, nI_ltn, n1_les, nI_len, bd_s, lt_d, gd_n, e0, r2, if_neg, if_pos, Option.some.injEq, Nat.reduceEqDiff, Nat.reduceAdd, if_true, if_false, reduceIte, Nat.reduceLeDiff, Nat.zero_add, Nat.succ_ne_self]
    · unfold b_X9_dropOldest_9_2
      have e0 : (nI 2 - nI 1 : Int32) = nI 1 := by decide
      have e1 : (wR m 29 0 30).2.2 29 2 = some 57 := by rw [wR_get, va_up_ne _ _ (by decide)]; exact r3
      simp (disch := decide) only [L0, L1, L2, L3, L4, L5, L6, L7, L8, L9, L10, L11, L12, L13, L14, L15, L16, L17, L18, L19, L20, L21, L22, L23, L24, L25, L26, L27, L28, L29, L30, L31, L32, L47, L48, L50, L51, L57, L59, L90, L97, L100, L120, L122, L127, L179, L187, L199, L200, L487, L974, L1000, L1461, L10000, L18498, L1000000, nI_add, pk_mul, nI_cl, nI_lts, nI_les, nI_eqs, Ln1, n1_ne, n1_ne', n1_lts, nI_ltn, n1_les, nI_len, bd_s, lt_d, gd_n, e0, e1, if_neg, if_pos, Option.some.injEq, Nat.reduceEqDiff, Nat.reduceAdd, if_true, if_false, reduceIte, Nat.reduceLeDiff]) (by
    unfold b_X9_dropOldest_9_2
    simp (disch := decide) only [L0, L1, L2, L3, L4, L5, L6, L7, L8, L9, L10, L11, L12, L13, L14, L15, L16, L17, L18, L19, L20, L21, L22, L23, L24, L25, L26, L27, L28, L29, L30, L31, L32, L47, L48, L50, L51, L57, L59, L90, L97, L100, L120, L122, L127, L179, L187, L199, L200, L487, L974, L1000, L1461, L10000, L18498, L1000000, nI_add, pk_mul, nI_cl, nI_lts, nI_les, nI_eqs, Ln1, n1_ne, n1_ne', n1_lts, nI_ltn, n1_les, nI_len, bd_s, lt_d, gd_n, if_neg, if_pos, Nat.reduceEqDiff, if_true, if_false, reduceIte, Nat.le_refl]) (N := 2048) (by decide)
  simp only [reduceIte] at h
  rw [r1]
  simp (disch := decide) only [bd_s, lt_d, gd_n, L1, h, Option.some.injEq, Nat.reduceEqDiff, reduceIte]
/-- the stack is saved onto: a full one loses its oldest -/
theorem y_save (hU : UN m P k) (hR : RN m 1 S) (hw : WF S) : ∃ m', f_X9_save m = some m' ∧ UN m' (ppt (if k = 3 then psh P else P) (if k = 3 then 2 else k) S) (if k = 3 then 3 else k + 1) ∧ (∀ q, ¬ (28 ≤ q ∧ q < 111) → m'.1 q = m.1 q) ∧ (m'.2.1 = m.2.1 ∧ ∀ q, q ≠ 29 → m'.2.2 q = m.2.2 q) := by
  unfold f_X9_save
  by_cases hk : k = 3
  · subst hk
    obtain ⟨h1, h3, a, b, c, hr, r1, r2, r3, s1, s2, s3⟩ := hU
    have hro := hr.of
    rw [h3, L3, if_neg (show ¬ nI 3 < nI 3 by decide), if_pos rfl, if_pos rfl, if_pos rfl]
    have hd : f_X9_dropOldest m = some (wI (wR (wR (wR m 29 0 b) 29 1 c) 29 2 a) 28 1 2) := by
      rcases hr with ⟨rfl, rfl, rfl⟩ | ⟨rfl, rfl, rfl⟩ | ⟨rfl, rfl, rfl⟩
      · exact y_drop' r1 r2 r3
      · exact y_drop_1' r1 r2 r3
      · exact y_drop_2' r1 r2 r3
    rw [hd, bd_s]
    obtain ⟨d, ed⟩ : ∃ d, d = wI (wR (wR (wR m 29 0 b) 29 1 c) 29 2 a) 28 1 2 := ⟨_, rfl⟩
    rw [← ed]
    have dq : ∀ q, q ≠ 28 → d.1 q = m.1 q := fun q hq => by rw [ed, wI_sR, sR_ne hq]; rfl
    have d29 : d.2.2 29 0 = some b ∧ d.2.2 29 1 = some c ∧ d.2.2 29 2 = some a := by
      rw [ed]
      show ((wR (wR (wR m 29 0 b) 29 1 c) 29 2 a).2.2 29 0 = some b ∧ (wR (wR (wR m 29 0 b) 29 1 c) 29 2 a).2.2 29 1 = some c ∧ (wR (wR (wR m 29 0 b) 29 1 c) 29 2 a).2.2 29 2 = some a)
      rw [wR_get, wR_get, wR_get]
      exact ⟨rfl, rfl, rfl⟩
    have hUd : UN d (psh P) 2 := by
      refine ⟨by decide, by rw [ed, wI_sR, sR_get, upd_e]; rfl, b, c, a, ?_, d29.1, d29.2.1, d29.2.2, fun _ => ?_, fun _ => ?_, fun h => absurd h (by decide)⟩
      · unfold rot at hr ⊢
        omega
      · exact ((s2 (by decide)).cg' (m' := d) (fun r hr => dq _ (by omega))).eq (fun j hj => psh_at hj (by decide))
      · exact ((s3 (by decide)).cg' (m' := d) (fun r hr => dq _ (by omega))).eq (fun j hj => psh_at hj (by decide))
    obtain ⟨m', e1, e2, e3, e4⟩ := y_save12 hUd (by decide) (hR.cg (m' := d) (fun r hr => dq _ (by omega))) hw
    refine ⟨m', e1, e2, fun q hq => by rw [e3 q hq, dq q (by omega)], by rw [e4, ed]; rfl, fun q hq => ?_⟩
    rw [e4, ed]
    show (wR (wR (wR m 29 0 b) 29 1 c) 29 2 a).2.2 q = m.2.2 q
    show w2 (w2 (w2 m.2.2 29 _) 29 _) 29 _ q = m.2.2 q
    rw [w2_ne hq, w2_ne hq, w2_ne hq]
  · have hk3 : k < 3 := by have := hU.1; omega
    have h3 := hU.2.1
    rw [h3, L3, if_pos (nI_lt hk3 (by decide)), if_neg hk, if_neg hk, if_neg hk]
    obtain ⟨m', e1, e2, e3, e4⟩ := y_save12 hU hk3 hR hw
    exact ⟨m', e1, e2, e3, by rw [e4], fun q _ => by rw [e4]⟩
/-- the last state comes back -/
theorem y_restore (hU : UN m P (k + 1)) : ∃ m', f_X9_restore m = some m' ∧ UN m' P k ∧ RN m' 1 (fun j => P (487 * k + j)) ∧ WF (fun j => P (487 * k + j)) ∧ (∀ q, ¬ (1 ≤ q ∧ q < 28) → q ≠ 28 → m'.1 q = m.1 q) ∧ m'.2 = m.2 := by
  obtain ⟨h1, h3, a, b, c, hr, r1, r2, r3, s1, s2, s3⟩ := hU
  have hro := hr.of
  unfold f_X9_restore
  have e5 : nI (k + 1) - nI 1 = nI k := nI_sbs (by omega)
  simp (disch := omega) only [L0, L1, L2, L3, L4, L5, L6, L7, L8, L9, L10, L11, L12, L13, L14, L15, L16, L17, L18, L19, L20, L21, L22, L23, L24, L25, L26, L27, L28, L29, L30, L31, L32, L47, L48, L50, L51, L57, L59, L90, L97, L100, L120, L122, L127, L179, L187, L199, L200, L487, L974, L1000, L1461, L10000, L18498, L1000000, nI_add, pk_mul, nI_cl, nI_lts, nI_les, nI_eqs, Ln1, n1_ne, n1_ne', n1_lts, nI_ltn, n1_les, nI_len, bd_s, lt_d, gd_n, h3, Nat.le_zero_eq, Nat.add_one_ne_zero, Nat.succ_ne_zero, if_false, reduceIte, e5, wI_sR, sR_get, upd_e, sR_22]
  obtain ⟨d, ed⟩ : ∃ d, d = sR m 28 (upd (m.1 28) 1 (nI k)) := ⟨_, rfl⟩
  rw [← ed]
  have dq : ∀ q, q ≠ 28 → d.1 q = m.1 q := fun q hq => by rw [ed, sR_ne hq]
  have hxx : ∃ x, (x = 30 ∨ x = 57 ∨ x = 84) ∧ m.2.2 29 k = some x ∧ SV m P k x := by
    have : k = 0 ∨ k = 1 ∨ k = 2 := by omega
    rcases this with rfl | rfl | rfl
    · exact ⟨a, hro.1, r1, s1 (by omega)⟩
    · exact ⟨b, hro.2.1, r2, s2 (by omega)⟩
    · exact ⟨c, hro.2.2.1, r3, s3 (by omega)⟩
  obtain ⟨x, hx, hxk, hsv⟩ := hxx
  have fin : ∀ m1 : me, (∀ S, RN d x S → RN m1 1 S) → (∀ q, ¬ (1 ≤ q ∧ q < 1 + 27) → m1.1 q = d.1 q) → m1.2 = d.2 → UN m1 P k ∧ RN m1 1 (fun j => P (487 * k + j)) ∧ WF (fun j => P (487 * k + j)) ∧ (∀ q, ¬ (1 ≤ q ∧ q < 28) → q ≠ 28 → m1.1 q = m.1 q) ∧ m1.2 = m.2 := by
    intro m1 c1 c2 c3
    have hd2 : d.2 = m.2 := by rw [ed]; rfl
    have mv : ∀ y i, (y = 30 ∨ y = 57 ∨ y = 84) → SV m P i y → SV m1 P i y := fun y i hy hs => hs.cg' (fun r hr => by rw [c2 _ (by omega), dq _ (by omega)])
    refine ⟨⟨by omega, by rw [c2 28 (by omega), ed, sR_get, upd_e], a, b, c, hr, by rw [c3, hd2]; exact r1, by rw [c3, hd2]; exact r2, by rw [c3, hd2]; exact r3, fun h => mv a 0 hro.1 (s1 (by omega)), fun h => mv b 1 hro.2.1 (s2 (by omega)), fun h => mv c 2 hro.2.2.1 (s3 (by omega))⟩, ?_, hsv.2, fun q h1 h2 => ?_, c3.trans hd2⟩
    · exact c1 _ (hsv.1.cg (fun r hr => dq _ (by omega)))
    · rw [c2 q (by omega), dq q h2]
  have hsd : RN d x (fun j => P (487 * k + j)) := hsv.1.cg (fun r hr => dq _ (by omega))
  rw [hxk]
  rcases hx with rfl | rfl | rfl
  · obtain ⟨m1, e1, c1, c2, c3⟩ := y_copy_1_30 (m := d) hsd.2.2
    rw [if_pos rfl, e1, bd_s]
    exact ⟨_, rfl, fin m1 c1 c2 c3⟩
  · obtain ⟨m1, e1, c1, c2, c3⟩ := y_copy_1_57 (m := d) hsd.2.2
    rw [if_neg (by decide), if_pos rfl, e1, bd_s]
    exact ⟨_, rfl, fin m1 c1 c2 c3⟩
  · obtain ⟨m1, e1, c1, c2, c3⟩ := y_copy_1_84 (m := d) hsd.2.2
    rw [if_neg (by decide), if_neg (by decide), if_pos rfl, e1, bd_s]
    exact ⟨_, rfl, fin m1 c1 c2 c3⟩
end PU
