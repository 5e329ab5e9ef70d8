/-! The script's text: the pure reader. -/
def av (cnd : Nat → Bool) : Nat → Nat → Nat
  | 0, p => p
  | f + 1, p => if cnd p = true then av cnd f (p + 1) else p
def avA {α : Type} (cnd : Nat → Bool) (φ : Nat → α → α) : Nat → Nat → α → α
  | 0, _, a => a
  | f + 1, p, a => if cnd p = true then avA cnd φ f (p + 1) (φ p a) else a
def fo {α : Type} (φ : Nat → α → α) (p : Nat) : Nat → α → α
  | 0, a => a
  | k + 1, a => φ (p + k) (fo φ p k a)
def sp (n : Nat) (d : Nat → Nat) (q : Nat) : Bool := decide (q < n) && decide (d q = 32)
def ltr (n : Nat) (d : Nat → Nat) (q : Nat) : Bool := decide (q < n) && (decide (97 ≤ d q) && decide (d q ≤ 122))
def dgt (n : Nat) (d : Nat → Nat) (st q : Nat) : Bool := decide (q < n) && (decide (q < st + 4) && (decide (48 ≤ d q) && decide (d q ≤ 57)))
def SK (n : Nat) (d : Nat → Nat) (p : Nat) : Nat := av (sp n d) 120 p
def LE (n : Nat) (d : Nat → Nat) (p : Nat) : Nat := av (ltr n d) 120 p
def DG (n : Nat) (d : Nat → Nat) (p : Nat) : Nat := av (dgt n d p) 120 p
def DV (n : Nat) (d : Nat → Nat) (p : Nat) : Int32 := avA (dgt n d p) (fun q a => nI 10 * a + nI (d q) - nI 48) 120 p (nI 0)
def pcn (k : Nat) : Nat := nv (pm_char k)
def mtW (d : Nat → Nat) (w p : Nat) : Nat → Bool
  | 0 => true
  | i + 1 => mtW d w p i && decide (pcn (5 * w + i) = d (p + i))
def isW (d : Nat → Nat) (p L w : Nat) : Bool := decide (L ≤ 4) && (mtW d w p L && decide (pcn (5 * w + L) = 32))
def firstW (f : Nat → Bool) : Nat := if f 0 = true then 0 else if f 1 = true then 1 else if f 2 = true then 2 else if f 3 = true then 3 else if f 4 = true then 4 else if f 5 = true then 5 else if f 6 = true then 6 else 7
def WX (n : Nat) (d : Nat → Nat) (p : Nat) : Nat := firstW (isW d p (LE n d p - p))
def nnW (w : Nat) : Nat := if w = 0 then 3 else if w = 1 then 3 else if w = 4 then 2 else if w = 5 then 2 else 1
/-- the first i numbers -/
def rn (n : Nat) (d : Nat → Nat) (q : Nat) : Nat → Bool × Nat × (Nat → Int32)
  | 0 => (true, q, fun _ => nI 0)
  | i + 1 => if (rn n d q i).1 = true then (if SK n d (rn n d q i).2.1 = (rn n d q i).2.1 then (false, (rn n d q i).2.1, (rn n d q i).2.2) else
      if DG n d (SK n d (rn n d q i).2.1) = SK n d (rn n d q i).2.1 then (false, SK n d (rn n d q i).2.1, (rn n d q i).2.2) else (true, DG n d (SK n d (rn n d q i).2.1), upd (rn n d q i).2.2 i (DV n d (SK n d (rn n d q i).2.1)))) else rn n d q i
def rnW (n : Nat) (d : Nat → Nat) (p : Nat) : Bool × Nat × (Nat → Int32) := rn n d (LE n d p) (nnW (WX n d p))
def sc (n : Nat) (d : Nat → Nat) (q : Nat) : Bool := decide (q < n) && decide (d q = 59)
/-- a command is read at p: whether it is right, and the place -/
def PC (n : Nat) (d : Nat → Nat) (p : Nat) : Bool × Nat := if WX n d p = 7 then (false, p) else if (rnW n d p).1 = true then (if sc n d (SK n d (rnW n d p).2.1) = true then (true, SK n d (rnW n d p).2.1 + 1) else (false, SK n d (rnW n d p).2.1)) else (false, (rnW n d p).2.1)
/-- the fault, if any, from p on -/
def FF (n : Nat) (d : Nat → Nat) : Nat → Nat → Option Nat
  | 0, _ => none
  | f + 1, p => if SK n d p < n then (if (PC n d (SK n d p)).1 = true then FF n d f (PC n d (SK n d p)).2 else some (PC n d (SK n d p)).2) else none
section PX
variable {n p q F : Nat} {d : Nat → Nat} {cnd : Nat → Bool}
theorem av_ge : ∀ (F p : Nat), p ≤ av cnd F p
  | 0, p => Nat.le_refl p
  | F + 1, p => by
    have := av_ge F (p + 1)
    unfold av
    split <;> omega
theorem av_le (hc : ∀ q, cnd q = true → q < n) : ∀ (F p : Nat), p ≤ n → av cnd F p ≤ n
  | 0, p, h => h
  | F + 1, p, h => by
    unfold av
    split
    · rename_i g
      exact av_le hc F (p + 1) (hc p g)
    · exact h
theorem av_stop (hc : ∀ q, cnd q = true → q < n) : ∀ (F p : Nat), n ≤ p + F → cnd (av cnd F p) = false
  | 0, p, h => by
    show cnd p = false
    refine bf_of (fun g => ?_)
    have := hc p g
    omega
  | F + 1, p, h => by
    unfold av
    by_cases g : cnd p = true
    · rw [if_pos g]; exact av_stop hc F (p + 1) (by omega)
    · rw [if_neg g]; exact bf_of g
theorem av_in : ∀ (F p q : Nat), p ≤ q → q < av cnd F p → cnd q = true
  | 0, p, q, h1, h2 => by
    have : q < p := h2
    omega
  | F + 1, p, q, h1, h2 => by
    unfold av at h2
    by_cases g : cnd p = true
    · rw [if_pos g] at h2
      by_cases hq : q = p
      · rw [hq]; exact g
      · exact av_in F (p + 1) q (by omega) h2
    · rw [if_neg g] at h2; omega
theorem fo_sh {α : Type} {φ : Nat → α → α} (p : Nat) : ∀ (k : Nat) (a : α), fo φ p (k + 1) a = fo φ (p + 1) k (φ p a)
  | 0, a => rfl
  | k + 1, a => by
    show φ (p + (k + 1)) (fo φ p (k + 1) a) = φ (p + 1 + k) (fo φ (p + 1) k (φ p a))
    rw [fo_sh p k a, show p + (k + 1) = p + 1 + k by omega]
theorem avA_fo {α : Type} {φ : Nat → α → α} : ∀ (F p : Nat) (a : α), avA cnd φ F p a = fo φ p (av cnd F p - p) a
  | 0, p, a => by
    show a = fo φ p (p - p) a
    rw [Nat.sub_self]; rfl
  | F + 1, p, a => by
    unfold avA av
    by_cases g : cnd p = true
    · have := av_ge (cnd := cnd) F (p + 1)
      rw [if_pos g, if_pos g, avA_fo F (p + 1) (φ p a), show av cnd F (p + 1) - p = (av cnd F (p + 1) - (p + 1)) + 1 by omega, fo_sh]
    · rw [if_neg g, if_neg g, Nat.sub_self]; rfl
theorem lo_av {σ τ α : Type} {b : σ → Option (σ ⊕ τ)} {g : Nat → α → σ} {e : Nat → α → τ} {φ : Nat → α → α} (hc : ∀ q, cnd q = true → q < n) (hs : ∀ q a, q < n → cnd q = true → b (g q a) = some (.inl (g (q + 1) (φ q a)))) (he : ∀ q a, q ≤ n → cnd q = false → b (g q a) = some (.inr (e q a))) : ∀ (F p : Nat) (a : α) (N : Nat), p ≤ n → n ≤ p + F → F < N → lo b N (g p a) = some (e (av cnd F p) (avA cnd φ F p a)) := by
  intro F
  induction F with
  | zero =>
    intro p a N hp hF hN
    refine lo_one hN (he p a hp (bf_of (fun gg => ?_)))
    have := hc p gg
    omega
  | succ F ih =>
    intro p a N hp hF hN
    unfold av avA
    by_cases gg : cnd p = true
    · rw [if_pos gg, if_pos gg]
      have hpn := hc p gg
      obtain ⟨K, rfl⟩ : ∃ z, N = z + 1 := ⟨N - 1, by omega⟩
      have := ih (p + 1) (φ p a) K (by omega) (by omega) (by omega)
      unfold lo
      rw [hs p a hpn gg]
      exact this
    · rw [if_neg gg, if_neg gg]
      exact lo_one (by omega) (he p a hp (bf_of gg))
theorem sp_c (q : Nat) (h : sp n d q = true) : q < n := by
  unfold sp at h
  simp only [Bool.and_eq_true, decide_eq_true_eq] at h
  exact h.1
theorem ltr_c (q : Nat) (h : ltr n d q = true) : q < n := by
  unfold ltr at h
  simp only [Bool.and_eq_true, decide_eq_true_eq] at h
  exact h.1
theorem dgt_c {st : Nat} (q : Nat) (h : dgt n d st q = true) : q < n := by
  unfold dgt at h
  simp only [Bool.and_eq_true, decide_eq_true_eq] at h
  exact h.1
theorem SK_le (hp : p ≤ n) : SK n d p ≤ n := av_le sp_c 120 p hp
theorem SK_ge : p ≤ SK n d p := av_ge 120 p
theorem LE_le (hp : p ≤ n) : LE n d p ≤ n := av_le ltr_c 120 p hp
theorem LE_ge : p ≤ LE n d p := av_ge 120 p
theorem DG_le (hp : p ≤ n) : DG n d p ≤ n := av_le dgt_c 120 p hp
theorem DG_ge : p ≤ DG n d p := av_ge 120 p
theorem LE_in (h1 : p ≤ q) (h2 : q < LE n d p) : 97 ≤ d q ∧ d q ≤ 122 := by
  have := av_in 120 p q h1 h2
  unfold ltr at this
  simp only [Bool.and_eq_true, decide_eq_true_eq] at this
  exact this.2
theorem SK_eq : (SK n d p = p) ↔ sp n d p = false := by
  have e : SK n d p = if sp n d p = true then av (sp n d) 119 (p + 1) else p := rfl
  rw [e]
  by_cases g : sp n d p = true
  · rw [if_pos g, g]
    have := av_ge (cnd := sp n d) 119 (p + 1)
    exact ⟨fun h => by omega, fun h => absurd h (by decide)⟩
  · rw [if_neg g]; exact ⟨fun _ => bf_of g, fun _ => rfl⟩
theorem firstW_of {f : Nat → Bool} {w : Nat} (h : f w = true) (h0 : ∀ u, u < w → f u = false) (hw : w ≤ 6) : firstW f = w := by
  have : w = 0 ∨ w = 1 ∨ w = 2 ∨ w = 3 ∨ w = 4 ∨ w = 5 ∨ w = 6 := by omega
  unfold firstW
  rcases this with rfl | rfl | rfl | rfl | rfl | rfl | rfl
  · rw [if_pos h]
  · rw [if_neg (by rw [h0 0 (by decide)]; decide), if_pos h]
  · rw [if_neg (by rw [h0 0 (by decide)]; decide), if_neg (by rw [h0 1 (by decide)]; decide), if_pos h]
  · rw [if_neg (by rw [h0 0 (by decide)]; decide), if_neg (by rw [h0 1 (by decide)]; decide), if_neg (by rw [h0 2 (by decide)]; decide), if_pos h]
  · rw [if_neg (by rw [h0 0 (by decide)]; decide), if_neg (by rw [h0 1 (by decide)]; decide), if_neg (by rw [h0 2 (by decide)]; decide), if_neg (by rw [h0 3 (by decide)]; decide), if_pos h]
  · rw [if_neg (by rw [h0 0 (by decide)]; decide), if_neg (by rw [h0 1 (by decide)]; decide), if_neg (by rw [h0 2 (by decide)]; decide), if_neg (by rw [h0 3 (by decide)]; decide), if_neg (by rw [h0 4 (by decide)]; decide), if_pos h]
  · rw [if_neg (by rw [h0 0 (by decide)]; decide), if_neg (by rw [h0 1 (by decide)]; decide), if_neg (by rw [h0 2 (by decide)]; decide), if_neg (by rw [h0 3 (by decide)]; decide), if_neg (by rw [h0 4 (by decide)]; decide), if_neg (by rw [h0 5 (by decide)]; decide), if_pos h]
theorem firstW_no {f : Nat → Bool} (h0 : ∀ u, u < 7 → f u = false) : firstW f = 7 := by
  unfold firstW
  rw [if_neg (by rw [h0 0 (by decide)]; decide), if_neg (by rw [h0 1 (by decide)]; decide), if_neg (by rw [h0 2 (by decide)]; decide), if_neg (by rw [h0 3 (by decide)]; decide), if_neg (by rw [h0 4 (by decide)]; decide), if_neg (by rw [h0 5 (by decide)]; decide), if_neg (by rw [h0 6 (by decide)]; decide)]
theorem pcn_c : ∀ k, k < 35 → pm_char k = nI (pcn k) ∧ pcn k < 128 := by decide +kernel
theorem pc0 : pcn 0 = 108 := by decide +kernel
theorem pc1 : pcn 1 = 105 := by decide +kernel
theorem pc2 : pcn 2 = 110 := by decide +kernel
theorem pc3 : pcn 3 = 107 := by decide +kernel
theorem pc4 : pcn 4 = 32 := by decide +kernel
theorem pc5 : pcn 5 = 98 := by decide +kernel
theorem pc6 : pcn 6 = 105 := by decide +kernel
theorem pc7 : pcn 7 = 100 := by decide +kernel
theorem pc8 : pcn 8 = 32 := by decide +kernel
theorem pc9 : pcn 9 = 32 := by decide +kernel
theorem pc10 : pcn 10 = 102 := by decide +kernel
theorem pc11 : pcn 11 = 97 := by decide +kernel
theorem pc12 : pcn 12 = 105 := by decide +kernel
theorem pc13 : pcn 13 = 108 := by decide +kernel
theorem pc14 : pcn 14 = 32 := by decide +kernel
theorem pc15 : pcn 15 = 102 := by decide +kernel
theorem pc16 : pcn 16 = 105 := by decide +kernel
theorem pc17 : pcn 17 = 120 := by decide +kernel
theorem pc18 : pcn 18 = 32 := by decide +kernel
theorem pc19 : pcn 19 = 32 := by decide +kernel
theorem pc20 : pcn 20 = 112 := by decide +kernel
theorem pc21 : pcn 21 = 114 := by decide +kernel
theorem pc22 : pcn 22 = 105 := by decide +kernel
theorem pc23 : pcn 23 = 111 := by decide +kernel
theorem pc24 : pcn 24 = 32 := by decide +kernel
theorem pc25 : pcn 25 = 104 := by decide +kernel
theorem pc26 : pcn 26 = 111 := by decide +kernel
theorem pc27 : pcn 27 = 115 := by decide +kernel
theorem pc28 : pcn 28 = 116 := by decide +kernel
theorem pc29 : pcn 29 = 32 := by decide +kernel
theorem pc30 : pcn 30 = 116 := by decide +kernel
theorem pc31 : pcn 31 = 105 := by decide +kernel
theorem pc32 : pcn 32 = 99 := by decide +kernel
theorem pc33 : pcn 33 = 107 := by decide +kernel
theorem pc34 : pcn 34 = 32 := by decide +kernel
theorem rn_le (hq : q ≤ n) : ∀ i, (rn n d q i).2.1 ≤ n ∧ q ≤ (rn n d q i).2.1
  | 0 => ⟨hq, Nat.le_refl q⟩
  | i + 1 => by
    obtain ⟨h1, h2⟩ := rn_le hq i
    have g1 := SK_le (n := n) (d := d) h1
    have g2 := SK_ge (n := n) (d := d) (p := (rn n d q i).2.1)
    have g3 := DG_le (n := n) (d := d) g1
    have g4 := DG_ge (n := n) (d := d) (p := SK n d (rn n d q i).2.1)
    unfold rn
    split
    · split
      · exact ⟨h1, h2⟩
      · split
        · exact ⟨g1, by show q ≤ SK n d (rn n d q i).2.1; omega⟩
        · exact ⟨g3, by show q ≤ DG n d (SK n d (rn n d q i).2.1); omega⟩
    · exact ⟨h1, h2⟩
theorem rn_stop {i : Nat} (h : (rn n d q i).1 = false) : ∀ j, rn n d q (i + j) = rn n d q i
  | 0 => rfl
  | j + 1 => by
    show rn n d q (i + j + 1) = _
    have ih := rn_stop h j
    have hne : ¬ (rn n d q (i + j)).1 = true := by rw [ih, h]; decide
    rw [rn, if_neg hne, ih]
theorem PC_le (hp : p ≤ n) : (PC n d p).2 ≤ n ∧ p ≤ (PC n d p).2 ∧ ((PC n d p).1 = true → p < (PC n d p).2) := by
  have h1 := LE_le (n := n) (d := d) hp
  have h2 := LE_ge (n := n) (d := d) (p := p)
  obtain ⟨h3, h4⟩ := rn_le (n := n) (d := d) h1 (nnW (WX n d p))
  have h5 := SK_le (n := n) (d := d) h3
  have h6 := SK_ge (n := n) (d := d) (p := (rn n d (LE n d p) (nnW (WX n d p))).2.1)
  unfold PC rnW
  split
  · exact ⟨hp, Nat.le_refl p, fun h => absurd (show false = true from h) (by decide)⟩
  · split
    · split
      · rename_i g
        unfold sc at g
        simp only [Bool.and_eq_true, decide_eq_true_eq] at g
        exact ⟨by show SK n d _ + 1 ≤ n; omega, by show p ≤ SK n d _ + 1; omega, fun _ => by show p < SK n d _ + 1; omega⟩
      · exact ⟨h5, by show p ≤ SK n d _; omega, fun h => absurd (show false = true from h) (by decide)⟩
    · exact ⟨h3, by show p ≤ (rn n d (LE n d p) (nnW (WX n d p))).2.1; omega, fun h => absurd (show false = true from h) (by decide)⟩
end PX
