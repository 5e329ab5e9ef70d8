/-! Groups of bridges: two ways to find them. -/
section PG
variable {e : Nat → Bool} {x y : Nat → Nat} {T B : Nat}
/-- the groups behind the first k links -/
def gr (e : Nat → Bool) (x y : Nat → Nat) : Nat → Nat → Nat
  | 0, b => b
  | k + 1, b => if e k = true ∧ gr e x y k b = gr e x y k (y k) then gr e x y k (x k) else gr e x y k b
/-- no link of the first k closed a cycle -/
def frs (e : Nat → Bool) (x y : Nat → Nat) : Nat → Bool
  | 0 => true
  | k + 1 => frs e x y k && !(e k && decide (gr e x y k (x k) = gr e x y k (y k)))
theorem gr_f {k : Nat} (h : e k = false) (b : Nat) : gr e x y (k + 1) b = gr e x y k b := by
  show (if e k = true ∧ _ then _ else _) = _
  rw [if_neg (by rw [h]; intro h; exact absurd h.1 (by decide))]
theorem gr_t {k : Nat} (h : e k = true) (b : Nat) : gr e x y (k + 1) b = if gr e x y k b = gr e x y k (y k) then gr e x y k (x k) else gr e x y k b := by
  show (if e k = true ∧ _ then _ else _) = _
  by_cases hb : gr e x y k b = gr e x y k (y k)
  · rw [if_pos ⟨h, hb⟩, if_pos hb]
  · rw [if_neg (fun g => hb g.2), if_neg hb]
theorem gr_link : ∀ (k l : Nat), l < k → e l = true → gr e x y k (x l) = gr e x y k (y l)
  | 0, l, h, _ => absurd h (Nat.not_lt_zero l)
  | k + 1, l, h, he => by
    by_cases hk : e k = true
    · rw [gr_t hk, gr_t hk]
      by_cases hl : l = k
      · subst hl
        rw [if_pos rfl]
        by_cases g : gr e x y l (x l) = gr e x y l (y l)
        · rw [if_pos g]
        · rw [if_neg g]
      · rw [gr_link k l (by omega) he]
    · have hk : e k = false := by revert hk; cases e k <;> simp
      have hl : l ≠ k := fun g => by rw [g, hk] at he; exact absurd he (by decide)
      rw [gr_f hk, gr_f hk]
      exact gr_link k l (by omega) he
def clo (e : Nat → Bool) (x y : Nat → Nat) (k : Nat) (p : Nat → Bool) : Prop := ∀ l, l < k → e l = true → p (x l) = p (y l)
theorem gr_clo {p : Nat → Bool} : ∀ (k : Nat), clo e x y k p → ∀ a b, gr e x y k a = gr e x y k b → p a = p b
  | 0, _, a, b, h => by
    have : a = b := h
    rw [this]
  | k + 1, hc, a, b, h => by
    have ih := gr_clo k (fun l hl => hc l (by omega))
    by_cases hk : e k = true
    · have hxy := hc k (by omega) hk
      rw [gr_t hk, gr_t hk] at h
      by_cases ha : gr e x y k a = gr e x y k (y k)
      · by_cases hb : gr e x y k b = gr e x y k (y k)
        · exact ih a b (ha.trans hb.symm)
        · rw [if_pos ha, if_neg hb] at h
          rw [ih a (y k) ha, ← hxy, ih (x k) b h]
      · by_cases hb : gr e x y k b = gr e x y k (y k)
        · rw [if_neg ha, if_pos hb] at h
          rw [ih a (x k) h, hxy, ih b (y k) hb]
        · rw [if_neg ha, if_neg hb] at h
          exact ih a b h
    · have hk : e k = false := by revert hk; cases e k <;> simp
      rw [gr_f hk, gr_f hk] at h
      exact ih a b h
theorem gr_lt {n : Nat} : ∀ (k : Nat), (∀ l, l < k → x l < n ∧ y l < n) → ∀ b, b < n → gr e x y k b < n
  | 0, _, _, h => h
  | k + 1, hx, b, h => by
    show (if _ then gr e x y k (x k) else gr e x y k b) < n
    split
    · exact gr_lt k (fun l hl => hx l (by omega)) _ (hx k (by omega)).1
    · exact gr_lt k (fun l hl => hx l (by omega)) _ h
/-- a link is looked at -/
def ps (e : Nat → Bool) (x y : Nat → Nat) (l : Nat) (p : Nat → Bool) : Nat → Bool := fun b => p b || (e l && (p (x l) || p (y l)) && (decide (b = x l) || decide (b = y l)))
def pr (e : Nat → Bool) (x y : Nat → Nat) (n : Nat) (p : Nat → Bool) : Nat → Bool := it (fun l p => ps e x y l p) n p
def pd (e : Nat → Bool) (x y : Nat → Nat) (T r : Nat) (p : Nat → Bool) : Nat → Bool := it (fun _ p => pr e x y T p) r p
theorem ps_mono {l : Nat} {p : Nat → Bool} {b : Nat} (h : p b = true) : ps e x y l p b = true := by unfold ps; rw [h]; rfl
theorem pr_mono {p : Nat → Bool} {b : Nat} (h : p b = true) : ∀ n, pr e x y n p b = true
  | 0 => h
  | n + 1 => ps_mono (pr_mono h n)
theorem pr_mono2 {p : Nat → Bool} {b j : Nat} (h : pr e x y j p b = true) : ∀ n, pr e x y (j + n) p b = true
  | 0 => h
  | n + 1 => ps_mono (pr_mono2 h n)
theorem ps_sub {l : Nat} {p q : Nat → Bool} (hq : e l = true → q (x l) = q (y l)) (h : ∀ b, p b = true → q b = true) (b : Nat) (hb : ps e x y l p b = true) : q b = true := by
  unfold ps at hb
  by_cases hp : p b = true
  · exact h b hp
  · simp only [Bool.or_eq_true, Bool.and_eq_true, decide_eq_true_eq, hp, false_or, Bool.false_eq_true] at hb
    obtain ⟨⟨he, h1⟩, h2⟩ := hb
    have hxy := hq he
    have hx : q (x l) = true := by
      rcases h1 with h1 | h1
      · exact h _ h1
      · rw [hxy]; exact h _ h1
    rcases h2 with rfl | rfl
    · exact hx
    · rw [← hxy]; exact hx
theorem pr_sub {p q : Nat → Bool} (h : ∀ b, p b = true → q b = true) : ∀ n, clo e x y n q → ∀ b, pr e x y n p b = true → q b = true
  | 0, _, b, hb => h b hb
  | n + 1, hc, b, hb => ps_sub (hc n (by omega)) (pr_sub h n (fun l hl => hc l (by omega))) b hb
theorem pd_sub {p q : Nat → Bool} (h : ∀ b, p b = true → q b = true) (hc : clo e x y T q) : ∀ r b, pd e x y T r p b = true → q b = true
  | 0, b, hb => h b hb
  | r + 1, b, hb => pr_sub (pd_sub h hc r) T hc b hb
/-- a closed set stays -/
theorem ps_fix {l : Nat} {p : Nat → Bool} (hq : e l = true → p (x l) = p (y l)) (b : Nat) : ps e x y l p b = p b := by
  by_cases hb : p b = true
  · rw [ps_mono hb, hb]
  · by_cases h : ps e x y l p b = true
    · exact absurd (ps_sub hq (fun b h => h) b h) hb
    · revert hb h
      cases p b <;> cases ps e x y l p b <;> simp
theorem pr_fix {p : Nat → Bool} : ∀ n, clo e x y n p → pr e x y n p = p
  | 0, _ => rfl
  | n + 1, hc => by
    show ps e x y n (pr e x y n p) = p
    rw [pr_fix n (fun l hl => hc l (by omega))]
    funext b
    exact ps_fix (hc n (by omega)) b
/-- a round that changes nothing: closed -/
theorem pr_clo {p : Nat → Bool} (hx : ∀ l, l < T → x l < 8 ∧ y l < 8) (h : ∀ b, b < 8 → pr e x y T p b = p b) : clo e x y T p := by
  intro l hl he
  have step : ∀ b, b < 8 → pr e x y (l + 1) p b = true → p b = true := fun b hb g => by
    rw [← h b hb]
    have := pr_mono2 g (T - (l + 1))
    rw [show l + 1 + (T - (l + 1)) = T by omega] at this
    exact this
  obtain ⟨hx1, hx2⟩ := hx l hl
  by_cases h1 : p (x l) = true
  · have : pr e x y (l + 1) p (y l) = true := by
      show ps e x y l (pr e x y l p) (y l) = true
      unfold ps
      rw [he, pr_mono h1 l]
      simp
    rw [h1, step _ hx2 this]
  · by_cases h2 : p (y l) = true
    · have : pr e x y (l + 1) p (x l) = true := by
        show ps e x y l (pr e x y l p) (x l) = true
        unfold ps
        rw [he, pr_mono h2 l]
        simp
      exact absurd (step _ hx1 this) h1
    · revert h1 h2
      cases p (x l) <;> cases p (y l) <;> simp
theorem cnt_mono {p q : Nat → Bool} : ∀ n, (∀ b, b < n → p b = true → q b = true) → cnt p n ≤ cnt q n
  | 0, _ => Nat.le_refl 0
  | n + 1, h => by
    have ih := cnt_mono n (fun b hb => h b (by omega))
    unfold cnt
    by_cases hp : p n = true
    · rw [if_pos hp, if_pos (h n (by omega) hp)]; omega
    · rw [if_neg hp]; omega
theorem cnt_up {p q : Nat → Bool} {d : Nat} : ∀ n, d < n → (∀ b, b < n → p b = true → q b = true) → p d = false → q d = true → cnt p n + 1 ≤ cnt q n
  | 0, h, _, _, _ => absurd h (Nat.not_lt_zero d)
  | n + 1, hd, h, hp, hq => by
    unfold cnt
    by_cases hdn : d = n
    · subst hdn
      have := cnt_mono d (fun b hb => h b (by omega))
      rw [if_neg (by rw [hp]; decide), if_pos hq]
      omega
    · have ih := cnt_up n (by omega) (fun b hb => h b (by omega)) hp hq
      by_cases hpn : p n = true
      · rw [if_pos hpn, if_pos (h n (by omega) hpn)]; omega
      · rw [if_neg hpn]; omega
theorem pd_clo {p : Nat → Bool} {b : Nat} (hx : ∀ l, l < T → x l < 8 ∧ y l < 8) (hb : b < 8) (hp : p b = true) : clo e x y T (pd e x y T 8 p) := by
  have key : ∀ r, clo e x y T (pd e x y T r p) ∨ r + 1 ≤ cnt (pd e x y T r p) 8 := by
    intro r
    induction r with
    | zero =>
      refine Or.inr ?_
      have := cnt_up (p := fun _ => false) (q := p) 8 hb (fun _ _ h => absurd h (by decide)) rfl hp
      show 0 + 1 ≤ cnt p 8
      omega
    | succ r ih =>
      by_cases hc : clo e x y T (pd e x y T r p)
      · refine Or.inl ?_
        show clo e x y T (pr e x y T (pd e x y T r p))
        rw [pr_fix T hc]
        exact hc
      · refine Or.inr ?_
        have ih := ih.resolve_left hc
        have : ∃ d, d < 8 ∧ pd e x y T r p d = false ∧ pd e x y T (r + 1) p d = true := by
          refine Classical.byContradiction (fun hn => hc (pr_clo hx (fun d hd => ?_)))
          by_cases h1 : pd e x y T r p d = true
          · rw [h1]; exact pr_mono h1 T
          · have h1 : pd e x y T r p d = false := by revert h1; cases pd e x y T r p d <;> simp
            rw [h1]
            by_cases h2 : pr e x y T (pd e x y T r p) d = true
            · exact absurd ⟨d, hd, h1, h2⟩ hn
            · revert h2; cases pr e x y T (pd e x y T r p) d <;> simp
        obtain ⟨d, hd, h1, h2⟩ := this
        have := cnt_up (p := pd e x y T r p) (q := pd e x y T (r + 1) p) 8 hd (fun b _ hb => pr_mono hb T) h1 h2
        omega
  rcases key 8 with h | h
  · exact h
  · have := cnt_le (pd e x y T 8 p) 8
    omega
/-- the reached are those of the group -/
theorem pd_gr {b : Nat} (hx : ∀ l, l < T → x l < 8 ∧ y l < 8) (hb : b < 8) (o : Nat) : pd e x y T 8 (fun o => decide (b = o)) o = decide (gr e x y T b = gr e x y T o) := by
  have h0 : (fun o => decide (b = o)) b = true := decide_eq_true rfl
  have hc := pd_clo (e := e) (p := fun o => decide (b = o)) hx hb h0
  have hbb : pd e x y T 8 (fun o => decide (b = o)) b = true := by
    have : ∀ r, pd e x y T r (fun o => decide (b = o)) b = true := by
      intro r
      induction r with
      | zero => exact h0
      | succ r ih => exact pr_mono ih T
    exact this 8
  by_cases h : gr e x y T b = gr e x y T o
  · rw [decide_eq_true h, ← gr_clo T hc b o h, hbb]
  · rw [decide_eq_false h]
    by_cases h1 : pd e x y T 8 (fun o => decide (b = o)) o = true
    · have := pd_sub (q := fun o => decide (gr e x y T b = gr e x y T o)) (fun o ho => by rw [of_decide_eq_true ho]; exact decide_eq_true rfl) (fun l hl he => by show decide (gr e x y T b = gr e x y T (x l)) = decide (gr e x y T b = gr e x y T (y l)); rw [gr_link (x := x) (y := y) T l hl he]) 8 o h1
      exact absurd (of_decide_eq_true this) h
    · revert h1; cases pd e x y T 8 (fun o => decide (b = o)) o <;> simp
/-- the least of its group -/
def pt (g : Nat → Nat) (b : Nat) : Bool := decide (∀ j, j < b → g j ≠ g b)
theorem least {P : Nat → Prop} : ∀ n, P n → ∃ k, k ≤ n ∧ P k ∧ ∀ j, j < k → ¬ P j := by
  intro n
  induction n using Nat.strongRecOn with
  | ind n ih =>
    intro h
    by_cases hj : ∃ j, j < n ∧ P j
    · obtain ⟨j, hj, hp⟩ := hj
      obtain ⟨k, h1, h2, h3⟩ := ih j hj hp
      exact ⟨k, by omega, h2, h3⟩
    · exact ⟨n, Nat.le_refl n, h, fun j hj' hp => hj ⟨j, hj', hp⟩⟩
theorem cnt_dn {p q : Nat → Bool} {d : Nat} : ∀ n, d < n → (∀ b, b ≠ d → q b = p b) → p d = true → q d = false → cnt q n + 1 = cnt p n
  | 0, h, _, _, _ => absurd h (Nat.not_lt_zero d)
  | n + 1, hd, h, hp, hq => by
    unfold cnt
    by_cases hdn : d = n
    · subst hdn
      rw [cnt_cg (p := q) (q := p) (fun b hb => h b (by omega)), if_pos hp, if_neg (by rw [hq]; decide)]
    · have ih := cnt_dn n (by omega) h hp hq
      rw [h n (fun g => hdn g.symm)]
      omega
theorem pt_merge {g : Nat → Nat} {a c : Nat} (ha : a < B) (hc : c < B) (hne : g a ≠ g c) : cnt (pt (fun b => if g b = g c then g a else g b)) B + 1 = cnt (pt g) B := by
  obtain ⟨a0, a1, a2, a3⟩ := least (P := fun j => g j = g a) a rfl
  obtain ⟨c0, c1, c2, c3⟩ := least (P := fun j => g j = g c) c rfl
  have hac : a0 ≠ c0 := fun h => hne (by rw [← a2, ← c2, h])
  have main : ∀ d d' : Nat, d' < d → (d = a0 ∧ d' = c0 ∨ d = c0 ∧ d' = a0) → cnt (pt (fun b => if g b = g c then g a else g b)) B + 1 = cnt (pt g) B := by
    intro d d' hdd hd
    refine cnt_dn (d := d) B (by omega) (fun b hb => ?_) ?_ ?_
    · unfold pt
      refine decide_eq_decide.mpr ?_
      by_cases hbc : g b = g c
      · by_cases hb0 : b = c0
        · subst hb0
          have hd1 : b < a0 := by omega
          refine ⟨fun _ j hj hh => c3 j hj (hh.trans hbc), fun _ j hj => ?_⟩
          simp only [if_pos hbc, if_neg (c3 j hj)]
          exact fun hh => a3 j (by omega) hh
        · have hlt : c0 < b := by
            refine Nat.lt_of_le_of_ne (Nat.le_of_not_lt (fun hh => c3 b hh hbc)) (fun hh => hb0 hh.symm)
          refine ⟨fun h => absurd ?_ (h c0 hlt), fun h => absurd (c2.trans hbc.symm) (h c0 hlt)⟩
          simp only [if_pos hbc, if_pos c2]
      · by_cases hba : g b = g a
        · by_cases hb0 : b = a0
          · subst hb0
            have hd1 : b < c0 := by omega
            refine ⟨fun _ j hj hh => a3 j hj (hh.trans hba), fun _ j hj => ?_⟩
            simp only [if_neg hbc, if_neg (c3 j (by omega))]
            rw [hba]
            exact a3 j hj
          · have hlt : a0 < b := by
              refine Nat.lt_of_le_of_ne (Nat.le_of_not_lt (fun hh => a3 b hh hba)) (fun hh => hb0 hh.symm)
            refine ⟨fun h => absurd ?_ (h a0 hlt), fun h => absurd (a2.trans hba.symm) (h a0 hlt)⟩
            simp only [if_neg hbc, hba, a2, if_neg hne]
        · refine ⟨fun h j hj hh => ?_, fun h j hj => ?_⟩
          · have := h j hj
            simp only [if_neg hbc, hh] at this
            exact this rfl
          · simp only [if_neg hbc]
            by_cases hjc : g j = g c
            · rw [if_pos hjc]; exact fun hh => hba hh.symm
            · rw [if_neg hjc]; exact h j hj
    · unfold pt
      refine decide_eq_true ?_
      rcases hd with ⟨h1, h2⟩ | ⟨h1, h2⟩
      · intro j hj; rw [h1, a2]; exact a3 j (by omega)
      · intro j hj; rw [h1, c2]; exact c3 j (by omega)
    · unfold pt
      refine decide_eq_false (fun h => ?_)
      have := h d' hdd
      rcases hd with ⟨h1, h2⟩ | ⟨h1, h2⟩
      · rw [h1, h2] at this
        simp only [if_pos c2, a2, if_neg hne] at this
        exact this rfl
      · rw [h1, h2] at this
        simp only [if_pos c2, a2, if_neg hne] at this
        exact this rfl
  by_cases h : a0 < c0
  · exact main c0 a0 h (Or.inr ⟨rfl, rfl⟩)
  · exact main a0 c0 (by omega) (Or.inl ⟨rfl, rfl⟩)
theorem pt_id : ∀ n, cnt (pt (gr e x y 0)) n = n
  | 0 => rfl
  | n + 1 => by
    have : pt (gr e x y 0) n = true := by
      unfold pt
      refine decide_eq_true (fun j hj h => ?_)
      have : j = n := h
      omega
    rw [cnt_t this, pt_id n]
/-- as many bridges as parts and links together, or fewer -/
theorem fr_cnt : ∀ k, (∀ l, l < k → x l < B ∧ y l < B) → (frs e x y k = true → cnt e k + cnt (pt (gr e x y k)) B = B) ∧ (frs e x y k = false → B < cnt e k + cnt (pt (gr e x y k)) B)
  | 0, _ => ⟨fun _ => by rw [pt_id]; exact Nat.zero_add B, fun h => absurd (show true = false from h) (by decide)⟩
  | k + 1, hx => by
    obtain ⟨i1, i2⟩ := fr_cnt k (fun l hl => hx l (by omega))
    by_cases he : e k = true
    · rw [cnt_t he]
      by_cases hg : gr e x y k (x k) = gr e x y k (y k)
      · have e1 : gr e x y (k + 1) = gr e x y k := by
          funext b
          rw [gr_t he]
          by_cases hb : gr e x y k b = gr e x y k (y k)
          · rw [if_pos hb, hg, hb]
          · rw [if_neg hb]
        have e2 : frs e x y (k + 1) = false := by
          show (_ && !(e k && decide _)) = false
          rw [he, decide_eq_true hg]
          cases frs e x y k <;> rfl
        rw [e1, e2]
        refine ⟨fun h => absurd h (by decide), fun _ => ?_⟩
        by_cases hf : frs e x y k = true
        · have := i1 hf; omega
        · have := i2 (by revert hf; cases frs e x y k <;> simp); omega
      · have e1 : gr e x y (k + 1) = fun b => if gr e x y k b = gr e x y k (y k) then gr e x y k (x k) else gr e x y k b := by
          funext b
          exact gr_t he b
        have e2 : frs e x y (k + 1) = frs e x y k := by
          show (_ && !(e k && decide _)) = _
          rw [he, decide_eq_false hg]
          cases frs e x y k <;> rfl
        have := pt_merge (B := B) (hx k (by omega)).1 (hx k (by omega)).2 hg
        rw [e1, e2]
        exact ⟨fun h => by have := i1 h; omega, fun h => by have := i2 h; omega⟩
    · have he : e k = false := by revert he; cases e k <;> simp
      have e1 : gr e x y (k + 1) = gr e x y k := by
        funext b
        exact gr_f he b
      have e2 : frs e x y (k + 1) = frs e x y k := by
        show (_ && !(e k && decide _)) = _
        rw [he]
        cases frs e x y k <;> rfl
      rw [cnt_f he, e1, e2]
      exact ⟨i1, i2⟩
def smn (f : Nat → Nat) : Nat → Nat
  | 0 => 0
  | n + 1 => smn f n + f n
theorem smn_cg {f g : Nat → Nat} : ∀ n, (∀ k, k < n → f k = g k) → smn f n = smn g n
  | 0, _ => rfl
  | n + 1, h => by rw [smn, smn, smn_cg n (fun k hk => h k (by omega)), h n (by omega)]
theorem smn_add {f g : Nat → Nat} : ∀ n, smn (fun k => f k + g k) n = smn f n + smn g n
  | 0 => rfl
  | n + 1 => by rw [smn, smn, smn, smn_add n]; omega
theorem smn_cnt {p : Nat → Bool} : ∀ n, smn (fun k => if p k = true then 1 else 0) n = cnt p n
  | 0 => rfl
  | n + 1 => by rw [smn, smn_cnt n]; rfl
/-- how many of those behind b, below n -/
def cr (J : Nat → Nat → Bool) (b n : Nat) : Nat := cnt (fun o => decide (b < o) && J b o) n
theorem cr_0 {J : Nat → Nat → Bool} {b : Nat} : ∀ n, n ≤ b + 1 → cr J b n = 0
  | 0, _ => rfl
  | n + 1, h => by
    have := cr_0 (J := J) (b := b) n (by omega)
    unfold cr at this ⊢
    rw [cnt_f (by rw [decide_eq_false (by omega)]; rfl), this]
theorem cr_sum {J : Nat → Nat → Bool} : ∀ n, smn (fun b => cr J b n) n = smn (fun h => cnt (fun l => J l h) h) n
  | 0 => rfl
  | n + 1 => by
    rw [smn, smn, cr_0 (n + 1) (Nat.le_refl _), ← cr_sum n]
    have e1 : smn (fun b => cr J b (n + 1)) n = smn (fun b => cr J b n + (if J b n = true then 1 else 0)) n := by
      refine smn_cg n (fun b hb => ?_)
      unfold cr
      rw [cnt, decide_eq_true hb]
      rfl
    rw [e1, smn_add, smn_cnt (p := fun b => J b n)]
    rfl
end PG
