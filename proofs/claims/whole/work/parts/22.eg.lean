/-! Rules for the program's printed functions. -/
def pm_sub : List (Option Value) → List (Option Value) → Prop
  | [], [] => True
  | none :: a, _ :: b => pm_sub a b
  | some x :: a, y :: b => y = some x ∧ pm_sub a b
  | _, _ => False
theorem pm_sub.len : ∀ {a b : List (Option Value)}, pm_sub a b → a.length = b.length
  | [], [], _ => rfl
  | [], _ :: _, h => h.elim
  | none :: _, [], h => h.elim
  | some _ :: _, [], h => h.elim
  | none :: a, _ :: b, h => by rw [List.length_cons, List.length_cons, pm_sub.len (a := a) (b := b) h]
  | some _ :: a, _ :: b, h => by rw [List.length_cons, List.length_cons, pm_sub.len (a := a) (b := b) h.2]
theorem pm_sub.get : ∀ {a b : List (Option Value)}, pm_sub a b → ∀ (i : Nat) (x : Value), a[i]? = some (some x) → b[i]? = some (some x)
  | [], [], _, i, x, h => by simp at h
  | [], _ :: _, h, _, _, _ => h.elim
  | none :: _, [], h, _, _, _ => h.elim
  | some _ :: _, [], h, _, _, _ => h.elim
  | none :: a, _ :: b, h, 0, x, hx => by simp at hx
  | none :: a, _ :: b, h, i + 1, x, hx => pm_sub.get (a := a) (b := b) h i x hx
  | some _ :: a, _ :: b, h, 0, x, hx => by
    obtain ⟨h1, -⟩ := h
    rw [List.getElem?_cons_zero] at hx ⊢
    cases hx
    rw [h1]
  | some _ :: a, _ :: b, h, i + 1, x, hx => pm_sub.get (a := a) (b := b) h.2 i x hx
def qI (S : List sF) (x : Int32 × me) : Option Value → List va_E → Prop := fun r hp => r = some (.int x.1) ∧ hp = en S x.2
def qJ (S : List sF) (x : Int64 × me) : Option Value → List va_E → Prop := fun r hp => r = some (.long x.1) ∧ hp = en S x.2
def qV (S : List sF) (x : me) : Option Value → List va_E → Prop := fun r hp => r = none ∧ hp = en S x
def qF : String → List va_E → Prop := fun _ _ => False
def xnm (e : Nat) : String := if e = 0 then "java/lang/IndexOutOfBoundsException" else if e = 1 then "java/lang/IllegalArgumentException" else "java/lang/IllegalStateException"
def qTI (S : List sF) (x : (Int32 ⊕ Nat) × me) : Option Value → List va_E → Prop := fun r hp => ∃ v, x.1 = .inl v ∧ r = some (.int v) ∧ hp = en S x.2
def qTJ (S : List sF) (x : (Int64 ⊕ Nat) × me) : Option Value → List va_E → Prop := fun r hp => ∃ v, x.1 = .inl v ∧ r = some (.long v) ∧ hp = en S x.2
def qTV (S : List sF) (x : (Unit ⊕ Nat) × me) : Option Value → List va_E → Prop := fun r hp => x.1 = .inl () ∧ r = none ∧ hp = en S x.2
def qX {R : Type} (S : List sF) (x : (R ⊕ Nat) × me) : String → List va_E → Prop := fun E hp => ∃ e, x.1 = .inr e ∧ E = xnm e ∧ hp = en S x.2
def kC {R : Type} (x : (R ⊕ Nat) × me) : Nat := match x.1 with
  | .inl _ => 0
  | .inr _ => 1
def nC {R : Type} (x : (R ⊕ Nat) × me) : Nat := match x.1 with
  | .inl _ => 0
  | .inr _ => 6
/-- a value, or what was thrown -/
def tr {R β : Type} (x : R ⊕ Nat) (k : R → Option β) (kx : Nat → Option β) : Option β := match x with
  | .inl v => k v
  | .inr e => kx e
def sm {α β γ : Type} (x : α ⊕ β) (k : α → γ) (kx : β → γ) : γ := match x with
  | .inl v => k v
  | .inr e => kx e
def isB (x : Int32) : Bool := decide (x = 0 ∨ x = 1)
def nz (x : Int32) : Bool := !decide (x = 0)
theorem isB_nar {x : Int32} (h : isB x = true) : narrow .boolean (.int x) = .int x := by
  unfold isB at h
  rw [decide_eq_true_eq] at h
  rcases h with rfl | rfl <;> rfl
theorem nz_ne {x : Int32} (h : nz x = true) : ¬ x = 0 := by
  unfold nz at h
  simpa using h
section PMT
variable {g : pm_Gl} {M C : pm_M} {X : pm_X} {pc k n : Nat} {ls ls' : List (Option Value)} {st : List Value} {S : List sF} {m : me} {a b o : Nat} {F : sF} {hp : List va_E}
theorem eg_forget (ls' : List (Option Value)) (h : pm_sub ls' ls) (kk : pm_G g M X pc ls' st hp k n) : pm_G g M X pc ls st hp k n := pg_forget h.len h.get kk
/-- stores, the new locals told -/
theorem eg_istore_n {i : Fin 4} {x : Int32} (ls' : List (Option Value)) (z : Int32) (hd : decode M.2.1 pc = .ok (.istore_n i, 1)) (hz : z = x) (hi : (i : Nat) < ls.length) (he : pm_st1 ls (i : Nat) (.int z) = ls') (kk : pm_G g M X (pc + 1) ls' st hp k n) : pm_G g M X pc ls (.int x :: st) hp k n := by
  subst hz
  exact pg_istore_n hd hi (by rw [he]; exact kk)
theorem eg_istore {i : Nat} {x : Int32} (ls' : List (Option Value)) (z : Int32) (hd : decode M.2.1 pc = .ok (.istore i, 2)) (hz : z = x) (hi : i < ls.length) (he : pm_st1 ls i (.int z) = ls') (kk : pm_G g M X (pc + 2) ls' st hp k n) : pm_G g M X pc ls (.int x :: st) hp k n := by
  subst hz
  exact pg_istore hd hi (by rw [he]; exact kk)
theorem eg_lstore_n {i : Fin 4} {x : Int64} (ls' : List (Option Value)) (z : Int64) (hd : decode M.2.1 pc = .ok (.lstore_n i, 1)) (hz : z = x) (hi : (i : Nat) + 1 < ls.length) (he : pm_st2 ls (i : Nat) (.long z) = ls') (kk : pm_G g M X (pc + 1) ls' st hp k n) : pm_G g M X pc ls (.long x :: st) hp k n := by
  subst hz
  exact pg_lstore_n hd hi (by rw [he]; exact kk)
theorem eg_astore_n {i : Fin 4} {x : Nat} (ls' : List (Option Value)) (hd : decode M.2.1 pc = .ok (.astore_n i, 1)) (hi : (i : Nat) < ls.length) (he : pm_st1 ls (i : Nat) (.ref x) = ls') (kk : pm_G g M X (pc + 1) ls' st hp k n) : pm_G g M X pc ls (.ref x :: st) hp k n := pg_astore_n hd hi (by rw [he]; exact kk)
theorem eg_astore {i x : Nat} (ls' : List (Option Value)) (hd : decode M.2.1 pc = .ok (.astore i, 2)) (hi : i < ls.length) (he : pm_st1 ls i (.ref x) = ls') (kk : pm_G g M X (pc + 2) ls' st hp k n) : pm_G g M X pc ls (.ref x :: st) hp k n := pg_astore hd hi (by rw [he]; exact kk)
theorem eg_iinc {i : Nat} {j : Int} {x : Int32} (ls' : List (Option Value)) (z v : Int32) (hd : decode M.2.1 pc = .ok (.iinc i j, 3)) (hi : ls[i]? = some (some (.int x))) (hv : Int32.ofInt j = v) (hz : z = x + v) (he : pm_st1 ls i (.int z) = ls') (kk : pm_G g M X (pc + 3) ls' st hp k n) : pm_G g M X pc ls st hp k n := by
  subst hz
  exact pg_iinc v hd hi hv (by rw [he]; exact kk)
/-- calls by contracts over memories -/
theorem eg_cVi {np idx ci : Nat} {as st0 fs : List Value} {x : Int32 × me} (hd : decode M.2.1 pc = .ok (.invokevirtual idx, 3)) (hlk : Cond.methodLink M.1.cls idx C.1 ∈ pm_tbl) (hcv : pm_cv C np ci) (hS : pS a b S) (hs : shs[o]? = some F) (h1 : a ≤ o) (h2 : o < b) (hF : F (m.1 o) (m.2.1 o) (m.2.2 o) = .inr (ci, fs)) (hst : st0 = as.reverse ++ .ref o :: st) (hlen : as.length = np) (hw : (st.map fun v => v.category).sum ≤ 8) (hls : ls.length = M.2.2.1) (hroom : C.2.2.2.1 + 1 ≤ M.2.2.2.1 ∧ 8 + (C.2.2.1 + 11) + C.2.2.2.2.1 ≤ M.2.2.2.2.1) (hc : pm_Ct g C (.ref o :: as) (en S m) 0 0 (qI S x) qF) (kk : pm_G g M X (pc + 3) ls (.int x.1 :: st) (en S x.2) 0 0) : pm_G g M X pc ls st0 (en S m) 0 0 :=
  pg_callV hd hlk hcv ((en_get ((hS o h1 h2).trans hs)).trans (congrArg some hF)) hst hlen hw hls hroom ⟨Nat.zero_le _, Nat.zero_le _⟩ hc (fun r hp' hq => by obtain ⟨rfl, rfl⟩ := hq; exact kk) (fun _ _ h => h.elim)
theorem eg_cVj {np idx ci : Nat} {as st0 fs : List Value} {x : Int64 × me} (hd : decode M.2.1 pc = .ok (.invokevirtual idx, 3)) (hlk : Cond.methodLink M.1.cls idx C.1 ∈ pm_tbl) (hcv : pm_cv C np ci) (hS : pS a b S) (hs : shs[o]? = some F) (h1 : a ≤ o) (h2 : o < b) (hF : F (m.1 o) (m.2.1 o) (m.2.2 o) = .inr (ci, fs)) (hst : st0 = as.reverse ++ .ref o :: st) (hlen : as.length = np) (hw : (st.map fun v => v.category).sum ≤ 8) (hls : ls.length = M.2.2.1) (hroom : C.2.2.2.1 + 1 ≤ M.2.2.2.1 ∧ 8 + (C.2.2.1 + 11) + C.2.2.2.2.1 ≤ M.2.2.2.2.1) (hc : pm_Ct g C (.ref o :: as) (en S m) 0 0 (qJ S x) qF) (kk : pm_G g M X (pc + 3) ls (.long x.1 :: st) (en S x.2) 0 0) : pm_G g M X pc ls st0 (en S m) 0 0 :=
  pg_callV hd hlk hcv ((en_get ((hS o h1 h2).trans hs)).trans (congrArg some hF)) hst hlen hw hls hroom ⟨Nat.zero_le _, Nat.zero_le _⟩ hc (fun r hp' hq => by obtain ⟨rfl, rfl⟩ := hq; exact kk) (fun _ _ h => h.elim)
theorem eg_cVv {np idx ci : Nat} {as st0 fs : List Value} {x : me} (hd : decode M.2.1 pc = .ok (.invokevirtual idx, 3)) (hlk : Cond.methodLink M.1.cls idx C.1 ∈ pm_tbl) (hcv : pm_cv C np ci) (hS : pS a b S) (hs : shs[o]? = some F) (h1 : a ≤ o) (h2 : o < b) (hF : F (m.1 o) (m.2.1 o) (m.2.2 o) = .inr (ci, fs)) (hst : st0 = as.reverse ++ .ref o :: st) (hlen : as.length = np) (hw : (st.map fun v => v.category).sum ≤ 8) (hls : ls.length = M.2.2.1) (hroom : C.2.2.2.1 + 1 ≤ M.2.2.2.1 ∧ 8 + (C.2.2.1 + 11) + C.2.2.2.2.1 ≤ M.2.2.2.2.1) (hc : pm_Ct g C (.ref o :: as) (en S m) 0 0 (qV S x) qF) (kk : pm_G g M X (pc + 3) ls st (en S x) 0 0) : pm_G g M X pc ls st0 (en S m) 0 0 :=
  pg_callV hd hlk hcv ((en_get ((hS o h1 h2).trans hs)).trans (congrArg some hF)) hst hlen hw hls hroom ⟨Nat.zero_le _, Nat.zero_le _⟩ hc (fun r hp' hq => by obtain ⟨rfl, rfl⟩ := hq; exact kk) (fun _ _ h => h.elim)
theorem eg_cSi {np idx : Nat} {as st0 : List Value} {x : Int32 × me} (hd : decode M.2.1 pc = .ok (.invokestatic idx, 3)) (hlk : Cond.methodLink M.1.cls idx C.1 ∈ pm_tbl) (hcv : pm_cs C np) (hst : st0 = as.reverse ++ st) (hlen : as.length = np) (hw : (st.map fun v => v.category).sum ≤ 8) (hls : ls.length = M.2.2.1) (hroom : C.2.2.2.1 + 1 ≤ M.2.2.2.1 ∧ 8 + (C.2.2.1 + 11) + C.2.2.2.2.1 ≤ M.2.2.2.2.1) (hc : pm_Ct g C as (en S m) 0 0 (qI S x) qF) (kk : pm_G g M X (pc + 3) ls (.int x.1 :: st) (en S x.2) 0 0) : pm_G g M X pc ls st0 (en S m) 0 0 :=
  pg_callS hd hlk hcv hst hlen hw hls hroom ⟨Nat.zero_le _, Nat.zero_le _⟩ hc (fun r hp' hq => by obtain ⟨rfl, rfl⟩ := hq; exact kk) (fun _ _ h => h.elim)
theorem eg_cSj {np idx : Nat} {as st0 : List Value} {x : Int64 × me} (hd : decode M.2.1 pc = .ok (.invokestatic idx, 3)) (hlk : Cond.methodLink M.1.cls idx C.1 ∈ pm_tbl) (hcv : pm_cs C np) (hst : st0 = as.reverse ++ st) (hlen : as.length = np) (hw : (st.map fun v => v.category).sum ≤ 8) (hls : ls.length = M.2.2.1) (hroom : C.2.2.2.1 + 1 ≤ M.2.2.2.1 ∧ 8 + (C.2.2.1 + 11) + C.2.2.2.2.1 ≤ M.2.2.2.2.1) (hc : pm_Ct g C as (en S m) 0 0 (qJ S x) qF) (kk : pm_G g M X (pc + 3) ls (.long x.1 :: st) (en S x.2) 0 0) : pm_G g M X pc ls st0 (en S m) 0 0 :=
  pg_callS hd hlk hcv hst hlen hw hls hroom ⟨Nat.zero_le _, Nat.zero_le _⟩ hc (fun r hp' hq => by obtain ⟨rfl, rfl⟩ := hq; exact kk) (fun _ _ h => h.elim)
theorem eg_cSv {np idx : Nat} {as st0 : List Value} {x : me} (hd : decode M.2.1 pc = .ok (.invokestatic idx, 3)) (hlk : Cond.methodLink M.1.cls idx C.1 ∈ pm_tbl) (hcv : pm_cs C np) (hst : st0 = as.reverse ++ st) (hlen : as.length = np) (hw : (st.map fun v => v.category).sum ≤ 8) (hls : ls.length = M.2.2.1) (hroom : C.2.2.2.1 + 1 ≤ M.2.2.2.1 ∧ 8 + (C.2.2.1 + 11) + C.2.2.2.2.1 ≤ M.2.2.2.2.1) (hc : pm_Ct g C as (en S m) 0 0 (qV S x) qF) (kk : pm_G g M X (pc + 3) ls st (en S x) 0 0) : pm_G g M X pc ls st0 (en S m) 0 0 :=
  pg_callS hd hlk hcv hst hlen hw hls hroom ⟨Nat.zero_le _, Nat.zero_le _⟩ hc (fun r hp' hq => by obtain ⟨rfl, rfl⟩ := hq; exact kk) (fun _ _ h => h.elim)
theorem eg_cNi {np : Nat} {as st0 : List Value} {x : Int32 × me} (hd : decode M.2.1 pc = .ok (.invokestatic 82, 3)) (hM : M.1.cls = RX4) (hC : C.1 = yX11_isOutside) (hcv : pm_cs C np) (hst : st0 = as.reverse ++ st) (hlen : as.length = np) (hw : (st.map fun v => v.category).sum ≤ 8) (hls : ls.length = M.2.2.1) (hroom : C.2.2.2.1 + 1 ≤ M.2.2.2.1 ∧ 8 + (C.2.2.1 + 11) + C.2.2.2.2.1 ≤ M.2.2.2.2.1) (hc : pm_Ct g C as (en S m) 0 0 (qI S x) qF) (kk : pm_G g M X (pc + 3) ls (.int x.1 :: st) (en S x.2) 0 0) : pm_G g M X pc ls st0 (en S m) 0 0 :=
  pg_callSN hd hM hC hcv hst hlen hw hls hroom ⟨Nat.zero_le _, Nat.zero_le _⟩ hc (fun r hp' hq => by obtain ⟨rfl, rfl⟩ := hq; exact kk) (fun _ _ h => h.elim)
/-- calls that may throw: the value's case, the exception's case -/
theorem eg_tVi {np idx ci : Nat} {as st0 fs : List Value} {x : (Int32 ⊕ Nat) × me} (hd : decode M.2.1 pc = .ok (.invokevirtual idx, 3)) (hlk : Cond.methodLink M.1.cls idx C.1 ∈ pm_tbl) (hcv : pm_cv C np ci) (hS : pS a b S) (hs : shs[o]? = some F) (h1 : a ≤ o) (h2 : o < b) (hF : F (m.1 o) (m.2.1 o) (m.2.2 o) = .inr (ci, fs)) (hst : st0 = as.reverse ++ .ref o :: st) (hlen : as.length = np) (hw : (st.map fun v => v.category).sum ≤ 8) (hls : ls.length = M.2.2.1) (hroom : C.2.2.2.1 + 1 ≤ M.2.2.2.1 ∧ 8 + (C.2.2.1 + 11) + C.2.2.2.2.1 ≤ M.2.2.2.2.1) (hc : pm_Ct g C (.ref o :: as) (en S m) (kC x) (nC x) (qTI S x) (qX S x)) (kk : ∀ v, x.1 = .inl v → pm_G g M X (pc + 3) ls (.int v :: st) (en S x.2) 0 0) (kx : ∀ e, x.1 = .inr e → (1 ≤ pm_kb X ∧ 6 ≤ pm_nb X) ∧ pm_GX g M X (xnm e) pc ls st (en S x.2) 1 6) : pm_G g M X pc ls st0 (en S m) 0 0 := by
  obtain ⟨x1, m1⟩ := x
  cases x1 with
  | inl v => exact pg_callV hd hlk hcv ((en_get ((hS o h1 h2).trans hs)).trans (congrArg some hF)) hst hlen hw hls hroom ⟨Nat.zero_le _, Nat.zero_le _⟩ hc (fun r hp' hq => by obtain ⟨w, e1, rfl, rfl⟩ := hq; cases e1; exact kk v rfl) (fun _ _ h => by obtain ⟨w, e1, -⟩ := h; cases e1)
  | inr e => exact pg_callV hd hlk hcv ((en_get ((hS o h1 h2).trans hs)).trans (congrArg some hF)) hst hlen hw hls hroom (by rw [Nat.zero_add, Nat.zero_add]; exact (kx e rfl).1) hc (fun r hp' hq => by obtain ⟨w, e1, -⟩ := hq; cases e1) (fun E hp' h => by obtain ⟨w, e1, rfl, rfl⟩ := h; cases e1; exact (kx e rfl).2)
theorem eg_tVj {np idx ci : Nat} {as st0 fs : List Value} {x : (Int64 ⊕ Nat) × me} (hd : decode M.2.1 pc = .ok (.invokevirtual idx, 3)) (hlk : Cond.methodLink M.1.cls idx C.1 ∈ pm_tbl) (hcv : pm_cv C np ci) (hS : pS a b S) (hs : shs[o]? = some F) (h1 : a ≤ o) (h2 : o < b) (hF : F (m.1 o) (m.2.1 o) (m.2.2 o) = .inr (ci, fs)) (hst : st0 = as.reverse ++ .ref o :: st) (hlen : as.length = np) (hw : (st.map fun v => v.category).sum ≤ 8) (hls : ls.length = M.2.2.1) (hroom : C.2.2.2.1 + 1 ≤ M.2.2.2.1 ∧ 8 + (C.2.2.1 + 11) + C.2.2.2.2.1 ≤ M.2.2.2.2.1) (hc : pm_Ct g C (.ref o :: as) (en S m) (kC x) (nC x) (qTJ S x) (qX S x)) (kk : ∀ v, x.1 = .inl v → pm_G g M X (pc + 3) ls (.long v :: st) (en S x.2) 0 0) (kx : ∀ e, x.1 = .inr e → (1 ≤ pm_kb X ∧ 6 ≤ pm_nb X) ∧ pm_GX g M X (xnm e) pc ls st (en S x.2) 1 6) : pm_G g M X pc ls st0 (en S m) 0 0 := by
  obtain ⟨x1, m1⟩ := x
  cases x1 with
  | inl v => exact pg_callV hd hlk hcv ((en_get ((hS o h1 h2).trans hs)).trans (congrArg some hF)) hst hlen hw hls hroom ⟨Nat.zero_le _, Nat.zero_le _⟩ hc (fun r hp' hq => by obtain ⟨w, e1, rfl, rfl⟩ := hq; cases e1; exact kk v rfl) (fun _ _ h => by obtain ⟨w, e1, -⟩ := h; cases e1)
  | inr e => exact pg_callV hd hlk hcv ((en_get ((hS o h1 h2).trans hs)).trans (congrArg some hF)) hst hlen hw hls hroom (by rw [Nat.zero_add, Nat.zero_add]; exact (kx e rfl).1) hc (fun r hp' hq => by obtain ⟨w, e1, -⟩ := hq; cases e1) (fun E hp' h => by obtain ⟨w, e1, rfl, rfl⟩ := h; cases e1; exact (kx e rfl).2)
theorem eg_tSv {np idx : Nat} {as st0 : List Value} {x : (Unit ⊕ Nat) × me} (hd : decode M.2.1 pc = .ok (.invokestatic idx, 3)) (hlk : Cond.methodLink M.1.cls idx C.1 ∈ pm_tbl) (hcv : pm_cs C np) (hst : st0 = as.reverse ++ st) (hlen : as.length = np) (hw : (st.map fun v => v.category).sum ≤ 8) (hls : ls.length = M.2.2.1) (hroom : C.2.2.2.1 + 1 ≤ M.2.2.2.1 ∧ 8 + (C.2.2.1 + 11) + C.2.2.2.2.1 ≤ M.2.2.2.2.1) (hc : pm_Ct g C as (en S m) (kC x) (nC x) (qTV S x) (qX S x)) (kk : ∀ v, x.1 = .inl v → pm_G g M X (pc + 3) ls st (en S x.2) 0 0) (kx : ∀ e, x.1 = .inr e → (1 ≤ pm_kb X ∧ 6 ≤ pm_nb X) ∧ pm_GX g M X (xnm e) pc ls st (en S x.2) 1 6) : pm_G g M X pc ls st0 (en S m) 0 0 := by
  obtain ⟨x1, m1⟩ := x
  cases x1 with
  | inl v => exact pg_callS hd hlk hcv hst hlen hw hls hroom ⟨Nat.zero_le _, Nat.zero_le _⟩ hc (fun r hp' hq => by obtain ⟨e1, rfl, rfl⟩ := hq; exact kk v rfl) (fun _ _ h => by obtain ⟨w, e1, -⟩ := h; cases e1)
  | inr e => exact pg_callS hd hlk hcv hst hlen hw hls hroom (by rw [Nat.zero_add, Nat.zero_add]; exact (kx e rfl).1) hc (fun r hp' hq => by obtain ⟨e1, -⟩ := hq; cases e1) (fun E hp' h => by obtain ⟨w, e1, rfl, rfl⟩ := h; cases e1; exact (kx e rfl).2)
end PMT
section PMU
variable {g : pm_Gl} {M C : pm_M} {X : pm_X} {pc k n : Nat} {ls ls' : List (Option Value)} {st : List Value} {S : List sF} {m : me} {a b o : Nat} {F : sF} {hp : List va_E}
theorem eg_ialdJ {N : Nat} {i : Int32} (j : Nat) (hd : decode M.2.1 pc = .ok (.iaload, 1)) (hS : pS a b S) (hs : shs[o]? = some F) (h1 : a ≤ o) (h2 : o < b) (hF : F (m.1 o) (m.2.1 o) (m.2.2 o) = .inl (0, N, .inl (m.1 o))) (hi : vp_in i N) (hj : i.toNatClampNeg = j) (kk : pm_G g M X (pc + 1) ls (.int (m.1 o j) :: st) (en S m) k n) : pm_G g M X pc ls (.int i :: .ref o :: st) (en S m) k n := by
  subst hj
  exact eg_iald hd hS hs h1 h2 hF hi kk
theorem eg_zaldJ {N : Nat} {i : Int32} (j : Nat) (hd : decode M.2.1 pc = .ok (.baload, 1)) (hS : pS a b S) (hs : shs[o]? = some F) (h1 : a ≤ o) (h2 : o < b) (hF : F (m.1 o) (m.2.1 o) (m.2.2 o) = .inl (1, N, .inl (m.1 o))) (hi : vp_in i N) (hj : i.toNatClampNeg = j) (kk : pm_G g M X (pc + 1) ls (.int (m.1 o j) :: st) (en S m) k n) : pm_G g M X pc ls (.int i :: .ref o :: st) (en S m) k n := by
  subst hj
  exact eg_zald hd hS hs h1 h2 hF hi kk
theorem eg_iastJ {N : Nat} {i x : Int32} (j : Nat) (hd : decode M.2.1 pc = .ok (.iastore, 1)) (hS : pS a b S) (hs : shs[o]? = some F) (h1 : a ≤ o) (h2 : o < b) (hF : ∀ f h r, F f h r = .inl (0, N, .inl f)) (hi : vp_in i N) (hj : i.toNatClampNeg = j) (kk : ∀ m', m' = wI m o j x → pm_G g M X (pc + 1) ls st (en S m') k n) : pm_G g M X pc ls (.int x :: .int i :: .ref o :: st) (en S m) k n := by
  subst hj
  exact eg_iast hd hS hs h1 h2 hF hi kk
theorem eg_zastJ {N : Nat} {i x : Int32} (j : Nat) (hd : decode M.2.1 pc = .ok (.bastore, 1)) (hS : pS a b S) (hs : shs[o]? = some F) (h1 : a ≤ o) (h2 : o < b) (hF : ∀ f h r, F f h r = .inl (1, N, .inl f)) (hi : vp_in i N) (hx : vp_nar .boolean x = x) (hj : i.toNatClampNeg = j) (kk : ∀ m', m' = wI m o j x → pm_G g M X (pc + 1) ls st (en S m') k n) : pm_G g M X pc ls (.int x :: .int i :: .ref o :: st) (en S m) k n := by
  subst hj
  exact eg_zast hd hS hs h1 h2 hF hi hx kk
theorem eg_aaldJ {N q : Nat} {i : Int32} (j : Nat) (hd : decode M.2.1 pc = .ok (.aaload, 1)) (hS : pS a b S) (hs : shs[o]? = some F) (h1 : a ≤ o) (h2 : o < b) (hF : F (m.1 o) (m.2.1 o) (m.2.2 o) = .inl (3, N, .inr (.inr (.inr (.inr (m.2.2 o)))))) (hi : vp_in i N) (hj : i.toNatClampNeg = j) (hq : m.2.2 o j = some q) (kk : pm_G g M X (pc + 1) ls (.ref q :: st) (en S m) k n) : pm_G g M X pc ls (.int i :: .ref o :: st) (en S m) k n := by
  subst hj
  exact eg_aald hd hS hs h1 h2 hF hi hq kk
theorem eg_aastJ {N q : Nat} {i : Int32} {F2 : sF} {fs : List Value} (j : Nat) (hd : decode M.2.1 pc = .ok (.aastore, 1)) (hS : pS a b S) (hs : shs[o]? = some F) (h1 : a ≤ o) (h2 : o < b) (hF : ∀ f h r, F f h r = .inl (3, N, .inr (.inr (.inr (.inr r))))) (hs2 : shs[q]? = some F2) (h3 : a ≤ q) (h4 : q < b) (hF2 : F2 (m.1 q) (m.2.1 q) (m.2.2 q) = .inr (3, fs)) (hi : vp_in i N) (hj : i.toNatClampNeg = j) (kk : ∀ m', m' = wR m o j q → pm_G g M X (pc + 1) ls st (en S m') k n) : pm_G g M X pc ls (.ref q :: .int i :: .ref o :: st) (en S m) k n := by
  subst hj
  exact eg_aast hd hS hs h1 h2 hF hs2 h3 h4 hF2 hi kk
/-- a row of ints copied from its start -/
theorem eg_copyI {idx q N0 N1 n9 : Nat} {F1 : sF} {x : Int32} (hd : decode M.2.1 pc = .ok (.invokestatic idx, 3)) (hw1 : Cond.methodLink M.1.cls idx arraycopyName ∈ pm_tbl) (hw2 : Cond.native arraycopyName ∈ pm_tbl) (hw3 : Cond.static arraycopyName ∈ pm_tbl) (hw4 : Cond.initialized "java/lang/System" ∈ pm_tbl)
    (hS : pS a b S) (hs : shs[o]? = some F) (h1 : a ≤ o) (h2 : o < b) (hF : F (m.1 o) (m.2.1 o) (m.2.2 o) = .inl (0, N0, .inl (m.1 o))) (hs1 : shs[q]? = some F1) (h3 : a ≤ q) (h4 : q < b) (hF1 : ∀ f h r, F1 f h r = .inl (0, N1, .inl f)) (g3 : ¬ x < 0) (hx : x.toNatClampNeg = n9) (g4 : n9 ≤ N0) (g5 : n9 ≤ N1)
    (hls : ls.length = M.2.2.1) (hfr : 1 ≤ M.2.2.2.1) (hlo : (st.map fun v => v.category).sum + 18 ≤ M.2.2.2.2.1)
    (kk : ∀ m', m' = cp m o q 0 0 n9 → pm_G g M X (pc + 3) ls st (en S m') k n) : pm_G g M X pc ls (.int x :: .int 0 :: .ref q :: .int 0 :: .ref o :: st) (en S m) k n := by
  subst hx
  exact eg_copy (t := 0) (ty := .int) hd hw1 hw2 hw3 hw4 rfl rfl hS hs h1 h2 hF hs1 h3 h4 hF1 (by decide) (by decide) g3 (by rw [sb_cl0, Nat.zero_add]; exact g4) (by rw [sb_cl0, Nat.zero_add]; exact g5) (fun _ _ => rfl) hls hfr hlo (fun m' hm => kk m' (by rw [hm, sb_cl0]))
/-- a row of booleans copied from its start -/
theorem eg_copyZ {idx q N0 N1 n9 : Nat} {F1 : sF} {x : Int32} (hd : decode M.2.1 pc = .ok (.invokestatic idx, 3)) (hw1 : Cond.methodLink M.1.cls idx arraycopyName ∈ pm_tbl) (hw2 : Cond.native arraycopyName ∈ pm_tbl) (hw3 : Cond.static arraycopyName ∈ pm_tbl) (hw4 : Cond.initialized "java/lang/System" ∈ pm_tbl)
    (hS : pS a b S) (hs : shs[o]? = some F) (h1 : a ≤ o) (h2 : o < b) (hF : F (m.1 o) (m.2.1 o) (m.2.2 o) = .inl (1, N0, .inl (m.1 o))) (hs1 : shs[q]? = some F1) (h3 : a ≤ q) (h4 : q < b) (hF1 : ∀ f h r, F1 f h r = .inl (1, N1, .inl f)) (g3 : ¬ x < 0) (hx : x.toNatClampNeg = n9) (g4 : n9 ≤ N0) (g5 : n9 ≤ N1) (hfit : (List.range n9).all (fun i => isB (m.1 o i)) = true)
    (hls : ls.length = M.2.2.1) (hfr : 1 ≤ M.2.2.2.1) (hlo : (st.map fun v => v.category).sum + 18 ≤ M.2.2.2.2.1)
    (kk : ∀ m', m' = cp m o q 0 0 n9 → pm_G g M X (pc + 3) ls st (en S m') k n) : pm_G g M X pc ls (.int x :: .int 0 :: .ref q :: .int 0 :: .ref o :: st) (en S m) k n := by
  subst hx
  refine eg_copy (t := 1) (ty := .boolean) hd hw1 hw2 hw3 hw4 rfl rfl hS hs h1 h2 hF hs1 h3 h4 hF1 (by decide) (by decide) g3 (by rw [sb_cl0, Nat.zero_add]; exact g4) (by rw [sb_cl0, Nat.zero_add]; exact g5) (fun i hi => ?_) hls hfr hlo (fun m' hm => kk m' (by rw [hm, sb_cl0]))
  have h5 := List.all_eq_true.mp hfit i (List.mem_range.mpr hi)
  rw [sb_cl0, Nat.zero_add]
  unfold isB at h5
  rw [decide_eq_true_eq] at h5
  rcases h5 with h5 | h5 <;> rw [h5] <;> rfl
end PMU
