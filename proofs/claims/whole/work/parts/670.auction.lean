/-! Auctions. -/
section PA0
variable {o : Nat → Nat}
/-- the greatest offer of the first t tenants, but one -/
def mxv (o : Nat → Nat) (but : Nat) : Nat → Nat
  | 0 => 0
  | t + 1 => if t = but then mxv o but t else if o t ≤ mxv o but t then mxv o but t else o t
/-- the tenant with it; 4 for none -/
def gt (o : Nat → Nat) (but : Nat) : Nat → Nat
  | 0 => 4
  | t + 1 => if t = but then gt o but t else if o t = 0 then gt o but t else if gt o but t = 4 then t else if o t ≤ o (gt o but t) then gt o but t else t
/-- winner, greatest and second in one pass -/
def cs (o : Nat → Nat) : Nat → Nat × Nat × Nat
  | 0 => (4, 0, 0)
  | t + 1 => if o t ≤ (cs o t).2.1 then (if o t ≤ (cs o t).2.2 then cs o t else ((cs o t).1, (cs o t).2.1, o t)) else (t, o t, (cs o t).2.1)
theorem mxv_s {but t : Nat} (h : t ≠ but) : mxv o but (t + 1) = if o t ≤ mxv o but t then mxv o but t else o t := by rw [mxv, if_neg h]
theorem gtv (but : Nat) : ∀ t, t ≤ 4 → (gt o but t = 4 ∧ mxv o but t = 0) ∨ (gt o but t < t ∧ gt o but t ≠ but ∧ o (gt o but t) = mxv o but t ∧ 0 < mxv o but t)
  | 0, _ => Or.inl ⟨rfl, rfl⟩
  | t + 1, ht => by
    have ih := gtv but t (by omega)
    rw [gt, mxv]
    by_cases hb : t = but
    · rw [if_pos hb, if_pos hb]
      rcases ih with ih | ⟨h1, h2, h3, h4⟩
      · exact Or.inl ih
      · exact Or.inr ⟨by omega, h2, h3, h4⟩
    · rw [if_neg hb, if_neg hb]
      by_cases h0 : o t = 0
      · rw [if_pos h0, if_pos (by omega)]
        rcases ih with ih | ⟨h1, h2, h3, h4⟩
        · exact Or.inl ih
        · exact Or.inr ⟨by omega, h2, h3, h4⟩
      · rw [if_neg h0]
        rcases ih with ⟨h1, h2⟩ | ⟨h1, h2, h3, h4⟩
        · rw [if_pos h1, h2, if_neg (by omega)]
          exact Or.inr ⟨by omega, hb, rfl, by omega⟩
        · rw [if_neg (by omega)]
          by_cases hle : o t ≤ o (gt o but t)
          · rw [if_pos hle, if_pos (by omega)]
            exact Or.inr ⟨by omega, h2, h3, h4⟩
          · rw [if_neg hle, if_neg (by omega)]
            exact Or.inr ⟨by omega, hb, rfl, by omega⟩
theorem mxv_far {b c : Nat} : ∀ t, t ≤ b → t ≤ c → mxv o b t = mxv o c t
  | 0, _, _ => rfl
  | t + 1, h1, h2 => by rw [mxv_s (show t ≠ b by omega), mxv_s (show t ≠ c by omega), mxv_far (b := b) (c := c) t (by omega) (by omega)]
theorem cs_eq : ∀ t, t ≤ 4 → cs o t = (gt o 4 t, mxv o 4 t, mxv o (gt o 4 t) t)
  | 0, _ => rfl
  | t + 1, ht => by
    have ih := cs_eq t (by omega)
    have hg := gtv (o := o) 4 t (by omega)
    rw [cs, ih]
    show (if o t ≤ mxv o 4 t then (if o t ≤ mxv o (gt o 4 t) t then (gt o 4 t, mxv o 4 t, mxv o (gt o 4 t) t) else (gt o 4 t, mxv o 4 t, o t)) else (t, o t, mxv o 4 t)) = _
    by_cases h1 : o t ≤ mxv o 4 t
    · have e1 : gt o 4 (t + 1) = gt o 4 t := by
        rw [gt, if_neg (by omega)]
        by_cases h0 : o t = 0
        · rw [if_pos h0]
        · rw [if_neg h0]
          rcases hg with ⟨g1, g2⟩ | ⟨g1, g2, g3, g4⟩
          · omega
          · rw [if_neg (by omega), if_pos (by omega)]
      have hne : t ≠ gt o 4 t := by
        rcases hg with ⟨g1, g2⟩ | ⟨g1, g2, g3, g4⟩ <;> omega
      rw [if_pos h1, e1, mxv_s (show t ≠ 4 by omega), if_pos h1, mxv_s hne]
      by_cases h2 : o t ≤ mxv o (gt o 4 t) t
      · rw [if_pos h2, if_pos h2]
      · rw [if_neg h2, if_neg h2]
    · have e1 : gt o 4 (t + 1) = t := by
        rw [gt, if_neg (by omega), if_neg (by omega)]
        rcases hg with ⟨g1, g2⟩ | ⟨g1, g2, g3, g4⟩
        · rw [if_pos g1]
        · rw [if_neg (by omega), if_neg (by omega)]
      rw [if_neg h1, e1, mxv_s (show t ≠ 4 by omega), if_neg h1, mxv, if_pos rfl, mxv_far (b := t) (c := 4) t (Nat.le_refl t) (by omega)]
theorem mxv_le {K but : Nat} : ∀ t, (∀ i, i < t → o i ≤ K) → mxv o but t ≤ K
  | 0, _ => Nat.zero_le K
  | t + 1, h => by
    have ih := mxv_le (but := but) t (fun i hi => h i (by omega))
    have := h t (by omega)
    rw [mxv]
    by_cases hb : t = but
    · rw [if_pos hb]; exact ih
    · rw [if_neg hb]
      by_cases hl : o t ≤ mxv o but t
      · rw [if_pos hl]; exact ih
      · rw [if_neg hl]; exact this
theorem mxv_cg {o' : Nat → Nat} {but : Nat} : ∀ t, (∀ i, i < t → o i = o' i) → mxv o but t = mxv o' but t
  | 0, _ => rfl
  | t + 1, h => by rw [mxv, mxv, mxv_cg t (fun i hi => h i (by omega)), h t (by omega)]
theorem gt_cg {o' : Nat → Nat} {but : Nat} : ∀ t, t ≤ 4 → (∀ i, i < t → o i = o' i) → gt o but t = gt o' but t
  | 0, _, _ => rfl
  | t + 1, ht, h => by
    have ih := gt_cg (but := but) t (by omega) (fun i hi => h i (by omega))
    have hg := gtv (o := o) but t (by omega)
    rw [gt, gt, ← ih, h t (by omega)]
    by_cases h4 : gt o but t = 4
    · rw [if_pos h4, if_pos h4]
    · rw [if_neg h4, if_neg h4, h _ (by rcases hg with ⟨g, -⟩ | ⟨g, -⟩ <;> omega)]
end PA0
def nv (x : Int32) : Nat := x.toNatClampNeg
def encW (w : Nat) : Int32 := if w = 4 then n1 else nI w
/-- the offer that counts -/
def ofr (S : Nat → Int32) (l t : Nat) : Nat := if S (187 + 3 * t) < S (199 + 18 * l + (14 + t)) then 0 else nv (S (199 + 18 * l + (14 + t)))
def wS (S : Nat → Int32) (l : Nat) : Nat := if S (199 + 18 * l + 4) = nI 1 then gt (ofr S l) 4 4 else 4
def pS1 (o : Nat → Nat) (w : Nat) : Nat := if mxv o w 4 = 0 then 1 else mxv o w 4
def sSell (l : Nat) (S : Nat → Int32) : Nat → Int32 := if wS S l = 4 then upd (upd S (199 + 18 * l + 5) n1) (199 + 18 * l + 6) (nI 0) else
  upd (upd (upd (upd S (199 + 18 * l + 5) (nI (wS S l))) (199 + 18 * l + 6) (nI (pS1 (ofr S l) (wS S l)))) (187 + 3 * wS S l) (S (187 + 3 * wS S l) - nI (pS1 (ofr S l) (wS S l)))) (187 + 3 * wS S l + 1) (S (187 + 3 * wS S l + 1) + nI (pS1 (ofr S l) (wS S l)))
def stk (q c k : Nat) : Nat := if q = c then 0 else k + 1
def chg (q c h k : Nat) : Prop := h + c < q ∨ h + q < c ∨ stk q c k = 3
def adC (q c h k : Nat) : Nat := if h + c < q ∨ h + q < c ∨ stk q c k = 3 then q else c
def adK (q c h k : Nat) : Nat := if h + c < q ∨ h + q < c ∨ stk q c k = 3 then 0 else stk q c k
def sAdj (l : Nat) (S : Nat → Int32) : Nat → Int32 := upd (upd S (199 + 18 * l + 3) (nI (adC (nv (S (199 + 18 * l + 2)) + nv (S (199 + 18 * l + 6))) (nv (S (199 + 18 * l + 3))) (nv (S 4)) (nv (S (199 + 18 * l + 7)))))) (199 + 18 * l + 7) (nI (adK (nv (S (199 + 18 * l + 2)) + nv (S (199 + 18 * l + 6))) (nv (S (199 + 18 * l + 3))) (nv (S 4)) (nv (S (199 + 18 * l + 7)))))
section PA
variable {m m0 M : me} {S S' : Nat → Int32} {B T : Nat}
theorem nv_n {n : Nat} (h : n < 2147483648) : nv (nI n) = n := nI_cl h
theorem nsub (x y : Int32) : 0 - (x - y) = y - x := by
  have h1 : (y - x) + (x - y) = 0 := by
    have h2 : (y - x) + (x - y) + y = 0 + y := by rw [Int32.add_assoc, Int32.sub_add_cancel, Int32.sub_add_cancel, Int32.zero_add]
    have h3 := congrArg (fun z => z - y) h2
    simp only [Int32.add_sub_cancel] at h3
    exact h3
  have h4 := congrArg (fun z => z - (x - y)) h1
  simp only [Int32.add_sub_cancel] at h4
  exact h4.symm
theorem neg0 (x : Int32) : -x = 0 - x := by
  first | exact (Int32.zero_sub x).symm | simp
theorem sub0 {q c : Nat} (hq : q < 1073741824) (hc : c < 1073741824) : (nI q - nI c = nI 0) = (q = c) := by
  refine propext ⟨fun h => ?_, fun h => ?_⟩
  · have h1 := congrArg (fun z => z + nI c) h
    simp only [Int32.sub_add_cancel] at h1
    rw [nI_add, nI_eqs (by omega) (by omega)] at h1
    omega
  · rw [h, nI_sbs (Nat.le_refl _), Nat.sub_self]
theorem lt_sb {h q c : Nat} (hh : h < 1073741824) (hq : q < 1073741824) (hc : c < 1073741824) : (nI h < nI q - nI c) = (h + c < q) := by
  by_cases hcq : c ≤ q
  · rw [nI_sbs hcq, nI_lts (by omega) (by omega)]
    refine propext ⟨fun _ => by omega, fun _ => by omega⟩
  · refine propext ⟨fun g => ?_, fun _ => by omega⟩
    have h1 := pk_sneg (show c < 2 ^ 30 from hc) (show q < c by omega)
    have h2 : (0 : Int32) ≤ nI h := nI_pos' (show h < 2 ^ 31 by omega)
    rw [Int32.lt_iff_toInt_lt] at g h1
    rw [Int32.le_iff_toInt_le] at h2
    omega
theorem abs_sb {q c : Nat} (hq : q < 1073741824) (hc : c < 1073741824) : (if nI 0 ≤ nI q - nI c then nI q - nI c else nI 0 - (nI q - nI c)) = nI (if c ≤ q then q - c else c - q) := by
  by_cases hcq : c ≤ q
  · rw [nI_sbs hcq, if_pos (show nI 0 ≤ nI (q - c) from nI_pos' (show q - c < 2 ^ 31 by omega)), if_pos hcq]
  · have h1 := pk_sneg (show c < 2 ^ 30 from hc) (show q < c by omega)
    rw [if_neg (show ¬ nI 0 ≤ nI q - nI c from Int32.not_le.mpr h1), if_neg hcq]
    show 0 - (nI q - nI c) = _
    rw [nsub, nI_sbs (by omega)]
theorem upd_upd {f : Nat → Int32} {k : Nat} {x y : Int32} : upd (upd f k x) k y = upd f k y := by
  funext j
  unfold upd
  by_cases h : j = k
  · rw [if_pos h, if_pos h]
  · rw [if_neg h, if_neg h, if_neg h]
theorem upd_self {f : Nat → Int32} {k : Nat} {x : Int32} (h : f k = x) : upd f k x = f := by
  funext j
  unfold upd
  by_cases hj : j = k
  · rw [if_pos hj, hj, h]
  · rw [if_neg hj]
theorem WT.bids (hW : WT B T S) {l t : Nat} (hl : l < T) (ht : t < 4) : S (199 + 18 * l + (14 + t)) = nI (nv (S (199 + 18 * l + (14 + t)))) ∧ nv (S (199 + 18 * l + (14 + t))) ≤ 1000 := by
  obtain ⟨a, b, k1, k2, k3, k4, k5, k6, k7, k8, k9, k10, k11, k12, k13⟩ := hW.2.2.2.2.2.2.2.2.2.1 l hl
  obtain ⟨d, h1, h2⟩ := k13 t ht
  rw [h1, nv_n (by omega)]
  exact ⟨rfl, h2⟩
theorem ofr_le (hW : WT B T S) {l t : Nat} (hl : l < T) (ht : t < 4) : ofr S l t ≤ 1000 := by
  unfold ofr
  by_cases h : S (187 + 3 * t) < S (199 + 18 * l + (14 + t))
  · rw [if_pos h]; omega
  · rw [if_neg h]; exact (hW.bids hl ht).2
theorem wS_lt (l : Nat) : wS S l = 4 ∨ wS S l < 4 := by
  unfold wS
  by_cases h : S (199 + 18 * l + 4) = nI 1
  · rw [if_pos h]
    rcases gtv (o := ofr S l) 4 4 (by decide) with h | h
    · exact Or.inl h.1
    · exact Or.inr h.1
  · rw [if_neg h]; exact Or.inl rfl
theorem pS1_le (hW : WT B T S) {l w : Nat} (hl : l < T) : pS1 (ofr S l) w ≤ 1000 := by
  unfold pS1
  have := mxv_le (o := ofr S l) (but := w) (K := 1000) 4 (fun i hi => ofr_le hW hl hi)
  split <;> omega
theorem sSell_at {l i : Nat} (h5 : i ≠ 199 + 18 * l + 5) (h6 : i ≠ 199 + 18 * l + 6) (ht : ¬ (187 ≤ i ∧ i < 199)) : sSell l S i = S i := by
  unfold sSell
  rcases wS_lt (S := S) l with h | h
  · rw [if_pos h, upd_n h6, upd_n h5]
  · rw [if_neg (by omega), upd_n (by omega), upd_n (by omega), upd_n h6, upd_n h5]
theorem sSell_5 {l : Nat} : sSell l S (199 + 18 * l + 5) = encW (wS S l) := by
  unfold sSell encW
  rcases wS_lt (S := S) l with h | h
  · rw [if_pos h, if_pos h, upd_n (by omega), upd_e]
  · rw [if_neg (by omega), if_neg (by omega), upd_n (by omega), upd_n (by omega), upd_n (by omega), upd_e]
theorem sSell_6 (hW : WT B T S) {l : Nat} (hl : l < T) : ∃ d, sSell l S (199 + 18 * l + 6) = nI d ∧ d ≤ 1000 := by
  unfold sSell
  rcases wS_lt (S := S) l with h | h
  · exact ⟨0, by rw [if_pos h, upd_e], by omega⟩
  · exact ⟨_, by rw [if_neg (by omega), upd_n (by omega), upd_n (by omega), upd_e], pS1_le hW hl⟩
theorem WT.sell (hW : WT B T S) {l : Nat} (hl : l < T) : WT B T (sSell l S) := by
  have w4 := hW.2.2.2.2.1
  refine hW.lk hl (fun i h1 h2 => sSell_at (by omega) (by omega) (by unfold wx at h1; omega)) ?_ (sSell_at (by omega) (by omega) (by omega)) (sSell_at (by omega) (by omega) (by omega))
  obtain ⟨a, b, k1, k2, k3, k4, k5, k6, k7, k8, k9, k10, k11, k12, k13⟩ := hW.2.2.2.2.2.2.2.2.2.1 l hl
  refine ⟨a, b, k1, k2, ?_, ?_, ?_, ?_, ?_, ?_, sSell_6 hW hl, ?_, ?_, ?_, fun t ht => ?_⟩
  · rw [sSell_at (by omega) (by omega) (by omega)]; exact k3
  · rw [sSell_at (by omega) (by omega) (by omega)]; exact k4
  · rw [sSell_at (by omega) (by omega) (by omega)]; exact k5
  · rw [sSell_at (by omega) (by omega) (by omega)]; exact k6
  · rw [sSell_at (by omega) (by omega) (by omega)]; exact k7
  · rw [sSell_5]
    unfold encW
    rcases wS_lt (S := S) l with h | h
    · exact Or.inl (if_pos h)
    · exact Or.inr ⟨_, h, if_neg (by omega)⟩
  · rw [sSell_at (by omega) (by omega) (by omega)]; exact k10
  · rw [sSell_at (by omega) (by omega) (by omega)]; exact k11
  · rw [sSell_at (by omega) (by omega) (by omega)]; exact k12
  · rw [sSell_at (by omega) (by omega) (by omega)]; exact k13 t ht
theorem sAdj_at {l i : Nat} (h3 : i ≠ 199 + 18 * l + 3) (h7 : i ≠ 199 + 18 * l + 7) : sAdj l S i = S i := by
  unfold sAdj
  rw [upd_n h7, upd_n h3]
/-- the numbers of a link's cost -/
theorem WT.cst (hW : WT B T S) {l : Nat} (hl : l < T) : S (199 + 18 * l + 2) = nI (nv (S (199 + 18 * l + 2))) ∧ S (199 + 18 * l + 3) = nI (nv (S (199 + 18 * l + 3))) ∧ S (199 + 18 * l + 6) = nI (nv (S (199 + 18 * l + 6))) ∧ S (199 + 18 * l + 7) = nI (nv (S (199 + 18 * l + 7))) ∧ S 4 = nI (nv (S 4)) ∧ nv (S (199 + 18 * l + 2)) ≤ 100 ∧ nv (S (199 + 18 * l + 3)) ≤ 1100 ∧ nv (S (199 + 18 * l + 6)) ≤ 1000 ∧ nv (S (199 + 18 * l + 7)) ≤ 2 ∧ nv (S 4) ≤ 100 := by
  obtain ⟨a, b, k1, k2, k3, k4, ⟨d2, e2, f2⟩, ⟨d3, e3, f3⟩, k7, k8, ⟨d6, e6, f6⟩, ⟨d7, e7, f7⟩, k11⟩ := hW.2.2.2.2.2.2.2.2.2.1 l hl
  obtain ⟨d4, e4, f4⟩ := hW.2.2.2.2.2.2.2.1
  rw [e2, e3, e6, e7, e4, nv_n (by omega), nv_n (by omega), nv_n (by omega), nv_n (by omega), nv_n (by omega)]
  exact ⟨rfl, rfl, rfl, rfl, rfl, f2, f3, f6, f7, f4⟩
theorem adK_le {q c h k : Nat} (hk : k ≤ 2) : adK q c h k ≤ 2 := by
  unfold adK
  split
  · omega
  · unfold stk at *
    split <;> simp_all <;> omega
theorem adC_le {q c h k : Nat} (hq : q ≤ 1100) (hc : c ≤ 1100) : adC q c h k ≤ 1100 := by
  unfold adC
  split <;> omega
theorem WT.adj (hW : WT B T S) {l : Nat} (hl : l < T) : WT B T (sAdj l S) := by
  have w4 := hW.2.2.2.2.1
  obtain ⟨-, -, -, -, -, c2, c3, c6, c7, c4⟩ := hW.cst hl
  refine hW.lk hl (fun i h1 h2 => sAdj_at (by omega) (by omega)) ?_ (sAdj_at (by omega) (by omega)) (sAdj_at (by omega) (by omega))
  obtain ⟨a, b, k1, k2, k3, k4, k5, k6, k7, k8, k9, k10, k11, k12, k13⟩ := hW.2.2.2.2.2.2.2.2.2.1 l hl
  refine ⟨a, b, k1, k2, ?_, ?_, ?_, ⟨adC (nv (S (199 + 18 * l + 2)) + nv (S (199 + 18 * l + 6))) (nv (S (199 + 18 * l + 3))) (nv (S 4)) (nv (S (199 + 18 * l + 7))), ?_, adC_le (by omega) c3⟩, ?_, ?_, ?_, ⟨adK (nv (S (199 + 18 * l + 2)) + nv (S (199 + 18 * l + 6))) (nv (S (199 + 18 * l + 3))) (nv (S 4)) (nv (S (199 + 18 * l + 7))), ?_, adK_le c7⟩, ?_, ?_, fun t ht => ?_⟩
  · rw [sAdj_at (by omega) (by omega)]; exact k3
  · rw [sAdj_at (by omega) (by omega)]; exact k4
  · rw [sAdj_at (by omega) (by omega)]; exact k5
  · unfold sAdj; rw [upd_n (by omega), upd_e]
  · rw [sAdj_at (by omega) (by omega)]; exact k7
  · rw [sAdj_at (by omega) (by omega)]; exact k8
  · rw [sAdj_at (by omega) (by omega)]; exact k9
  · unfold sAdj; rw [upd_e]
  · rw [sAdj_at (by omega) (by omega)]; exact k11
  · rw [sAdj_at (by omega) (by omega)]; exact k12
  · rw [sAdj_at (by omega) (by omega)]; exact k13 t ht
theorem wS_cg {l : Nat} (hu : S' (199 + 18 * l + 4) = S (199 + 18 * l + 4)) (ho : ∀ t, t < 4 → ofr S' l t = ofr S l t) : wS S' l = wS S l := by
  unfold wS
  rw [hu, gt_cg 4 (by decide) ho]
theorem pS1_cg {o o' : Nat → Nat} {w : Nat} (ho : ∀ t, t < 4 → o t = o' t) : pS1 o w = pS1 o' w := by
  unfold pS1
  rw [mxv_cg 4 ho]
theorem ofr_cg {l : Nat} (hc : ∀ t, t < 4 → S' (187 + 3 * t) = S (187 + 3 * t)) (hb : ∀ t, t < 4 → S' (199 + 18 * l + (14 + t)) = S (199 + 18 * l + (14 + t))) : ∀ t, t < 4 → ofr S' l t = ofr S l t := by
  intro t ht
  unfold ofr
  rw [hc t ht, hb t ht]
theorem sAdj_upd {k i : Nat} {v : Int32} (h2 : 199 + 18 * k + 2 ≠ i) (h3 : 199 + 18 * k + 3 ≠ i) (h6 : 199 + 18 * k + 6 ≠ i) (h7 : 199 + 18 * k + 7 ≠ i) (h4 : 4 ≠ i) : sAdj k (upd S i v) = upd (sAdj k S) i v := by
  unfold sAdj
  rw [upd_n h2, upd_n h3, upd_n h6, upd_n h7, upd_n h4, upd_cm (a := i) (b := 199 + 18 * k + 3) (fun h => h3 h.symm), upd_cm (a := i) (b := 199 + 18 * k + 7) (fun h => h7 h.symm)]
/-- two links do not meet -/
theorem sell_adj {k l : Nat} (h : k ≠ l) : sSell l (sAdj k S) = sAdj k (sSell l S) := by
  have ho : ∀ t, t < 4 → ofr (sAdj k S) l t = ofr S l t := ofr_cg (fun t ht => sAdj_at (by omega) (by omega)) (fun t ht => sAdj_at (by omega) (by omega))
  have hw : wS (sAdj k S) l = wS S l := wS_cg (sAdj_at (by omega) (by omega)) ho
  unfold sSell
  rw [hw, pS1_cg ho]
  rcases wS_lt (S := S) l with h4 | h4
  · rw [if_pos h4, if_pos h4, sAdj_upd (by omega) (by omega) (by omega) (by omega) (by omega), sAdj_upd (by omega) (by omega) (by omega) (by omega) (by omega)]
  · rw [if_neg (by omega), if_neg (by omega), sAdj_upd (by omega) (by omega) (by omega) (by omega) (by omega), sAdj_upd (by omega) (by omega) (by omega) (by omega) (by omega), sAdj_upd (by omega) (by omega) (by omega) (by omega) (by omega), sAdj_upd (by omega) (by omega) (by omega) (by omega) (by omega), sAdj_at (show 187 + 3 * wS S l ≠ 199 + 18 * k + 3 by omega) (by omega), sAdj_at (show 187 + 3 * wS S l + 1 ≠ 199 + 18 * k + 3 by omega) (by omega)]
theorem sell_adjs {l : Nat} : ∀ n, n ≤ l → sSell l (it sAdj n S) = it sAdj n (sSell l S)
  | 0, _ => rfl
  | n + 1, h => by
    show sSell l (sAdj n (it sAdj n S)) = sAdj n (it sAdj n (sSell l S))
    rw [sell_adj (by omega), sell_adjs n (by omega)]
theorem it_s {σ : Type} (f : Nat → σ → σ) (n : Nat) (s : σ) : it f (n + 1) s = f n (it f n s) := rfl
theorem it_0 {σ : Type} (f : Nat → σ → σ) (s : σ) : it f 0 s = s := rfl
theorem it_both (n : Nat) : it (fun l S => sAdj l (sSell l S)) n S = it sAdj n (it sSell n S) := by
  induction n with
  | zero => rw [it_0, it_0, it_0]
  | succ n ih => simp only [it_s, ih, sell_adjs n (Nat.le_refl n)]
theorem WT.sells (hW : WT B T S) : ∀ n, n ≤ T → WT B T (it sSell n S)
  | 0, _ => hW
  | n + 1, h => (WT.sells hW n (by omega)).sell (by omega)
theorem WT.adjs (hW : WT B T S) : ∀ n, n ≤ T → WT B T (it sAdj n S)
  | 0, _ => hW
  | n + 1, h => (WT.adjs hW n (by omega)).adj (by omega)
theorem WT.both (hW : WT B T S) (n : Nat) (h : n ≤ T) : WT B T (it (fun l S => sAdj l (sSell l S)) n S) := by
  rw [it_both]
  exact (hW.sells n h).adjs n h
theorem y_cbid {l t : Nat} (hW : WT B T S) (hR : RN m 1 S) (hl : l < T) (ht : t < 4) : f_X8_countingBid (nI t) (nI l) m = some (nI (ofr S l t), m) := by
  have w3 := hW.2.2.2.1
  have w4 := hW.2.2.2.2.1
  unfold f_X8_countingBid
  have e16 : t * 16 = 16 * t := Nat.mul_comm _ _
  simp (disch := omega) only [L0, L1, L2, L3, L4, L5, L6, L7, L8, L9, L10, L11, L12, L13, L14, L15, L16, L17, L18, L19, L20, L21, L22, L23, L24, L25, L26, L27, L28, L29, L30, L31, L32, L47, L48, L50, L51, L57, L59, L90, L97, L100, L120, L122, L127, L179, L187, L199, L200, L487, L974, L1000, L1461, L10000, L18498, L1000000, nI_add, pk_mul, nI_cl, nI_lts, nI_les, nI_eqs, Ln1, n1_ne, n1_ne', n1_lts, nI_ltn, n1_les, nI_len, bd_s, lt_d, gd_n, e16, rd_bid hR w3 w4 hl ht, rd_cred hR ht]
  unfold ofr
  by_cases h : S (187 + 3 * t) < S (199 + 18 * l + (14 + t))
  · rw [ifp h, if_pos h]
  · rw [ifn h, if_neg h, ← (hW.bids hl ht).1]
theorem encW4 : encW 4 = n1 := rfl
theorem encW_lt {w : Nat} (h : w < 4) : encW w = nI w := if_neg (by omega)
theorem cs_le {o : Nat → Nat} {K : Nat} (h : ∀ i, i < 4 → o i ≤ K) (t : Nat) (ht : t ≤ 4) : (cs o t).2.1 ≤ K ∧ (cs o t).2.2 ≤ K := by
  rw [cs_eq t ht]
  exact ⟨mxv_le t (fun i hi => h i (by omega)), mxv_le t (fun i hi => h i (by omega))⟩
theorem y_sellLoop {l : Nat} (hW : WT B T S) (hR : RN m 1 S) (hl : l < T) : lo (b_X0_sell_35 (nI l)) 2048 (n1, nI 0, nI 0, nI 0, m) = some (encW (cs (ofr S l) 4).1, nI (cs (ofr S l) 4).2.1, nI (cs (ofr S l) 4).2.2, nI 4, m) := by
  have hle : ∀ i, i < 4 → ofr S l i ≤ 1000 := fun i hi => ofr_le hW hl hi
  have h := lo_gen (b := b_X0_sell_35 (nI l)) (fun k => (encW (cs (ofr S l) k).1, nI (cs (ofr S l) k).2.1, nI (cs (ofr S l) k).2.2, nI k, m)) 4 (encW (cs (ofr S l) 4).1, nI (cs (ofr S l) 4).2.1, nI (cs (ofr S l) 4).2.2, nI 4, m) (fun k hk => by
    unfold b_X0_sell_35
    have : ¬ 4 ≤ k := by omega
    obtain ⟨c1, c2⟩ := cs_le hle k (by omega)
    have c3 := hle k hk
    simp (disch := omega) only [L0, L1, L2, L3, L4, L5, L6, L7, L8, L9, L10, L11, L12, L13, L14, L15, L16, L17, L18, L19, L20, L21, L22, L23, L24, L25, L26, L27, L28, L29, L30, L31, L32, L47, L48, L50, L51, L57, L59, L90, L97, L100, L120, L122, L127, L179, L187, L199, L200, L487, L974, L1000, L1461, L10000, L18498, L1000000, nI_add, pk_mul, nI_cl, nI_lts, nI_les, nI_eqs, Ln1, n1_ne, n1_ne', n1_lts, nI_ltn, n1_les, nI_len, bd_s, lt_d, gd_n, if_neg this, y_cbid hW hR hl hk]
    rw [cs]
    by_cases h1 : ofr S l k ≤ (cs (ofr S l) k).2.1
    · rw [ifp h1, ifp h1]
      by_cases h2 : ofr S l k ≤ (cs (ofr S l) k).2.2
      · rw [ifp h2, ifp h2]
      · rw [ifn h2, ifn h2]
    · rw [ifn h1, ifn h1, encW_lt hk]) (by
    unfold b_X0_sell_35
    simp (disch := omega) only [L0, L1, L2, L3, L4, L5, L6, L7, L8, L9, L10, L11, L12, L13, L14, L15, L16, L17, L18, L19, L20, L21, L22, L23, L24, L25, L26, L27, L28, L29, L30, L31, L32, L47, L48, L50, L51, L57, L59, L90, L97, L100, L120, L122, L127, L179, L187, L199, L200, L487, L974, L1000, L1461, L10000, L18498, L1000000, nI_add, pk_mul, nI_cl, nI_lts, nI_les, nI_eqs, Ln1, n1_ne, n1_ne', n1_lts, nI_ltn, n1_les, nI_len, bd_s, lt_d, gd_n, if_true, Nat.le_refl]) (N := 2048) (by decide)
  exact h
theorem y_sell {l : Nat} (hW : WT B T S) (hC : Cl m0 m S) (hl : l < T) : ∃ m1, f_X0_sell (nI l) m = some m1 ∧ Cl m0 m1 (sSell l S) := by
  have w3 := hW.2.2.2.1
  have w4 := hW.2.2.2.2.1
  have hl16 : l < 16 := by omega
  have c1 := Cl_win (v := n1) hC w3 w4 hl rfl
  have c2 := Cl_price (v := nI 0) c1 (T := T) (by rw [upd_n (by omega)]; exact w3) w4 hl rfl
  have e5 : (upd (upd S (199 + 18 * l + 5) n1) (199 + 18 * l + 6) (nI 0)) 5 = nI T := by rw [upd_n (by omega), upd_n (by omega)]; exact w3
  have eu : (wI (wI m 17 l n1) 18 l (nI 0)).1 16 l = S (199 + 18 * l + 4) := by rw [rd_up c2.1 e5 w4 hl, upd_n (by omega), upd_n (by omega)]
  obtain ⟨a, b, k1, k2, k3, k4, k5, k6, k7, k8⟩ := id (hW.2.2.2.2.2.2.2.2.2.1 l hl)
  have hW2 : WT B T (upd (upd S (199 + 18 * l + 5) n1) (199 + 18 * l + 6) (nI 0)) := by
    refine hW.lk hl (fun i h1 h2 => by rw [upd_n (by omega), upd_n (by omega)]) ?_ (by rw [upd_n (by omega), upd_n (by omega)]) (by rw [upd_n (by omega), upd_n (by omega)])
    obtain ⟨a, b, k1, k2, k3, k4, k5, k6, k7, k8, k9, k10, k11, k12, k13⟩ := hW.2.2.2.2.2.2.2.2.2.1 l hl
    refine ⟨a, b, k1, k2, ?_, ?_, ?_, ?_, ?_, Or.inl ?_, ⟨0, upd_e, by omega⟩, ?_, ?_, ?_, fun t ht => ?_⟩
    · rw [upd_n (by omega), upd_n (by omega)]; exact k3
    · rw [upd_n (by omega), upd_n (by omega)]; exact k4
    · rw [upd_n (by omega), upd_n (by omega)]; exact k5
    · rw [upd_n (by omega), upd_n (by omega)]; exact k6
    · rw [upd_n (by omega), upd_n (by omega)]; exact k7
    · rw [upd_n (by omega), upd_e]
    · rw [upd_n (by omega), upd_n (by omega)]; exact k10
    · rw [upd_n (by omega), upd_n (by omega)]; exact k11
    · rw [upd_n (by omega), upd_n (by omega)]; exact k12
    · rw [upd_n (by omega), upd_n (by omega)]; exact k13 t ht
  have ho : ∀ t, t < 4 → ofr (upd (upd S (199 + 18 * l + 5) n1) (199 + 18 * l + 6) (nI 0)) l t = ofr S l t := ofr_cg (fun t ht => by rw [upd_n (by omega), upd_n (by omega)]) (fun t ht => by rw [upd_n (by omega), upd_n (by omega)])
  rcases k7 with k7 | k7
  · have hw : wS S l = 4 := by unfold wS; rw [k7, if_neg (by decide)]
    refine ⟨wI (wI m 17 l n1) 18 l (nI 0), ?_, ?_⟩
    · unfold f_X0_sell
      simp (disch := omega) only [L0, L1, L2, L3, L4, L5, L6, L7, L8, L9, L10, L11, L12, L13, L14, L15, L16, L17, L18, L19, L20, L21, L22, L23, L24, L25, L26, L27, L28, L29, L30, L31, L32, L47, L48, L50, L51, L57, L59, L90, L97, L100, L120, L122, L127, L179, L187, L199, L200, L487, L974, L1000, L1461, L10000, L18498, L1000000, nI_add, pk_mul, nI_cl, nI_lts, nI_les, nI_eqs, Ln1, n1_ne, n1_ne', n1_lts, nI_ltn, n1_les, nI_len, bd_s, lt_d, gd_n, eu, k7, if_true]
    · unfold sSell
      rw [if_pos hw]
      exact c2
  · have hw : wS S l = gt (ofr S l) 4 4 := by unfold wS; rw [k7, if_pos rfl]
    have hlo := y_sellLoop hW2 c2.1 hl
    rw [cs_eq 4 (by decide), gt_cg 4 (by decide) ho, mxv_cg 4 ho, mxv_cg 4 ho, ← hw] at hlo
    have hle : mxv (ofr S l) (wS S l) 4 ≤ 1000 := mxv_le 4 (fun i hi => ofr_le hW hl hi)
    rcases wS_lt (S := S) l with h4 | h4
    · refine ⟨wI (wI m 17 l n1) 18 l (nI 0), ?_, ?_⟩
      · unfold f_X0_sell
        rw [h4, encW4] at hlo
        simp (disch := omega) only [L0, L1, L2, L3, L4, L5, L6, L7, L8, L9, L10, L11, L12, L13, L14, L15, L16, L17, L18, L19, L20, L21, L22, L23, L24, L25, L26, L27, L28, L29, L30, L31, L32, L47, L48, L50, L51, L57, L59, L90, L97, L100, L120, L122, L127, L179, L187, L199, L200, L487, L974, L1000, L1461, L10000, L18498, L1000000, nI_add, pk_mul, nI_cl, nI_lts, nI_les, nI_eqs, Ln1, n1_ne, n1_ne', n1_lts, nI_ltn, n1_les, nI_len, bd_s, lt_d, gd_n, eu, k7, hlo, if_true, if_false, Nat.one_ne_zero]
      · unfold sSell
        rw [if_pos h4]
        exact c2
    · have c3 := Cl_win (v := nI (wS S l)) c2 (T := T) e5 w4 hl rfl
      have c4 := Cl_price (v := nI (pS1 (ofr S l) (wS S l))) c3 (T := T) (by rw [upd_n (by omega)]; exact e5) w4 hl rfl
      have c5 := Cl_cred (v := S (187 + 3 * wS S l) - nI (pS1 (ofr S l) (wS S l))) c4 h4 rfl
      have c6 := Cl_paid (v := S (187 + 3 * wS S l + 1) + nI (pS1 (ofr S l) (wS S l))) c5 h4 rfl
      refine ⟨wI (wI (wI (wI (wI (wI m 17 l n1) 18 l (nI 0)) 17 l (nI (wS S l))) 18 l (nI (pS1 (ofr S l) (wS S l)))) 24 (wS S l) (S (187 + 3 * wS S l) - nI (pS1 (ofr S l) (wS S l)))) 25 (wS S l) (S (187 + 3 * wS S l + 1) + nI (pS1 (ofr S l) (wS S l))), ?_, ?_⟩
      rotate_left 1
      · unfold sSell
        rw [if_neg (by omega)]
        have er : upd (upd (upd (upd S (199 + 18 * l + 5) n1) (199 + 18 * l + 6) (nI 0)) (199 + 18 * l + 5) (nI (wS S l))) (199 + 18 * l + 6) (nI (pS1 (ofr S l) (wS S l))) = upd (upd S (199 + 18 * l + 5) (nI (wS S l))) (199 + 18 * l + 6) (nI (pS1 (ofr S l) (wS S l))) := by
          rw [upd_cm (f := upd S (199 + 18 * l + 5) n1) (a := 199 + 18 * l + 6) (b := 199 + 18 * l + 5) (by omega), upd_upd, upd_upd]
        rw [er] at c6
        exact c6
      · have e24 : (wI (wI m 17 l n1) 18 l (nI 0)).1 24 (wS S l) = S (187 + 3 * wS S l) := by rw [rd_cred c2.1 h4, upd_n (by omega), upd_n (by omega)]
        have e25 : (wI (wI m 17 l n1) 18 l (nI 0)).1 25 (wS S l) = S (187 + 3 * wS S l + 1) := by rw [rd_paid c2.1 h4, upd_n (by omega), upd_n (by omega)]
        have f24 : (wI (wI (wI (wI m 17 l n1) 18 l (nI 0)) 17 l (nI (wS S l))) 18 l (nI (pS1 (ofr S l) (wS S l)))).1 24 (wS S l) = S (187 + 3 * wS S l) := by
          rw [wI_sR, sR_ne (by decide), wI_sR, sR_ne (by decide)]; exact e24
        have f25 : (wI (wI (wI (wI (wI m 17 l n1) 18 l (nI 0)) 17 l (nI (wS S l))) 18 l (nI (pS1 (ofr S l) (wS S l)))) 24 (wS S l) (S (187 + 3 * wS S l) - nI (pS1 (ofr S l) (wS S l)))).1 25 (wS S l) = S (187 + 3 * wS S l + 1) := by
          rw [wI_sR, sR_ne (by decide), wI_sR, sR_ne (by decide), wI_sR, sR_ne (by decide)]; exact e25
        rw [encW_lt h4] at hlo
        unfold f_X0_sell j_X0_sell_105
        by_cases hz : mxv (ofr S l) (wS S l) 4 = 0
        · have ep : pS1 (ofr S l) (wS S l) = 1 := by unfold pS1; rw [if_pos hz]
          rw [ep] at f24 f25 ⊢
          have hz' : mxv (ofr S l) (wS S l) 4 ≤ 0 := by omega
          simp (disch := omega) only [L0, L1, L2, L3, L4, L5, L6, L7, L8, L9, L10, L11, L12, L13, L14, L15, L16, L17, L18, L19, L20, L21, L22, L23, L24, L25, L26, L27, L28, L29, L30, L31, L32, L47, L48, L50, L51, L57, L59, L90, L97, L100, L120, L122, L127, L179, L187, L199, L200, L487, L974, L1000, L1461, L10000, L18498, L1000000, nI_add, pk_mul, nI_cl, nI_lts, nI_les, nI_eqs, Ln1, n1_ne, n1_ne', n1_lts, nI_ltn, n1_les, nI_len, bd_s, lt_d, gd_n, eu, k7, hlo, if_false, if_pos hz', f24, f25, Nat.one_ne_zero]
        · have ep : pS1 (ofr S l) (wS S l) = mxv (ofr S l) (wS S l) 4 := by unfold pS1; rw [if_neg hz]
          rw [ep] at f24 f25 ⊢
          have hz' : ¬ mxv (ofr S l) (wS S l) 4 ≤ 0 := by omega
          simp (disch := omega) only [L0, L1, L2, L3, L4, L5, L6, L7, L8, L9, L10, L11, L12, L13, L14, L15, L16, L17, L18, L19, L20, L21, L22, L23, L24, L25, L26, L27, L28, L29, L30, L31, L32, L47, L48, L50, L51, L57, L59, L90, L97, L100, L120, L122, L127, L179, L187, L199, L200, L487, L974, L1000, L1461, L10000, L18498, L1000000, nI_add, pk_mul, nI_cl, nI_lts, nI_les, nI_eqs, Ln1, n1_ne, n1_ne', n1_lts, nI_ltn, n1_les, nI_len, bd_s, lt_d, gd_n, eu, k7, hlo, if_false, if_neg hz', f24, f25, Nat.one_ne_zero]
theorem y_adj {l : Nat} (hW : WT B T S) (hC : Cl m0 m S) (hl : l < T) : ∃ m1, f_X0_adjustCost (nI l) (S 4) m = some m1 ∧ Cl m0 m1 (sAdj l S) := by
  have w3 := hW.2.2.2.1
  have w4 := hW.2.2.2.2.1
  have hl16 : l < 16 := by omega
  obtain ⟨e2, e3, e6, e7, e4, c2, c3, c6, c7, c4⟩ := hW.cst hl
  have r2 := (rd_base hC.1 w3 w4 hl).trans e2
  have r3 := (rd_lcost hC.1 w3 w4 hl).trans e3
  have r6 := (rd_price hC.1 w3 w4 hl).trans e6
  have r7 := (rd_strk hC.1 w3 w4 hl).trans e7
  unfold sAdj
  generalize nv (S (199 + 18 * l + 2)) = a at *
  generalize nv (S (199 + 18 * l + 3)) = c at *
  generalize nv (S (199 + 18 * l + 6)) = p at *
  generalize nv (S (199 + 18 * l + 7)) = k at *
  generalize nv (S 4) = h at *
  have ha := abs_sb (q := a + p) (c := c) (by omega) (by omega)
  have hg : (if c ≤ a + p then a + p - c else c - (a + p)) ≤ 1100 := by split <;> omega
  generalize hgd : (if c ≤ a + p then a + p - c else c - (a + p)) = d at *
  have hd0 : (d = 0) ↔ (a + p = c) := by rw [← hgd]; split <;> omega
  have hdh : (h < d) ↔ (h + c < a + p ∨ h + (a + p) < c) := by rw [← hgd]; split <;> omega
  have s1 : ∀ x : Int32, Cl m0 (wI m 19 l x) (upd S (199 + 18 * l + 7) x) := fun x => Cl_strk hC w3 w4 hl rfl
  have s2 : ∀ x y z : Int32, Cl m0 (wI (wI (wI m 19 l x) 15 l y) 19 l z) (upd (upd S (199 + 18 * l + 3) y) (199 + 18 * l + 7) z) := fun x y z => by
    have h1 := Cl_lcost (v := y) (s1 x) (T := T) (by rw [upd_n (by omega)]; exact w3) w4 hl rfl
    have h2 := Cl_strk (v := z) h1 (T := T) (by rw [upd_n (by omega), upd_n (by omega)]; exact w3) w4 hl rfl
    rw [upd_cm (f := S) (by omega), upd_upd] at h2
    exact h2
  have s3 : ∀ z : Int32, Cl m0 (wI m 19 l z) (upd (upd S (199 + 18 * l + 3) (nI c)) (199 + 18 * l + 7) z) := fun z => by
    rw [upd_self e3]
    exact s1 z
  unfold f_X0_adjustCost j_X0_adjustCost_49 j_X0_adjustCost_66
  simp (disch := omega) only [L0, L1, L2, L3, L4, L5, L6, L7, L8, L9, L10, L11, L12, L13, L14, L15, L16, L17, L18, L19, L20, L21, L22, L23, L24, L25, L26, L27, L28, L29, L30, L31, L32, L47, L48, L50, L51, L57, L59, L90, L97, L100, L120, L122, L127, L179, L187, L199, L200, L487, L974, L1000, L1461, L10000, L18498, L1000000, nI_add, pk_mul, nI_cl, nI_lts, nI_les, nI_eqs, Ln1, n1_ne, n1_ne', n1_lts, nI_ltn, n1_les, nI_len, bd_s, lt_d, gd_n, r2, r3, r6, r7, ha, wI_sR, sR_get, upd_e]
  rw [e4]
  by_cases hd : d = 0
  · have hac := hd0.mp hd
    have n1 : ¬ h < d := by omega
    have x1 : adC (a + p) c h k = c := by unfold adC stk; rw [if_pos hac, if_neg (by omega)]
    have x2 : adK (a + p) c h k = 0 := by unfold adK stk; rw [if_pos hac, if_neg (by omega)]
    rw [x1, x2]
    refine ⟨_, ?_, s3 (nI 0)⟩
    simp (disch := omega) only [nI_add, pk_mul, nI_cl, nI_lts, nI_les, nI_eqs, Ln1, n1_ne, n1_ne', n1_lts, nI_ltn, n1_les, nI_len, if_pos hd, if_neg n1, Nat.zero_lt_succ, if_true]
    rfl
  · have hac : ¬ a + p = c := fun g => hd (hd0.mpr g)
    have hst : stk (a + p) c k = k + 1 := by unfold stk; rw [if_neg hac]
    by_cases h1 : h < d
    · have x1 : adC (a + p) c h k = a + p := by unfold adC; rw [if_pos (by have := hdh.mp h1; omega)]
      have x2 : adK (a + p) c h k = 0 := by unfold adK; rw [if_pos (by have := hdh.mp h1; omega)]
      rw [x1, x2]
      refine ⟨_, ?_, s2 (nI (k + 1)) (nI (a + p)) (nI 0)⟩
      simp (disch := omega) only [nI_add, pk_mul, nI_cl, nI_lts, nI_les, nI_eqs, Ln1, n1_ne, n1_ne', n1_lts, nI_ltn, n1_les, nI_len, if_neg hd, if_pos h1]
      rfl
    · have h2 : ¬ (h + c < a + p ∨ h + (a + p) < c) := fun g => h1 (hdh.mpr g)
      by_cases h3 : k + 1 < 3
      · have x1 : adC (a + p) c h k = c := by unfold adC; rw [hst, if_neg (by omega)]
        have x2 : adK (a + p) c h k = k + 1 := by unfold adK; rw [hst, if_neg (by omega)]
        rw [x1, x2]
        refine ⟨_, ?_, s3 (nI (k + 1))⟩
        simp (disch := omega) only [nI_add, pk_mul, nI_cl, nI_lts, nI_les, nI_eqs, Ln1, n1_ne, n1_ne', n1_lts, nI_ltn, n1_les, nI_len, if_neg hd, if_neg h1, if_pos h3]
        rfl
      · have x1 : adC (a + p) c h k = a + p := by unfold adC; rw [hst, if_pos (by omega)]
        have x2 : adK (a + p) c h k = 0 := by unfold adK; rw [hst, if_pos (by omega)]
        rw [x1, x2]
        refine ⟨_, ?_, s2 (nI (k + 1)) (nI (a + p)) (nI 0)⟩
        simp (disch := omega) only [nI_add, pk_mul, nI_cl, nI_lts, nI_les, nI_eqs, Ln1, n1_ne, n1_ne', n1_lts, nI_ltn, n1_les, nI_len, if_neg hd, if_neg h1, if_neg h3]
        rfl
/-- the credits decay -/
def sDec (n : Nat) (S : Nat → Int32) : Nat → Int32 := it (fun t S => upd S (187 + 3 * t) (nI 9 * S (187 + 3 * t) / nI 10 + nI 20)) n S
def sAu (T : Nat) (S : Nat → Int32) : Nat → Int32 := it (fun l S => sAdj l (sSell l S)) T (sDec 4 (upd S 6 (S 6 + nI 1)))
theorem sDec_at (n i : Nat) (h : ¬ (187 ≤ i ∧ i < 187 + 3 * n)) : sDec n S i = S i := by
  induction n with
  | zero => rfl
  | succ n ih =>
    show upd (sDec n S) (187 + 3 * n) _ i = _
    rw [upd_n (by omega), ih (by omega)]
theorem WT.dec (hW : WT B T S) : WT B T (sDec 4 (upd S 6 (S 6 + nI 1))) := hW.cg (fun i hi => by unfold wx at hi; rw [sDec_at 4 i (by omega), upd_n (by omega)])
theorem y_hold (hW : WT B T S) (hC : Cl m0 m S) : ∃ m1, f_X0_hold m = some m1 ∧ Cl m0 m1 (sAu T S) := by
  have w3 := hW.2.2.2.1
  have w4 := hW.2.2.2.2.1
  have hWd := hW.dec
  obtain ⟨t1, ht1, m1, a1, a2⟩ := lo_rel (b := b_X0_hold_12) (s0 := (nI 0, wI m 1 5 (S 6 + nI 1))) (N := 2048) (n := 4)
    (P := fun k s => ∃ m1, s = (nI k, m1) ∧ Cl m0 m1 (sDec k (upd S 6 (S 6 + nI 1))))
    (Q := fun t => ∃ m1, t = (nI 4, m1) ∧ Cl m0 m1 (sDec 4 (upd S 6 (S 6 + nI 1))))
    ⟨_, rfl, Cl_auct hC rfl⟩ (fun k s hk hP => by
      obtain ⟨m1, rfl, k2⟩ := hP
      unfold b_X0_hold_12
      have : ¬ 4 ≤ k := by omega
      simp (disch := omega) only [L0, L1, L2, L3, L4, L5, L6, L7, L8, L9, L10, L11, L12, L13, L14, L15, L16, L17, L18, L19, L20, L21, L22, L23, L24, L25, L26, L27, L28, L29, L30, L31, L32, L47, L48, L50, L51, L57, L59, L90, L97, L100, L120, L122, L127, L179, L187, L199, L200, L487, L974, L1000, L1461, L10000, L18498, L1000000, nI_add, pk_mul, nI_cl, nI_lts, nI_les, nI_eqs, Ln1, n1_ne, n1_ne', n1_lts, nI_ltn, n1_les, nI_len, bd_s, lt_d, gd_n, if_neg this, rd_cred k2.1 hk]
      exact ⟨_, rfl, _, rfl, Cl_cred k2 hk rfl⟩) (fun s hP => by
      obtain ⟨m1, rfl, k2⟩ := hP
      refine ⟨_, ?_, m1, rfl, k2⟩
      unfold b_X0_hold_12
      simp (disch := omega) only [L0, L1, L2, L3, L4, L5, L6, L7, L8, L9, L10, L11, L12, L13, L14, L15, L16, L17, L18, L19, L20, L21, L22, L23, L24, L25, L26, L27, L28, L29, L30, L31, L32, L47, L48, L50, L51, L57, L59, L90, L97, L100, L120, L122, L127, L179, L187, L199, L200, L487, L974, L1000, L1461, L10000, L18498, L1000000, nI_add, pk_mul, nI_cl, nI_lts, nI_les, nI_eqs, Ln1, n1_ne, n1_ne', n1_lts, nI_ltn, n1_les, nI_len, bd_s, lt_d, gd_n, if_true, Nat.le_refl]) (by decide)
  obtain ⟨t2, ht2, m2, b1, b2⟩ := lo_rel (b := b_X0_hold_52) (s0 := (nI 0, m1)) (N := 2048) (n := T)
    (P := fun k s => ∃ m1, s = (nI k, m1) ∧ Cl m0 m1 (it sSell k (sDec 4 (upd S 6 (S 6 + nI 1)))))
    (Q := fun t => ∃ m1, t = (nI T, m1) ∧ Cl m0 m1 (it sSell T (sDec 4 (upd S 6 (S 6 + nI 1)))))
    ⟨_, rfl, a2⟩ (fun k s hk hP => by
      obtain ⟨m1, rfl, k2⟩ := hP
      have hWk := hWd.sells k (by omega)
      have e5 := (rd_total k2.1).trans hWk.2.2.2.1
      obtain ⟨m2, l1, l2⟩ := y_sell hWk k2 hk
      unfold b_X0_hold_52
      have : ¬ T ≤ k := by omega
      simp (disch := omega) only [L0, L1, L2, L3, L4, L5, L6, L7, L8, L9, L10, L11, L12, L13, L14, L15, L16, L17, L18, L19, L20, L21, L22, L23, L24, L25, L26, L27, L28, L29, L30, L31, L32, L47, L48, L50, L51, L57, L59, L90, L97, L100, L120, L122, L127, L179, L187, L199, L200, L487, L974, L1000, L1461, L10000, L18498, L1000000, nI_add, pk_mul, nI_cl, nI_lts, nI_les, nI_eqs, Ln1, n1_ne, n1_ne', n1_lts, nI_ltn, n1_les, nI_len, bd_s, lt_d, gd_n, e5, if_neg this, l1]
      exact ⟨_, rfl, _, rfl, l2⟩) (fun s hP => by
      obtain ⟨m1, rfl, k2⟩ := hP
      have e5 := (rd_total k2.1).trans (hWd.sells T (Nat.le_refl T)).2.2.2.1
      refine ⟨_, ?_, m1, rfl, k2⟩
      unfold b_X0_hold_52
      simp (disch := omega) only [L0, L1, L2, L3, L4, L5, L6, L7, L8, L9, L10, L11, L12, L13, L14, L15, L16, L17, L18, L19, L20, L21, L22, L23, L24, L25, L26, L27, L28, L29, L30, L31, L32, L47, L48, L50, L51, L57, L59, L90, L97, L100, L120, L122, L127, L179, L187, L199, L200, L487, L974, L1000, L1461, L10000, L18498, L1000000, nI_add, pk_mul, nI_cl, nI_lts, nI_les, nI_eqs, Ln1, n1_ne, n1_ne', n1_lts, nI_ltn, n1_les, nI_len, bd_s, lt_d, gd_n, e5, if_true, Nat.le_refl]) (by omega)
  obtain ⟨t3, ht3, m3, d1, d2⟩ := lo_rel (b := b_X0_hold_83) (s0 := (nI 0, m2)) (N := 2048) (n := T)
    (P := fun k s => ∃ m1, s = (nI k, m1) ∧ Cl m0 m1 (it sAdj k (it sSell T (sDec 4 (upd S 6 (S 6 + nI 1))))))
    (Q := fun t => ∃ m1, t = (nI T, m1) ∧ Cl m0 m1 (it sAdj T (it sSell T (sDec 4 (upd S 6 (S 6 + nI 1))))))
    ⟨_, rfl, b2⟩ (fun k s hk hP => by
      obtain ⟨m1, rfl, k2⟩ := hP
      have hWk := (hWd.sells T (Nat.le_refl T)).adjs k (by omega)
      have e5 := (rd_total k2.1).trans hWk.2.2.2.1
      obtain ⟨m2, l1, l2⟩ := y_adj hWk k2 hk
      unfold b_X0_hold_83
      have : ¬ T ≤ k := by omega
      simp (disch := omega) only [L0, L1, L2, L3, L4, L5, L6, L7, L8, L9, L10, L11, L12, L13, L14, L15, L16, L17, L18, L19, L20, L21, L22, L23, L24, L25, L26, L27, L28, L29, L30, L31, L32, L47, L48, L50, L51, L57, L59, L90, L97, L100, L120, L122, L127, L179, L187, L199, L200, L487, L974, L1000, L1461, L10000, L18498, L1000000, nI_add, pk_mul, nI_cl, nI_lts, nI_les, nI_eqs, Ln1, n1_ne, n1_ne', n1_lts, nI_ltn, n1_les, nI_len, bd_s, lt_d, gd_n, e5, if_neg this, rd_hyst k2.1, l1]
      exact ⟨_, rfl, _, rfl, l2⟩) (fun s hP => by
      obtain ⟨m1, rfl, k2⟩ := hP
      have e5 := (rd_total k2.1).trans ((hWd.sells T (Nat.le_refl T)).adjs T (Nat.le_refl T)).2.2.2.1
      refine ⟨_, ?_, m1, rfl, k2⟩
      unfold b_X0_hold_83
      simp (disch := omega) only [L0, L1, L2, L3, L4, L5, L6, L7, L8, L9, L10, L11, L12, L13, L14, L15, L16, L17, L18, L19, L20, L21, L22, L23, L24, L25, L26, L27, L28, L29, L30, L31, L32, L47, L48, L50, L51, L57, L59, L90, L97, L100, L120, L122, L127, L179, L187, L199, L200, L487, L974, L1000, L1461, L10000, L18498, L1000000, nI_add, pk_mul, nI_cl, nI_lts, nI_les, nI_eqs, Ln1, n1_ne, n1_ne', n1_lts, nI_ltn, n1_les, nI_len, bd_s, lt_d, gd_n, e5, if_true, Nat.le_refl]) (by omega)
  refine ⟨m3, ?_, ?_⟩
  · unfold f_X0_hold
    simp only [L0, L1, L2, L3, L4, L5, L6, L7, L8, L9, L10, L11, L12, L13, L14, L15, L16, L17, L18, L19, L20, L21, L22, L23, L24, L25, L26, L27, L28, L29, L30, L31, L32, L47, L48, L50, L51, L57, L59, L90, L97, L100, L120, L122, L127, L179, L187, L199, L200, L487, L974, L1000, L1461, L10000, L18498, L1000000, lt_d, rd_auct hC.1, ht1, a1, bd_s, ht2, b1, ht3, d1]
  · unfold sAu
    rw [it_both]
    exact d2
end PA
