/-! The law's loop keeps the invariant. -/
section PLW
variable {m : me} {xs : Nat → Int32} {L t : Nat}
theorem cmp_self (x : Int64) : lg_cmp x x = 0 := by
  unfold lg_cmp
  rw [if_neg (show ¬ (x > x) from fun h => by rw [gt_iff_lt, Int64.lt_iff_toInt_lt] at h; omega), if_pos rfl]
/-- what a helper of the law gives, against the model -/
theorem op_h {fx : me → Option ((Int32 ⊕ Nat) × me)} {fm : me → Option (Int32 × me)} {code : Nat → Option Int32} {hx : Option (Int32 × me)} (h : OPv fx fm code m) (e : hx = bd (fx m) (fun r => tr r.1 (fun v => lt (wJ r.2 137 0 v.toInt64) (fun m2 => some (0, m2))) (fun e => bd (code e) (fun c => some (c, r.2))))) : ∃ c m1 b m2, hx = some (c, m1) ∧ fm m1 = some (b, m2) ∧ m2.1 128 6 = c ∧ (c = 0 → m2.2.1 137 0 = b.toInt64) ∧ Inv m2 := by
  rcases h with ⟨v, m1, m2, h1, h2, h3, h4, h5⟩ | ⟨e', c, m1, b, m2, h1, h2, h3, h4, h5, h6⟩
  · refine ⟨0, wJ m1 137 0 v.toInt64, v, m2, ?_, h2, h3, fun _ => h4, h5⟩
    rw [e, h1, bd_s, trl, lt_d]
  · refine ⟨c, m1, b, m2, ?_, h4, h5, fun hc => absurd hc h3, h6⟩
    rw [e, h1, bd_s, trr, h2, bd_s]
theorem co_A (e : Nat) (r : me) : (if e = 1 then some ((1 : Int32), r) else none) = bd (cdA e) (fun c => some (c, r)) := by
  unfold cdA; split <;> rfl
theorem co_IA (e : Nat) (r : me) : (if e = 0 then some ((1 : Int32), r) else if e = 1 then some (2, r) else none) = bd (cdIA e) (fun c => some (c, r)) := by
  unfold cdIA
  by_cases h0 : e = 0
  · rw [if_pos h0, if_pos h0]; rfl
  · rw [if_neg h0, if_neg h0]; split <;> rfl
theorem co_IAS (e : Nat) (r : me) : (if e = 0 then some ((1 : Int32), r) else if e = 1 then some (2, r) else if e = 2 then some (3, r) else none) = bd (cdIAS e) (fun c => some (c, r)) := by
  unfold cdIAS
  by_cases h0 : e = 0
  · rw [if_pos h0, if_pos h0]; rfl
  · rw [if_neg h0, if_neg h0]
    by_cases h1 : e = 1
    · rw [if_pos h1, if_pos h1]; rfl
    · rw [if_neg h1, if_neg h1]; split <;> rfl
theorem co_IS (e : Nat) (r : me) : (if e = 0 then some ((1 : Int32), r) else if e = 2 then some (2, r) else none) = bd (cdIS e) (fun c => some (c, r)) := by
  unfold cdIS
  by_cases h0 : e = 0
  · rw [if_pos h0, if_pos h0]; rfl
  · rw [if_neg h0, if_neg h0]; split <;> rfl
theorem co_I (e : Nat) (r : me) : (if e = 0 then some ((1 : Int32), r) else none) = bd (cdI e) (fun c => some (c, r)) := by
  unfold cdI; split <;> rfl
theorem co_AS (e : Nat) (r : me) : (if e = 1 then some ((1 : Int32), r) else if e = 2 then some (2, r) else none) = bd (cdAS e) (fun c => some (c, r)) := by
  unfold cdAS
  by_cases h0 : e = 1
  · rw [if_pos h0, if_pos h0]; rfl
  · rw [if_neg h0, if_neg h0]; split <;> rfl
theorem co_S (e : Nat) (r : me) : (if e = 2 then some ((1 : Int32), r) else none) = bd (cdS e) (fun c => some (c, r)) := by
  unfold cdS; split <;> rfl
/-- a call's end in the law -/
theorem law_tail {c b i : Int32} {m2 : me} (h1 : m2.1 128 6 = c) (h2 : c = 0 → m2.2.1 137 0 = b.toInt64) : (bd (f_X12_thrown m2) (fun r5 => if r5.1 = c then (if c = 0 then (if (lg_cmp (r5.2.2.1 137 0) b.toInt64) = 0 then lt (i + 4) (fun w10 => some (.inl (w10, r5.2))) else some (.inr (.inr ((0, r5.2))))) else lt (i + 4) (fun w8 => some (.inl (w8, r5.2)))) else some (.inr (.inr ((0, r5.2))))) : Option ((Int32 × me) ⊕ ((Int32 × me) ⊕ (Int32 × me)))) = some (.inl (i + 4, m2)) := by
  show ((if m2.1 128 6 = c then (if c = 0 then (if (lg_cmp (m2.2.1 137 0) b.toInt64) = 0 then some (.inl (i + 4, m2)) else some (.inr (.inr ((0, m2))))) else some (.inl (i + 4, m2))) else some (.inr (.inr ((0, m2))))) : Option ((Int32 × me) ⊕ ((Int32 × me) ⊕ (Int32 × me)))) = _
  rw [if_pos h1]
  by_cases hc : c = 0
  · rw [if_pos hc, h2 hc, cmp_self, if_pos rfl]
  · rw [if_neg hc]
/-- where the step stands, and that its ints are there -/
def lwC (L t : Nat) : Prop := ¬ (Int32.ofNat L - 4 < nI (4 * t)) ∧ inR (nI (4 * t)) L = true ∧ inR (nI (4 * t) + 1) L = true ∧ inR (nI (4 * t) + 2) L = true ∧ inR (nI (4 * t) + 3) L = true
theorem lwC_of (ht : 4 * t + 4 ≤ L) (hL : L ≤ 2048) : lwC L t := by
  refine ⟨?_, inR_n (by omega) (by omega), ?_, ?_, ?_⟩
  · show ¬ (nI L - nI 4 < nI (4 * t))
    rw [nI_sbs (by omega), nI_lts (by omega) (by omega)]
    omega
  · rw [L1, nI_add]; exact inR_n (by omega) (by omega)
  · rw [L2, nI_add]; exact inR_n (by omega) (by omega)
  · rw [L3, nI_add]; exact inR_n (by omega) (by omega)
def lwG (m : me) (xs : Nat → Int32) (L t : Nat) : Prop := ∃ m2, b_L_law_23 L xs (nI (4 * t), m) = some (.inl (nI (4 * t) + 4, m2)) ∧ Inv m2

theorem law_0 (hI : Inv m) (hC : lwC L t) (hv : xs (nI (4 * t)).toNatClampNeg &&& 31 = nI 0) : lwG m xs L t := by
  obtain ⟨g, g0, g1, g2, g3⟩ := hC
  have e : h_setBridges (xs (nI (4 * t) + 1).toNatClampNeg) m = bd (f_X11_setBridges (xs (nI (4 * t) + 1).toNatClampNeg) m) (fun r => tr r.1 (fun v => lt (wJ r.2 137 0 v.toInt64) (fun m2 => some (0, m2))) (fun e => bd (cdA e) (fun c => some (c, r.2)))) := by
    unfold h_setBridges
    simp only [co_A]
  obtain ⟨c, m1, b, m2, e1, e2, e3, e4, e5⟩ := op_h (op_setBridges hI (xs (nI (4 * t) + 1).toNatClampNeg)) e
  refine ⟨m2, ?_, e5⟩
  unfold b_L_law_23
  dsimp only
  rw [if_neg g, gd_t g0, hv, ifp (show nI 0 = 0 by decide)]
  simp only [gd_t g1, e1, bd_s, e2]
  exact law_tail e3 e4
theorem law_1 (hI : Inv m) (hC : lwC L t) (hv : xs (nI (4 * t)).toNatClampNeg &&& 31 = nI 1) : lwG m xs L t := by
  obtain ⟨g, g0, g1, g2, g3⟩ := hC
  have e : h_setTimes (xs (nI (4 * t) + 1).toNatClampNeg) (xs (nI (4 * t) + 2).toNatClampNeg) (xs (nI (4 * t) + 3).toNatClampNeg) m = bd (f_X11_setTimes (xs (nI (4 * t) + 1).toNatClampNeg) (xs (nI (4 * t) + 2).toNatClampNeg) (xs (nI (4 * t) + 3).toNatClampNeg) m) (fun r => tr r.1 (fun v => lt (wJ r.2 137 0 v.toInt64) (fun m2 => some (0, m2))) (fun e => bd (cdA e) (fun c => some (c, r.2)))) := by
    unfold h_setTimes
    simp only [co_A]
  obtain ⟨c, m1, b, m2, e1, e2, e3, e4, e5⟩ := op_h (op_setTimes hI (xs (nI (4 * t) + 1).toNatClampNeg) (xs (nI (4 * t) + 2).toNatClampNeg) (xs (nI (4 * t) + 3).toNatClampNeg)) e
  refine ⟨m2, ?_, e5⟩
  unfold b_L_law_23
  dsimp only
  rw [if_neg g, gd_t g0, hv, ifn (show ¬ nI 1 = 0 by decide), ifp (show nI 1 = 1 by decide)]
  simp only [gd_t g1, gd_t g2, gd_t g3, e1, bd_s, e2]
  exact law_tail e3 e4
theorem law_2 (hI : Inv m) (hC : lwC L t) (hv : xs (nI (4 * t)).toNatClampNeg &&& 31 = nI 2) : lwG m xs L t := by
  obtain ⟨g, g0, g1, g2, g3⟩ := hC
  have e : h_setPriority (xs (nI (4 * t) + 1).toNatClampNeg) (xs (nI (4 * t) + 2).toNatClampNeg) m = bd (f_X11_setPriority (xs (nI (4 * t) + 1).toNatClampNeg) (xs (nI (4 * t) + 2).toNatClampNeg) m) (fun r => tr r.1 (fun v => lt (wJ r.2 137 0 v.toInt64) (fun m2 => some (0, m2))) (fun e => bd (cdIA e) (fun c => some (c, r.2)))) := by
    unfold h_setPriority
    simp only [co_IA]
  obtain ⟨c, m1, b, m2, e1, e2, e3, e4, e5⟩ := op_h (op_setPriority hI (xs (nI (4 * t) + 1).toNatClampNeg) (xs (nI (4 * t) + 2).toNatClampNeg)) e
  refine ⟨m2, ?_, e5⟩
  unfold b_L_law_23
  dsimp only
  rw [if_neg g, gd_t g0, hv, ifn (show ¬ nI 2 = 0 by decide), ifn (show ¬ nI 2 = 1 by decide), ifp (show nI 2 = 2 by decide)]
  simp only [gd_t g1, gd_t g2, e1, bd_s, e2]
  exact law_tail e3 e4
theorem law_3 (hI : Inv m) (hC : lwC L t) (hv : xs (nI (4 * t)).toNatClampNeg &&& 31 = nI 3) : lwG m xs L t := by
  obtain ⟨g, g0, g1, g2, g3⟩ := hC
  have e : h_addLink (xs (nI (4 * t) + 1).toNatClampNeg) (xs (nI (4 * t) + 2).toNatClampNeg) (xs (nI (4 * t) + 3).toNatClampNeg) m = bd (f_X11_addLink (xs (nI (4 * t) + 1).toNatClampNeg) (xs (nI (4 * t) + 2).toNatClampNeg) (xs (nI (4 * t) + 3).toNatClampNeg) m) (fun r => tr r.1 (fun v => lt (wJ r.2 137 0 v.toInt64) (fun m2 => some (0, m2))) (fun e => bd (cdIAS e) (fun c => some (c, r.2)))) := by
    unfold h_addLink
    simp only [co_IAS]
  obtain ⟨c, m1, b, m2, e1, e2, e3, e4, e5⟩ := op_h (op_addLink hI (xs (nI (4 * t) + 1).toNatClampNeg) (xs (nI (4 * t) + 2).toNatClampNeg) (xs (nI (4 * t) + 3).toNatClampNeg)) e
  refine ⟨m2, ?_, e5⟩
  unfold b_L_law_23
  dsimp only
  rw [if_neg g, gd_t g0, hv, ifn (show ¬ nI 3 = 0 by decide), ifn (show ¬ nI 3 = 1 by decide), ifn (show ¬ nI 3 = 2 by decide), ifp (show nI 3 = 3 by decide)]
  simp only [gd_t g1, gd_t g2, gd_t g3, e1, bd_s, e2]
  exact law_tail e3 e4
theorem law_4 (hI : Inv m) (hC : lwC L t) (hv : xs (nI (4 * t)).toNatClampNeg &&& 31 = nI 4) : lwG m xs L t := by
  obtain ⟨g, g0, g1, g2, g3⟩ := hC
  have e : h_fail (xs (nI (4 * t) + 1).toNatClampNeg) m = bd (f_X11_fail (xs (nI (4 * t) + 1).toNatClampNeg) m) (fun r => tr r.1 (fun v => lt (wJ r.2 137 0 v.toInt64) (fun m2 => some (0, m2))) (fun e => bd (cdIS e) (fun c => some (c, r.2)))) := by
    unfold h_fail
    simp only [co_IS]
  obtain ⟨c, m1, b, m2, e1, e2, e3, e4, e5⟩ := op_h (op_fail hI (xs (nI (4 * t) + 1).toNatClampNeg)) e
  refine ⟨m2, ?_, e5⟩
  unfold b_L_law_23
  dsimp only
  rw [if_neg g, gd_t g0, hv, ifn (show ¬ nI 4 = 0 by decide), ifn (show ¬ nI 4 = 1 by decide), ifn (show ¬ nI 4 = 2 by decide), ifn (show ¬ nI 4 = 3 by decide), ifp (show nI 4 = 4 by decide)]
  simp only [gd_t g1, e1, bd_s, e2]
  exact law_tail e3 e4
theorem law_5 (hI : Inv m) (hC : lwC L t) (hv : xs (nI (4 * t)).toNatClampNeg &&& 31 = nI 5) : lwG m xs L t := by
  obtain ⟨g, g0, g1, g2, g3⟩ := hC
  have e : h_fix (xs (nI (4 * t) + 1).toNatClampNeg) m = bd (f_X11_fix (xs (nI (4 * t) + 1).toNatClampNeg) m) (fun r => tr r.1 (fun v => lt (wJ r.2 137 0 v.toInt64) (fun m2 => some (0, m2))) (fun e => bd (cdIS e) (fun c => some (c, r.2)))) := by
    unfold h_fix
    simp only [co_IS]
  obtain ⟨c, m1, b, m2, e1, e2, e3, e4, e5⟩ := op_h (op_fix hI (xs (nI (4 * t) + 1).toNatClampNeg)) e
  refine ⟨m2, ?_, e5⟩
  unfold b_L_law_23
  dsimp only
  rw [if_neg g, gd_t g0, hv, ifn (show ¬ nI 5 = 0 by decide), ifn (show ¬ nI 5 = 1 by decide), ifn (show ¬ nI 5 = 2 by decide), ifn (show ¬ nI 5 = 3 by decide), ifn (show ¬ nI 5 = 4 by decide), ifp (show nI 5 = 5 by decide)]
  simp only [gd_t g1, e1, bd_s, e2]
  exact law_tail e3 e4
theorem law_6 (hI : Inv m) (hC : lwC L t) (hv : xs (nI (4 * t)).toNatClampNeg &&& 31 = nI 6) : lwG m xs L t := by
  obtain ⟨g, g0, g1, g2, g3⟩ := hC
  have e : h_moveHost (xs (nI (4 * t) + 1).toNatClampNeg) (xs (nI (4 * t) + 2).toNatClampNeg) m = bd (f_X11_moveHost (xs (nI (4 * t) + 1).toNatClampNeg) (xs (nI (4 * t) + 2).toNatClampNeg) m) (fun r => tr r.1 (fun v => lt (wJ r.2 137 0 v.toInt64) (fun m2 => some (0, m2))) (fun e => bd (cdI e) (fun c => some (c, r.2)))) := by
    unfold h_moveHost
    simp only [co_I]
  obtain ⟨c, m1, b, m2, e1, e2, e3, e4, e5⟩ := op_h (op_moveHost hI (xs (nI (4 * t) + 1).toNatClampNeg) (xs (nI (4 * t) + 2).toNatClampNeg)) e
  refine ⟨m2, ?_, e5⟩
  unfold b_L_law_23
  dsimp only
  rw [if_neg g, gd_t g0, hv, ifn (show ¬ nI 6 = 0 by decide), ifn (show ¬ nI 6 = 1 by decide), ifn (show ¬ nI 6 = 2 by decide), ifn (show ¬ nI 6 = 3 by decide), ifn (show ¬ nI 6 = 4 by decide), ifn (show ¬ nI 6 = 5 by decide), ifp (show nI 6 = 6 by decide)]
  simp only [gd_t g1, gd_t g2, e1, bd_s, e2]
  exact law_tail e3 e4
theorem law_7 (hI : Inv m) (hC : lwC L t) (hv : xs (nI (4 * t)).toNatClampNeg &&& 31 = nI 7) : lwG m xs L t := by
  obtain ⟨g, g0, g1, g2, g3⟩ := hC
  have e : h_bid (xs (nI (4 * t) + 1).toNatClampNeg) (xs (nI (4 * t) + 2).toNatClampNeg) (xs (nI (4 * t) + 3).toNatClampNeg) m = bd (f_X11_bid (xs (nI (4 * t) + 1).toNatClampNeg) (xs (nI (4 * t) + 2).toNatClampNeg) (xs (nI (4 * t) + 3).toNatClampNeg) m) (fun r => tr r.1 (fun v => lt (wJ r.2 137 0 v.toInt64) (fun m2 => some (0, m2))) (fun e => bd (cdIA e) (fun c => some (c, r.2)))) := by
    unfold h_bid
    simp only [co_IA]
  obtain ⟨c, m1, b, m2, e1, e2, e3, e4, e5⟩ := op_h (op_bid hI (xs (nI (4 * t) + 1).toNatClampNeg) (xs (nI (4 * t) + 2).toNatClampNeg) (xs (nI (4 * t) + 3).toNatClampNeg)) e
  refine ⟨m2, ?_, e5⟩
  unfold b_L_law_23
  dsimp only
  rw [if_neg g, gd_t g0, hv, ifn (show ¬ nI 7 = 0 by decide), ifn (show ¬ nI 7 = 1 by decide), ifn (show ¬ nI 7 = 2 by decide), ifn (show ¬ nI 7 = 3 by decide), ifn (show ¬ nI 7 = 4 by decide), ifn (show ¬ nI 7 = 5 by decide), ifn (show ¬ nI 7 = 6 by decide), ifp (show nI 7 = 7 by decide)]
  simp only [gd_t g1, gd_t g2, gd_t g3, e1, bd_s, e2]
  exact law_tail e3 e4
theorem law_8 (hI : Inv m) (hC : lwC L t) (hv : xs (nI (4 * t)).toNatClampNeg &&& 31 = nI 8) : lwG m xs L t := by
  obtain ⟨g, g0, g1, g2, g3⟩ := hC
  have e : h_grant (xs (nI (4 * t) + 1).toNatClampNeg) (xs (nI (4 * t) + 2).toNatClampNeg) m = bd (f_X11_grant (xs (nI (4 * t) + 1).toNatClampNeg) (xs (nI (4 * t) + 2).toNatClampNeg) m) (fun r => tr r.1 (fun v => lt (wJ r.2 137 0 v.toInt64) (fun m2 => some (0, m2))) (fun e => bd (cdIAS e) (fun c => some (c, r.2)))) := by
    unfold h_grant
    simp only [co_IAS]
  obtain ⟨c, m1, b, m2, e1, e2, e3, e4, e5⟩ := op_h (op_grant hI (xs (nI (4 * t) + 1).toNatClampNeg) (xs (nI (4 * t) + 2).toNatClampNeg)) e
  refine ⟨m2, ?_, e5⟩
  unfold b_L_law_23
  dsimp only
  rw [if_neg g, gd_t g0, hv, ifn (show ¬ nI 8 = 0 by decide), ifn (show ¬ nI 8 = 1 by decide), ifn (show ¬ nI 8 = 2 by decide), ifn (show ¬ nI 8 = 3 by decide), ifn (show ¬ nI 8 = 4 by decide), ifn (show ¬ nI 8 = 5 by decide), ifn (show ¬ nI 8 = 6 by decide), ifn (show ¬ nI 8 = 7 by decide), ifp (show nI 8 = 8 by decide)]
  simp only [gd_t g1, gd_t g2, e1, bd_s, e2]
  exact law_tail e3 e4
theorem law_9 (hI : Inv m) (hC : lwC L t) (hv : xs (nI (4 * t)).toNatClampNeg &&& 31 = nI 9) : lwG m xs L t := by
  obtain ⟨g, g0, g1, g2, g3⟩ := hC
  have e : h_tick (xs (nI (4 * t) + 1).toNatClampNeg) m = bd (f_X11_tick (xs (nI (4 * t) + 1).toNatClampNeg) m) (fun r => tr r.1 (fun v => lt (wJ r.2 137 0 v.toInt64) (fun m2 => some (0, m2))) (fun e => bd (cdA e) (fun c => some (c, r.2)))) := by
    unfold h_tick
    simp only [co_A]
  obtain ⟨c, m1, b, m2, e1, e2, e3, e4, e5⟩ := op_h (op_tick hI (xs (nI (4 * t) + 1).toNatClampNeg)) e
  refine ⟨m2, ?_, e5⟩
  unfold b_L_law_23
  dsimp only
  rw [if_neg g, gd_t g0, hv, ifn (show ¬ nI 9 = 0 by decide), ifn (show ¬ nI 9 = 1 by decide), ifn (show ¬ nI 9 = 2 by decide), ifn (show ¬ nI 9 = 3 by decide), ifn (show ¬ nI 9 = 4 by decide), ifn (show ¬ nI 9 = 5 by decide), ifn (show ¬ nI 9 = 6 by decide), ifn (show ¬ nI 9 = 7 by decide), ifn (show ¬ nI 9 = 8 by decide), ifp (show nI 9 = 9 by decide)]
  simp only [gd_t g1, e1, bd_s, e2]
  exact law_tail e3 e4
theorem law_10 (hI : Inv m) (hC : lwC L t) (hv : xs (nI (4 * t)).toNatClampNeg &&& 31 = nI 10) : lwG m xs L t := by
  obtain ⟨g, g0, g1, g2, g3⟩ := hC
  obtain ⟨v, m1, m2, e1, e2, e3⟩ := op_time hI
  refine ⟨m2, ?_, e3⟩
  unfold b_L_law_23
  dsimp only
  rw [if_neg g, gd_t g0, hv, ifn (show ¬ nI 10 = 0 by decide), ifn (show ¬ nI 10 = 1 by decide), ifn (show ¬ nI 10 = 2 by decide), ifn (show ¬ nI 10 = 3 by decide), ifn (show ¬ nI 10 = 4 by decide), ifn (show ¬ nI 10 = 5 by decide), ifn (show ¬ nI 10 = 6 by decide), ifn (show ¬ nI 10 = 7 by decide), ifn (show ¬ nI 10 = 8 by decide), ifn (show ¬ nI 10 = 9 by decide), ifp (show nI 10 = 10 by decide)]
  rw [e1, bd_s, e2, bd_s]
  exact if_pos rfl
theorem law_11 (hI : Inv m) (hC : lwC L t) (hv : xs (nI (4 * t)).toNatClampNeg &&& 31 = nI 11) : lwG m xs L t := by
  obtain ⟨g, g0, g1, g2, g3⟩ := hC
  have e : h_send (xs (nI (4 * t) + 1).toNatClampNeg) (xs (nI (4 * t) + 2).toNatClampNeg) m = bd (f_X11_send (xs (nI (4 * t) + 1).toNatClampNeg) (xs (nI (4 * t) + 2).toNatClampNeg) m) (fun r => tr r.1 (fun v => lt (wJ r.2 137 0 v.toInt64) (fun m2 => some (0, m2))) (fun e => bd (cdIA e) (fun c => some (c, r.2)))) := by
    unfold h_send
    simp only [co_IA]
  obtain ⟨c, m1, b, m2, e1, e2, e3, e4, e5⟩ := op_h (op_send hI (xs (nI (4 * t) + 1).toNatClampNeg) (xs (nI (4 * t) + 2).toNatClampNeg)) e
  refine ⟨m2, ?_, e5⟩
  unfold b_L_law_23
  dsimp only
  rw [if_neg g, gd_t g0, hv, ifn (show ¬ nI 11 = 0 by decide), ifn (show ¬ nI 11 = 1 by decide), ifn (show ¬ nI 11 = 2 by decide), ifn (show ¬ nI 11 = 3 by decide), ifn (show ¬ nI 11 = 4 by decide), ifn (show ¬ nI 11 = 5 by decide), ifn (show ¬ nI 11 = 6 by decide), ifn (show ¬ nI 11 = 7 by decide), ifn (show ¬ nI 11 = 8 by decide), ifn (show ¬ nI 11 = 9 by decide), ifn (show ¬ nI 11 = 10 by decide), ifp (show nI 11 = 11 by decide)]
  simp only [gd_t g1, gd_t g2, e1, bd_s, e2]
  exact law_tail e3 e4
theorem law_12 (hI : Inv m) (hC : lwC L t) (hv : xs (nI (4 * t)).toNatClampNeg &&& 31 = nI 12) : lwG m xs L t := by
  obtain ⟨g, g0, g1, g2, g3⟩ := hC
  have e : h_bridge (xs (nI (4 * t) + 1).toNatClampNeg) (xs (nI (4 * t) + 2).toNatClampNeg) m = bd (f_X11_bridge (xs (nI (4 * t) + 1).toNatClampNeg) (xs (nI (4 * t) + 2).toNatClampNeg) m) (fun r => tr r.1 (fun v => lt (wJ r.2 137 0 v.toInt64) (fun m2 => some (0, m2))) (fun e => bd (cdIA e) (fun c => some (c, r.2)))) := by
    unfold h_bridge
    simp only [co_IA]
  obtain ⟨c, m1, b, m2, e1, e2, e3, e4, e5⟩ := op_h (op_bridge hI (xs (nI (4 * t) + 1).toNatClampNeg) (xs (nI (4 * t) + 2).toNatClampNeg)) e
  refine ⟨m2, ?_, e5⟩
  unfold b_L_law_23
  dsimp only
  rw [if_neg g, gd_t g0, hv, ifn (show ¬ nI 12 = 0 by decide), ifn (show ¬ nI 12 = 1 by decide), ifn (show ¬ nI 12 = 2 by decide), ifn (show ¬ nI 12 = 3 by decide), ifn (show ¬ nI 12 = 4 by decide), ifn (show ¬ nI 12 = 5 by decide), ifn (show ¬ nI 12 = 6 by decide), ifn (show ¬ nI 12 = 7 by decide), ifn (show ¬ nI 12 = 8 by decide), ifn (show ¬ nI 12 = 9 by decide), ifn (show ¬ nI 12 = 10 by decide), ifn (show ¬ nI 12 = 11 by decide), ifp (show nI 12 = 12 by decide)]
  simp only [gd_t g1, gd_t g2, e1, bd_s, e2]
  exact law_tail e3 e4
theorem law_13 (hI : Inv m) (hC : lwC L t) (hv : xs (nI (4 * t)).toNatClampNeg &&& 31 = nI 13) : lwG m xs L t := by
  obtain ⟨g, g0, g1, g2, g3⟩ := hC
  obtain ⟨v, m1, m2, e1, e2, e3⟩ := op_links hI
  refine ⟨m2, ?_, e3⟩
  unfold b_L_law_23
  dsimp only
  rw [if_neg g, gd_t g0, hv, ifn (show ¬ nI 13 = 0 by decide), ifn (show ¬ nI 13 = 1 by decide), ifn (show ¬ nI 13 = 2 by decide), ifn (show ¬ nI 13 = 3 by decide), ifn (show ¬ nI 13 = 4 by decide), ifn (show ¬ nI 13 = 5 by decide), ifn (show ¬ nI 13 = 6 by decide), ifn (show ¬ nI 13 = 7 by decide), ifn (show ¬ nI 13 = 8 by decide), ifn (show ¬ nI 13 = 9 by decide), ifn (show ¬ nI 13 = 10 by decide), ifn (show ¬ nI 13 = 11 by decide), ifn (show ¬ nI 13 = 12 by decide), ifp (show nI 13 = 13 by decide)]
  rw [e1, bd_s, e2, bd_s]
  exact if_pos rfl
theorem law_14 (hI : Inv m) (hC : lwC L t) (hv : xs (nI (4 * t)).toNatClampNeg &&& 31 = nI 14) : lwG m xs L t := by
  obtain ⟨g, g0, g1, g2, g3⟩ := hC
  have e : h_link (xs (nI (4 * t) + 1).toNatClampNeg) (xs (nI (4 * t) + 2).toNatClampNeg) m = bd (f_X11_link (xs (nI (4 * t) + 1).toNatClampNeg) (xs (nI (4 * t) + 2).toNatClampNeg) m) (fun r => tr r.1 (fun v => lt (wJ r.2 137 0 v.toInt64) (fun m2 => some (0, m2))) (fun e => bd (cdIA e) (fun c => some (c, r.2)))) := by
    unfold h_link
    simp only [co_IA]
  obtain ⟨c, m1, b, m2, e1, e2, e3, e4, e5⟩ := op_h (op_link hI (xs (nI (4 * t) + 1).toNatClampNeg) (xs (nI (4 * t) + 2).toNatClampNeg)) e
  refine ⟨m2, ?_, e5⟩
  unfold b_L_law_23
  dsimp only
  rw [if_neg g, gd_t g0, hv, ifn (show ¬ nI 14 = 0 by decide), ifn (show ¬ nI 14 = 1 by decide), ifn (show ¬ nI 14 = 2 by decide), ifn (show ¬ nI 14 = 3 by decide), ifn (show ¬ nI 14 = 4 by decide), ifn (show ¬ nI 14 = 5 by decide), ifn (show ¬ nI 14 = 6 by decide), ifn (show ¬ nI 14 = 7 by decide), ifn (show ¬ nI 14 = 8 by decide), ifn (show ¬ nI 14 = 9 by decide), ifn (show ¬ nI 14 = 10 by decide), ifn (show ¬ nI 14 = 11 by decide), ifn (show ¬ nI 14 = 12 by decide), ifn (show ¬ nI 14 = 13 by decide), ifp (show nI 14 = 14 by decide)]
  simp only [gd_t g1, gd_t g2, e1, bd_s, e2]
  exact law_tail e3 e4
theorem law_15 (hI : Inv m) (hC : lwC L t) (hv : xs (nI (4 * t)).toNatClampNeg &&& 31 = nI 15) : lwG m xs L t := by
  obtain ⟨g, g0, g1, g2, g3⟩ := hC
  by_cases hz : (xs (nI (4 * t) + 2).toNatClampNeg) = 0
  · have e : h_port (xs (nI (4 * t) + 1).toNatClampNeg) 0 (xs (nI (4 * t) + 3).toNatClampNeg) m = bd (f_X11_port (xs (nI (4 * t) + 1).toNatClampNeg) 0 (xs (nI (4 * t) + 3).toNatClampNeg) m) (fun r => tr r.1 (fun v => lt (wJ r.2 137 0 v.toInt64) (fun m2 => some (0, m2))) (fun e => bd (cdIA e) (fun c => some (c, r.2)))) := by
      unfold h_port
      simp only [co_IA]
    obtain ⟨c, m1, b, m2, e1, e2, e3, e4, e5⟩ := op_h (op_port hI (xs (nI (4 * t) + 1).toNatClampNeg) (xs (nI (4 * t) + 3).toNatClampNeg) 0 (by decide)) e
    have e2 : f_X12_port (xs (nI (4 * t) + 1).toNatClampNeg) 0 (xs (nI (4 * t) + 3).toNatClampNeg) m1 = some (b, m2) := e2
    refine ⟨m2, ?_, e5⟩
    unfold b_L_law_23
    dsimp only
    rw [if_neg g, gd_t g0, hv, ifn (show ¬ nI 15 = 0 by decide), ifn (show ¬ nI 15 = 1 by decide), ifn (show ¬ nI 15 = 2 by decide), ifn (show ¬ nI 15 = 3 by decide), ifn (show ¬ nI 15 = 4 by decide), ifn (show ¬ nI 15 = 5 by decide), ifn (show ¬ nI 15 = 6 by decide), ifn (show ¬ nI 15 = 7 by decide), ifn (show ¬ nI 15 = 8 by decide), ifn (show ¬ nI 15 = 9 by decide), ifn (show ¬ nI 15 = 10 by decide), ifn (show ¬ nI 15 = 11 by decide), ifn (show ¬ nI 15 = 12 by decide), ifn (show ¬ nI 15 = 13 by decide), ifn (show ¬ nI 15 = 14 by decide), ifp (show nI 15 = 15 by decide)]
    rw [gd_t g1, gd_t g2, ifp hz]
    unfold j_L_law_1075
    rw [gd_t g3, e1, bd_s, gd_t g1, gd_t g2, ifp hz]
    unfold j_L_law_1108
    rw [gd_t g3]
    show bd (f_X12_port (xs (nI (4 * t) + 1).toNatClampNeg) 0 (xs (nI (4 * t) + 3).toNatClampNeg) m1) _ = _
    rw [e2, bd_s]
    exact law_tail e3 e4
  · have e : h_port (xs (nI (4 * t) + 1).toNatClampNeg) 1 (xs (nI (4 * t) + 3).toNatClampNeg) m = bd (f_X11_port (xs (nI (4 * t) + 1).toNatClampNeg) 1 (xs (nI (4 * t) + 3).toNatClampNeg) m) (fun r => tr r.1 (fun v => lt (wJ r.2 137 0 v.toInt64) (fun m2 => some (0, m2))) (fun e => bd (cdIA e) (fun c => some (c, r.2)))) := by
      unfold h_port
      simp only [co_IA]
    obtain ⟨c, m1, b, m2, e1, e2, e3, e4, e5⟩ := op_h (op_port hI (xs (nI (4 * t) + 1).toNatClampNeg) (xs (nI (4 * t) + 3).toNatClampNeg) 1 (by decide)) e
    have e2 : f_X12_port (xs (nI (4 * t) + 1).toNatClampNeg) 1 (xs (nI (4 * t) + 3).toNatClampNeg) m1 = some (b, m2) := e2
    refine ⟨m2, ?_, e5⟩
    unfold b_L_law_23
    dsimp only
    rw [if_neg g, gd_t g0, hv, ifn (show ¬ nI 15 = 0 by decide), ifn (show ¬ nI 15 = 1 by decide), ifn (show ¬ nI 15 = 2 by decide), ifn (show ¬ nI 15 = 3 by decide), ifn (show ¬ nI 15 = 4 by decide), ifn (show ¬ nI 15 = 5 by decide), ifn (show ¬ nI 15 = 6 by decide), ifn (show ¬ nI 15 = 7 by decide), ifn (show ¬ nI 15 = 8 by decide), ifn (show ¬ nI 15 = 9 by decide), ifn (show ¬ nI 15 = 10 by decide), ifn (show ¬ nI 15 = 11 by decide), ifn (show ¬ nI 15 = 12 by decide), ifn (show ¬ nI 15 = 13 by decide), ifn (show ¬ nI 15 = 14 by decide), ifp (show nI 15 = 15 by decide)]
    rw [gd_t g1, gd_t g2, ifn hz]
    unfold j_L_law_1075
    rw [gd_t g3, e1, bd_s, gd_t g1, gd_t g2, ifn hz]
    unfold j_L_law_1108
    rw [gd_t g3]
    show bd (f_X12_port (xs (nI (4 * t) + 1).toNatClampNeg) 1 (xs (nI (4 * t) + 3).toNatClampNeg) m1) _ = _
    rw [e2, bd_s]
    exact law_tail e3 e4
theorem law_16 (hI : Inv m) (hC : lwC L t) (hv : xs (nI (4 * t)).toNatClampNeg &&& 31 = nI 16) : lwG m xs L t := by
  obtain ⟨g, g0, g1, g2, g3⟩ := hC
  have e : h_entry (xs (nI (4 * t) + 1).toNatClampNeg) (xs (nI (4 * t) + 2).toNatClampNeg) m = bd (f_X11_entry (xs (nI (4 * t) + 1).toNatClampNeg) (xs (nI (4 * t) + 2).toNatClampNeg) m) (fun r => tr r.1 (fun v => lt (wJ r.2 137 0 v.toInt64) (fun m2 => some (0, m2))) (fun e => bd (cdI e) (fun c => some (c, r.2)))) := by
    unfold h_entry
    simp only [co_I]
  obtain ⟨c, m1, b, m2, e1, e2, e3, e4, e5⟩ := op_h (op_entry hI (xs (nI (4 * t) + 1).toNatClampNeg) (xs (nI (4 * t) + 2).toNatClampNeg)) e
  refine ⟨m2, ?_, e5⟩
  unfold b_L_law_23
  dsimp only
  rw [if_neg g, gd_t g0, hv, ifn (show ¬ nI 16 = 0 by decide), ifn (show ¬ nI 16 = 1 by decide), ifn (show ¬ nI 16 = 2 by decide), ifn (show ¬ nI 16 = 3 by decide), ifn (show ¬ nI 16 = 4 by decide), ifn (show ¬ nI 16 = 5 by decide), ifn (show ¬ nI 16 = 6 by decide), ifn (show ¬ nI 16 = 7 by decide), ifn (show ¬ nI 16 = 8 by decide), ifn (show ¬ nI 16 = 9 by decide), ifn (show ¬ nI 16 = 10 by decide), ifn (show ¬ nI 16 = 11 by decide), ifn (show ¬ nI 16 = 12 by decide), ifn (show ¬ nI 16 = 13 by decide), ifn (show ¬ nI 16 = 14 by decide), ifn (show ¬ nI 16 = 15 by decide), ifp (show nI 16 = 16 by decide)]
  simp only [gd_t g1, gd_t g2, e1, bd_s, e2]
  exact law_tail e3 e4
theorem law_17 (hI : Inv m) (hC : lwC L t) (hv : xs (nI (4 * t)).toNatClampNeg &&& 31 = nI 17) : lwG m xs L t := by
  obtain ⟨g, g0, g1, g2, g3⟩ := hC
  have e : h_tenant (xs (nI (4 * t) + 1).toNatClampNeg) (xs (nI (4 * t) + 2).toNatClampNeg) m = bd (f_X11_tenant (xs (nI (4 * t) + 1).toNatClampNeg) (xs (nI (4 * t) + 2).toNatClampNeg) m) (fun r => tr r.1 (fun v => lt (wJ r.2 137 0 v.toInt64) (fun m2 => some (0, m2))) (fun e => bd (cdIA e) (fun c => some (c, r.2)))) := by
    unfold h_tenant
    simp only [co_IA]
  obtain ⟨c, m1, b, m2, e1, e2, e3, e4, e5⟩ := op_h (op_tenant hI (xs (nI (4 * t) + 1).toNatClampNeg) (xs (nI (4 * t) + 2).toNatClampNeg)) e
  refine ⟨m2, ?_, e5⟩
  unfold b_L_law_23
  dsimp only
  rw [if_neg g, gd_t g0, hv, ifn (show ¬ nI 17 = 0 by decide), ifn (show ¬ nI 17 = 1 by decide), ifn (show ¬ nI 17 = 2 by decide), ifn (show ¬ nI 17 = 3 by decide), ifn (show ¬ nI 17 = 4 by decide), ifn (show ¬ nI 17 = 5 by decide), ifn (show ¬ nI 17 = 6 by decide), ifn (show ¬ nI 17 = 7 by decide), ifn (show ¬ nI 17 = 8 by decide), ifn (show ¬ nI 17 = 9 by decide), ifn (show ¬ nI 17 = 10 by decide), ifn (show ¬ nI 17 = 11 by decide), ifn (show ¬ nI 17 = 12 by decide), ifn (show ¬ nI 17 = 13 by decide), ifn (show ¬ nI 17 = 14 by decide), ifn (show ¬ nI 17 = 15 by decide), ifn (show ¬ nI 17 = 16 by decide), ifp (show nI 17 = 17 by decide)]
  simp only [gd_t g1, gd_t g2, e1, bd_s, e2]
  exact law_tail e3 e4
theorem law_18 (hI : Inv m) (hC : lwC L t) (hv : xs (nI (4 * t)).toNatClampNeg &&& 31 = nI 18) : lwG m xs L t := by
  obtain ⟨g, g0, g1, g2, g3⟩ := hC
  have e : h_bidOf (xs (nI (4 * t) + 1).toNatClampNeg) (xs (nI (4 * t) + 2).toNatClampNeg) m = bd (f_X11_bidOf (xs (nI (4 * t) + 1).toNatClampNeg) (xs (nI (4 * t) + 2).toNatClampNeg) m) (fun r => tr r.1 (fun v => lt (wJ r.2 137 0 v.toInt64) (fun m2 => some (0, m2))) (fun e => bd (cdI e) (fun c => some (c, r.2)))) := by
    unfold h_bidOf
    simp only [co_I]
  obtain ⟨c, m1, b, m2, e1, e2, e3, e4, e5⟩ := op_h (op_bidOf hI (xs (nI (4 * t) + 1).toNatClampNeg) (xs (nI (4 * t) + 2).toNatClampNeg)) e
  refine ⟨m2, ?_, e5⟩
  unfold b_L_law_23
  dsimp only
  rw [if_neg g, gd_t g0, hv, ifn (show ¬ nI 18 = 0 by decide), ifn (show ¬ nI 18 = 1 by decide), ifn (show ¬ nI 18 = 2 by decide), ifn (show ¬ nI 18 = 3 by decide), ifn (show ¬ nI 18 = 4 by decide), ifn (show ¬ nI 18 = 5 by decide), ifn (show ¬ nI 18 = 6 by decide), ifn (show ¬ nI 18 = 7 by decide), ifn (show ¬ nI 18 = 8 by decide), ifn (show ¬ nI 18 = 9 by decide), ifn (show ¬ nI 18 = 10 by decide), ifn (show ¬ nI 18 = 11 by decide), ifn (show ¬ nI 18 = 12 by decide), ifn (show ¬ nI 18 = 13 by decide), ifn (show ¬ nI 18 = 14 by decide), ifn (show ¬ nI 18 = 15 by decide), ifn (show ¬ nI 18 = 16 by decide), ifn (show ¬ nI 18 = 17 by decide), ifp (show nI 18 = 18 by decide)]
  simp only [gd_t g1, gd_t g2, e1, bd_s, e2]
  exact law_tail e3 e4
theorem law_19 (hI : Inv m) (hC : lwC L t) (hv : xs (nI (4 * t)).toNatClampNeg &&& 31 = nI 19) : lwG m xs L t := by
  obtain ⟨g, g0, g1, g2, g3⟩ := hC
  have e : h_count (xs (nI (4 * t) + 1).toNatClampNeg) m = bd (f_X11_count (xs (nI (4 * t) + 1).toNatClampNeg) m) (fun r => tr r.1 (fun v => lt (wJ r.2 137 0 v.toInt64) (fun m2 => some (0, m2))) (fun e => bd (cdA e) (fun c => some (c, r.2)))) := by
    unfold h_count
    simp only [co_A]
  obtain ⟨c, m1, b, m2, e1, e2, e3, e4, e5⟩ := op_h (op_count hI (xs (nI (4 * t) + 1).toNatClampNeg)) e
  refine ⟨m2, ?_, e5⟩
  unfold b_L_law_23
  dsimp only
  rw [if_neg g, gd_t g0, hv, ifn (show ¬ nI 19 = 0 by decide), ifn (show ¬ nI 19 = 1 by decide), ifn (show ¬ nI 19 = 2 by decide), ifn (show ¬ nI 19 = 3 by decide), ifn (show ¬ nI 19 = 4 by decide), ifn (show ¬ nI 19 = 5 by decide), ifn (show ¬ nI 19 = 6 by decide), ifn (show ¬ nI 19 = 7 by decide), ifn (show ¬ nI 19 = 8 by decide), ifn (show ¬ nI 19 = 9 by decide), ifn (show ¬ nI 19 = 10 by decide), ifn (show ¬ nI 19 = 11 by decide), ifn (show ¬ nI 19 = 12 by decide), ifn (show ¬ nI 19 = 13 by decide), ifn (show ¬ nI 19 = 14 by decide), ifn (show ¬ nI 19 = 15 by decide), ifn (show ¬ nI 19 = 16 by decide), ifn (show ¬ nI 19 = 17 by decide), ifn (show ¬ nI 19 = 18 by decide), ifp (show nI 19 = 19 by decide)]
  simp only [gd_t g1, e1, bd_s, e2]
  exact law_tail e3 e4
theorem law_20 (hI : Inv m) (hC : lwC L t) (hv : xs (nI (4 * t)).toNatClampNeg &&& 31 = nI 20) : lwG m xs L t := by
  obtain ⟨g, g0, g1, g2, g3⟩ := hC
  obtain ⟨v, m1, m2, e1, e2, e3⟩ := op_isForest hI
  refine ⟨m2, ?_, e3⟩
  unfold b_L_law_23
  dsimp only
  rw [if_neg g, gd_t g0, hv, ifn (show ¬ nI 20 = 0 by decide), ifn (show ¬ nI 20 = 1 by decide), ifn (show ¬ nI 20 = 2 by decide), ifn (show ¬ nI 20 = 3 by decide), ifn (show ¬ nI 20 = 4 by decide), ifn (show ¬ nI 20 = 5 by decide), ifn (show ¬ nI 20 = 6 by decide), ifn (show ¬ nI 20 = 7 by decide), ifn (show ¬ nI 20 = 8 by decide), ifn (show ¬ nI 20 = 9 by decide), ifn (show ¬ nI 20 = 10 by decide), ifn (show ¬ nI 20 = 11 by decide), ifn (show ¬ nI 20 = 12 by decide), ifn (show ¬ nI 20 = 13 by decide), ifn (show ¬ nI 20 = 14 by decide), ifn (show ¬ nI 20 = 15 by decide), ifn (show ¬ nI 20 = 16 by decide), ifn (show ¬ nI 20 = 17 by decide), ifn (show ¬ nI 20 = 18 by decide), ifn (show ¬ nI 20 = 19 by decide), ifp (show nI 20 = 20 by decide)]
  rw [e1, bd_s, e2, bd_s]
  exact if_pos rfl
theorem law_21 (hI : Inv m) (hC : lwC L t) (hv : xs (nI (4 * t)).toNatClampNeg &&& 31 = nI 21) : lwG m xs L t := by
  obtain ⟨g, g0, g1, g2, g3⟩ := hC
  have e : h_type (xs (nI (4 * t) + 1).toNatClampNeg) m = bd (f_X11_type (xs (nI (4 * t) + 1).toNatClampNeg) m) (fun r => tr r.1 (fun v => lt (wJ r.2 137 0 v.toInt64) (fun m2 => some (0, m2))) (fun e => bd (cdAS e) (fun c => some (c, r.2)))) := by
    unfold h_type
    simp only [co_AS]
  obtain ⟨c, m1, b, m2, e1, e2, e3, e4, e5⟩ := op_h (op_type hI (xs (nI (4 * t) + 1).toNatClampNeg)) e
  refine ⟨m2, ?_, e5⟩
  unfold b_L_law_23
  dsimp only
  rw [if_neg g, gd_t g0, hv, ifn (show ¬ nI 21 = 0 by decide), ifn (show ¬ nI 21 = 1 by decide), ifn (show ¬ nI 21 = 2 by decide), ifn (show ¬ nI 21 = 3 by decide), ifn (show ¬ nI 21 = 4 by decide), ifn (show ¬ nI 21 = 5 by decide), ifn (show ¬ nI 21 = 6 by decide), ifn (show ¬ nI 21 = 7 by decide), ifn (show ¬ nI 21 = 8 by decide), ifn (show ¬ nI 21 = 9 by decide), ifn (show ¬ nI 21 = 10 by decide), ifn (show ¬ nI 21 = 11 by decide), ifn (show ¬ nI 21 = 12 by decide), ifn (show ¬ nI 21 = 13 by decide), ifn (show ¬ nI 21 = 14 by decide), ifn (show ¬ nI 21 = 15 by decide), ifn (show ¬ nI 21 = 16 by decide), ifn (show ¬ nI 21 = 17 by decide), ifn (show ¬ nI 21 = 18 by decide), ifn (show ¬ nI 21 = 19 by decide), ifn (show ¬ nI 21 = 20 by decide), ifp (show nI 21 = 21 by decide)]
  simp only [gd_t g1, e1, bd_s, e2]
  exact law_tail e3 e4
theorem law_22 (hI : Inv m) (hC : lwC L t) (hv : xs (nI (4 * t)).toNatClampNeg &&& 31 = nI 22) : lwG m xs L t := by
  obtain ⟨g, g0, g1, g2, g3⟩ := hC
  obtain ⟨v, m1, m2, e1, e2, e3⟩ := op_clearScript hI
  refine ⟨m2, ?_, e3⟩
  unfold b_L_law_23
  dsimp only
  rw [if_neg g, gd_t g0, hv, ifn (show ¬ nI 22 = 0 by decide), ifn (show ¬ nI 22 = 1 by decide), ifn (show ¬ nI 22 = 2 by decide), ifn (show ¬ nI 22 = 3 by decide), ifn (show ¬ nI 22 = 4 by decide), ifn (show ¬ nI 22 = 5 by decide), ifn (show ¬ nI 22 = 6 by decide), ifn (show ¬ nI 22 = 7 by decide), ifn (show ¬ nI 22 = 8 by decide), ifn (show ¬ nI 22 = 9 by decide), ifn (show ¬ nI 22 = 10 by decide), ifn (show ¬ nI 22 = 11 by decide), ifn (show ¬ nI 22 = 12 by decide), ifn (show ¬ nI 22 = 13 by decide), ifn (show ¬ nI 22 = 14 by decide), ifn (show ¬ nI 22 = 15 by decide), ifn (show ¬ nI 22 = 16 by decide), ifn (show ¬ nI 22 = 17 by decide), ifn (show ¬ nI 22 = 18 by decide), ifn (show ¬ nI 22 = 19 by decide), ifn (show ¬ nI 22 = 20 by decide), ifn (show ¬ nI 22 = 21 by decide), ifp (show nI 22 = 22 by decide)]
  rw [e1, bd_s, e2, bd_s]
  exact if_pos rfl
theorem law_23 (hI : Inv m) (hC : lwC L t) (hv : xs (nI (4 * t)).toNatClampNeg &&& 31 = nI 23) : lwG m xs L t := by
  obtain ⟨g, g0, g1, g2, g3⟩ := hC
  obtain ⟨v, m1, m2, e1, e2, e3⟩ := op_run hI
  refine ⟨m2, ?_, e3⟩
  unfold b_L_law_23
  dsimp only
  rw [if_neg g, gd_t g0, hv, ifn (show ¬ nI 23 = 0 by decide), ifn (show ¬ nI 23 = 1 by decide), ifn (show ¬ nI 23 = 2 by decide), ifn (show ¬ nI 23 = 3 by decide), ifn (show ¬ nI 23 = 4 by decide), ifn (show ¬ nI 23 = 5 by decide), ifn (show ¬ nI 23 = 6 by decide), ifn (show ¬ nI 23 = 7 by decide), ifn (show ¬ nI 23 = 8 by decide), ifn (show ¬ nI 23 = 9 by decide), ifn (show ¬ nI 23 = 10 by decide), ifn (show ¬ nI 23 = 11 by decide), ifn (show ¬ nI 23 = 12 by decide), ifn (show ¬ nI 23 = 13 by decide), ifn (show ¬ nI 23 = 14 by decide), ifn (show ¬ nI 23 = 15 by decide), ifn (show ¬ nI 23 = 16 by decide), ifn (show ¬ nI 23 = 17 by decide), ifn (show ¬ nI 23 = 18 by decide), ifn (show ¬ nI 23 = 19 by decide), ifn (show ¬ nI 23 = 20 by decide), ifn (show ¬ nI 23 = 21 by decide), ifn (show ¬ nI 23 = 22 by decide), ifp (show nI 23 = 23 by decide)]
  rw [e1, bd_s, e2, bd_s]
  exact if_pos rfl
theorem law_24 (hI : Inv m) (hC : lwC L t) (hv : xs (nI (4 * t)).toNatClampNeg &&& 31 = nI 24) : lwG m xs L t := by
  obtain ⟨g, g0, g1, g2, g3⟩ := hC
  have e : h_undo  m = bd (f_X11_undo  m) (fun r => tr r.1 (fun v => lt (wJ r.2 137 0 v.toInt64) (fun m2 => some (0, m2))) (fun e => bd (cdS e) (fun c => some (c, r.2)))) := by
    unfold h_undo
    simp only [co_S]
  obtain ⟨c, m1, b, m2, e1, e2, e3, e4, e5⟩ := op_h (op_undo hI) e
  refine ⟨m2, ?_, e5⟩
  unfold b_L_law_23
  dsimp only
  rw [if_neg g, gd_t g0, hv, ifn (show ¬ nI 24 = 0 by decide), ifn (show ¬ nI 24 = 1 by decide), ifn (show ¬ nI 24 = 2 by decide), ifn (show ¬ nI 24 = 3 by decide), ifn (show ¬ nI 24 = 4 by decide), ifn (show ¬ nI 24 = 5 by decide), ifn (show ¬ nI 24 = 6 by decide), ifn (show ¬ nI 24 = 7 by decide), ifn (show ¬ nI 24 = 8 by decide), ifn (show ¬ nI 24 = 9 by decide), ifn (show ¬ nI 24 = 10 by decide), ifn (show ¬ nI 24 = 11 by decide), ifn (show ¬ nI 24 = 12 by decide), ifn (show ¬ nI 24 = 13 by decide), ifn (show ¬ nI 24 = 14 by decide), ifn (show ¬ nI 24 = 15 by decide), ifn (show ¬ nI 24 = 16 by decide), ifn (show ¬ nI 24 = 17 by decide), ifn (show ¬ nI 24 = 18 by decide), ifn (show ¬ nI 24 = 19 by decide), ifn (show ¬ nI 24 = 20 by decide), ifn (show ¬ nI 24 = 21 by decide), ifn (show ¬ nI 24 = 22 by decide), ifn (show ¬ nI 24 = 23 by decide), ifp (show nI 24 = 24 by decide)]
  simp only [e1, bd_s, e2]
  exact law_tail e3 e4
theorem law_25 (hI : Inv m) (hC : lwC L t) (hv : xs (nI (4 * t)).toNatClampNeg &&& 31 = nI 25) : lwG m xs L t := by
  obtain ⟨g, g0, g1, g2, g3⟩ := hC
  obtain ⟨v, m1, m2, e1, e2, e3⟩ := op_digest hI
  refine ⟨m2, ?_, e3⟩
  unfold b_L_law_23
  dsimp only
  rw [if_neg g, gd_t g0, hv, ifn (show ¬ nI 25 = 0 by decide), ifn (show ¬ nI 25 = 1 by decide), ifn (show ¬ nI 25 = 2 by decide), ifn (show ¬ nI 25 = 3 by decide), ifn (show ¬ nI 25 = 4 by decide), ifn (show ¬ nI 25 = 5 by decide), ifn (show ¬ nI 25 = 6 by decide), ifn (show ¬ nI 25 = 7 by decide), ifn (show ¬ nI 25 = 8 by decide), ifn (show ¬ nI 25 = 9 by decide), ifn (show ¬ nI 25 = 10 by decide), ifn (show ¬ nI 25 = 11 by decide), ifn (show ¬ nI 25 = 12 by decide), ifn (show ¬ nI 25 = 13 by decide), ifn (show ¬ nI 25 = 14 by decide), ifn (show ¬ nI 25 = 15 by decide), ifn (show ¬ nI 25 = 16 by decide), ifn (show ¬ nI 25 = 17 by decide), ifn (show ¬ nI 25 = 18 by decide), ifn (show ¬ nI 25 = 19 by decide), ifn (show ¬ nI 25 = 20 by decide), ifn (show ¬ nI 25 = 21 by decide), ifn (show ¬ nI 25 = 22 by decide), ifn (show ¬ nI 25 = 23 by decide), ifn (show ¬ nI 25 = 24 by decide), ifp (show nI 25 = 25 by decide)]
  rw [e1, bd_s, trl, e2, bd_s]
  show (if lg_cmp v v = 0 then _ else _) = _
  rw [cmp_self, if_pos rfl]
  rfl
theorem law_26 {j : Nat} (hI : Inv m) (hC : lwC L t) (hj : 26 ≤ j) (hj2 : j < 32) (hv : xs (nI (4 * t)).toNatClampNeg &&& 31 = nI j) : lwG m xs L t := by
  obtain ⟨g, g0, g1, g2, g3⟩ := hC
  have hn : ∀ k, k < 26 → ¬ nI j = nI k := fun k hk => by rw [nI_eqs (by omega) (by omega)]; omega
  refine ⟨m, ?_, hI⟩
  unfold b_L_law_23
  dsimp only
  rw [if_neg g, gd_t g0, hv, ifn (show ¬ nI j = 0 from hn 0 (by decide)), ifn (show ¬ nI j = 1 from hn 1 (by decide)), ifn (show ¬ nI j = 2 from hn 2 (by decide)), ifn (show ¬ nI j = 3 from hn 3 (by decide)), ifn (show ¬ nI j = 4 from hn 4 (by decide)), ifn (show ¬ nI j = 5 from hn 5 (by decide)), ifn (show ¬ nI j = 6 from hn 6 (by decide)), ifn (show ¬ nI j = 7 from hn 7 (by decide)), ifn (show ¬ nI j = 8 from hn 8 (by decide)), ifn (show ¬ nI j = 9 from hn 9 (by decide)), ifn (show ¬ nI j = 10 from hn 10 (by decide)), ifn (show ¬ nI j = 11 from hn 11 (by decide)), ifn (show ¬ nI j = 12 from hn 12 (by decide)), ifn (show ¬ nI j = 13 from hn 13 (by decide)), ifn (show ¬ nI j = 14 from hn 14 (by decide)), ifn (show ¬ nI j = 15 from hn 15 (by decide)), ifn (show ¬ nI j = 16 from hn 16 (by decide)), ifn (show ¬ nI j = 17 from hn 17 (by decide)), ifn (show ¬ nI j = 18 from hn 18 (by decide)), ifn (show ¬ nI j = 19 from hn 19 (by decide)), ifn (show ¬ nI j = 20 from hn 20 (by decide)), ifn (show ¬ nI j = 21 from hn 21 (by decide)), ifn (show ¬ nI j = 22 from hn 22 (by decide)), ifn (show ¬ nI j = 23 from hn 23 (by decide)), ifn (show ¬ nI j = 24 from hn 24 (by decide)), ifn (show ¬ nI j = 25 from hn 25 (by decide))]
  rfl
theorem law_step (hI : Inv m) (ht : 4 * t + 4 ≤ L) (hL : L ≤ 2048) : lwG m xs L t := by
  have hC := lwC_of ht hL
  obtain ⟨j, hj, hv⟩ := pk_andE (xs (nI (4 * t)).toNatClampNeg) (m := 31) 5 (by decide)
  have hj : j < 32 := hj
  by_cases h26 : 26 ≤ j
  · exact law_26 hI hC h26 hj hv
  · have : j = 0 ∨ j = 1 ∨ j = 2 ∨ j = 3 ∨ j = 4 ∨ j = 5 ∨ j = 6 ∨ j = 7 ∨ j = 8 ∨ j = 9 ∨ j = 10 ∨ j = 11 ∨ j = 12 ∨ j = 13 ∨ j = 14 ∨ j = 15 ∨ j = 16 ∨ j = 17 ∨ j = 18 ∨ j = 19 ∨ j = 20 ∨ j = 21 ∨ j = 22 ∨ j = 23 ∨ j = 24 ∨ j = 25 := by omega
    rcases this with rfl | rfl | rfl | rfl | rfl | rfl | rfl | rfl | rfl | rfl | rfl | rfl | rfl | rfl | rfl | rfl | rfl | rfl | rfl | rfl | rfl | rfl | rfl | rfl | rfl | rfl
    · exact law_0 hI hC hv
    · exact law_1 hI hC hv
    · exact law_2 hI hC hv
    · exact law_3 hI hC hv
    · exact law_4 hI hC hv
    · exact law_5 hI hC hv
    · exact law_6 hI hC hv
    · exact law_7 hI hC hv
    · exact law_8 hI hC hv
    · exact law_9 hI hC hv
    · exact law_10 hI hC hv
    · exact law_11 hI hC hv
    · exact law_12 hI hC hv
    · exact law_13 hI hC hv
    · exact law_14 hI hC hv
    · exact law_15 hI hC hv
    · exact law_16 hI hC hv
    · exact law_17 hI hC hv
    · exact law_18 hI hC hv
    · exact law_19 hI hC hv
    · exact law_20 hI hC hv
    · exact law_21 hI hC hv
    · exact law_22 hI hC hv
    · exact law_23 hI hC hv
    · exact law_24 hI hC hv
    · exact law_25 hI hC hv
theorem law_loop {m : me} (hI : Inv m) (hL : L ≤ 2048) : ∃ s1, lo (b_L_law_23 L xs) 2048 (0, m) = some (.inl s1) := by
  obtain ⟨t, ht, s1, hs⟩ := lo_rel (b := b_L_law_23 L xs) (s0 := (nI 0, m)) (N := 2048) (n := L / 4)
    (P := fun k s => ∃ m', s = (nI (4 * k), m') ∧ Inv m')
    (Q := fun t => ∃ s1, t = .inl s1)
    ⟨m, rfl, hI⟩ (fun k s hk hP => by
      obtain ⟨m', rfl, h1⟩ := hP
      obtain ⟨m2, e1, e2⟩ := law_step (xs := xs) (L := L) (t := k) h1 (by omega) hL
      refine ⟨_, e1, m2, ?_, e2⟩
      rw [L4, nI_add, show 4 * k + 4 = 4 * (k + 1) by omega]) (fun s hP => by
      obtain ⟨m', rfl, h1⟩ := hP
      refine ⟨.inl (nI (4 * (L / 4)), m'), ?_, _, rfl⟩
      have hlt : Int32.ofNat L - 4 < nI (4 * (L / 4)) := by
        show nI L - nI 4 < nI (4 * (L / 4))
        by_cases h4 : 4 ≤ L
        · rw [nI_sbs h4, nI_lts (by omega) (by omega)]
          omega
        · have hneg := pk_sneg (a := L) (b := 4) (by decide) (by omega)
          have h0 : (0 : Int32) ≤ nI (4 * (L / 4)) := nI_pos' (show 4 * (L / 4) < 2 ^ 31 by omega)
          rw [Int32.lt_iff_toInt_lt] at hneg ⊢
          rw [Int32.le_iff_toInt_le] at h0
          omega
      unfold b_L_law_23
      dsimp only
      rw [if_pos hlt]) (by omega)
  refine ⟨s1, ?_⟩
  rw [← hs, ← ht]
  rfl
end PLW
