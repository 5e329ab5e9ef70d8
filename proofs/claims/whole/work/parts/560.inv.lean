/-! The invariant; ranges; what is owed of each call. -/
def SC (m : me) : Prop := ∃ n, n ≤ 120 ∧ m.1 111 0 = nI n ∧ m.1 128 5 = nI n ∧ ∀ i, i < n → m.1 113 i = m.1 132 i ∧ ∃ d, d ≤ 127 ∧ m.1 132 i = nI d
def Inv (m : me) : Prop := WF (m.1 129) ∧ RN m 1 (m.1 129) ∧ (∃ k, m.1 128 3 = nI k ∧ UN m (m.1 130) k) ∧ SC m
def OPv (fx : me → Option ((Int32 ⊕ Nat) × me)) (fm : me → Option (Int32 × me)) (code : Nat → Option Int32) (m : me) : Prop :=
  (∃ v m1 m2, fx m = some (.inl v, m1) ∧ fm (wJ m1 137 0 v.toInt64) = some (v, m2) ∧ m2.1 128 6 = nI 0 ∧ m2.2.1 137 0 = v.toInt64 ∧ Inv m2) ∨
  (∃ e c m1 b m2, fx m = some (.inr e, m1) ∧ code e = some c ∧ c ≠ nI 0 ∧ fm m1 = some (b, m2) ∧ m2.1 128 6 = c ∧ Inv m2)
def cdA (e : Nat) : Option Int32 := if e = 1 then some 1 else none
def cdIA (e : Nat) : Option Int32 := if e = 0 then some 1 else if e = 1 then some 2 else none
def cdIAS (e : Nat) : Option Int32 := if e = 0 then some 1 else if e = 1 then some 2 else if e = 2 then some 3 else none
def cdIS (e : Nat) : Option Int32 := if e = 0 then some 1 else if e = 2 then some 2 else none
def cdI (e : Nat) : Option Int32 := if e = 0 then some 1 else none
def cdAS (e : Nat) : Option Int32 := if e = 1 then some 1 else if e = 2 then some 2 else none
def cdS (e : Nat) : Option Int32 := if e = 2 then some 1 else none
section PI
variable {m m' : me} {S : Nat → Int32} {v : Int32}
theorem Inv.cg (h : Inv m) (h1 : ∀ q, q < 112 → m'.1 q = m.1 q) (h2 : m'.1 113 = m.1 113) (h3 : m'.1 129 = m.1 129) (h4 : m'.1 130 = m.1 130) (h5 : m'.1 132 = m.1 132) (h6 : m'.1 128 3 = m.1 128 3) (h7 : m'.1 128 5 = m.1 128 5) (h8 : m'.2.2 = m.2.2) : Inv m' := by
  obtain ⟨a1, a2, ⟨k, a3, a4⟩, n, b1, b2, b3, b4⟩ := h
  refine ⟨by rw [h3]; exact a1, by rw [h3]; exact a2.cg (fun r hr => h1 _ (by omega)), ⟨k, by rw [h6]; exact a3, ?_⟩, n, b1, by rw [h1 111 (by omega)]; exact b2, by rw [h7]; exact b3, fun i hi => by rw [h2, h5]; exact b4 i hi⟩
  obtain ⟨c1, c2, a, b, c, hr, r1, r2, r3, s1, s2, s3⟩ := a4
  have hro := hr.of
  rw [h4]
  exact ⟨c1, by rw [h1 28 (by omega)]; exact c2, a, b, c, hr, by rw [h8]; exact r1, by rw [h8]; exact r2, by rw [h8]; exact r3, fun h => (s1 h).cg hro.1 (fun q _ hq => h1 q (by omega)), fun h => (s2 h).cg hro.2.1 (fun q _ hq => h1 q (by omega)), fun h => (s3 h).cg hro.2.2.1 (fun q _ hq => h1 q (by omega))⟩
/-- the memory behind a call that only tells -/
theorem Inv.tell (h : Inv m) {x : Int64} : Inv (sR (wJ m 137 0 x) 128 (upd (m.1 128) 6 v)) := by
  refine h.cg (fun q hq => ?_) ?_ ?_ ?_ ?_ ?_ ?_ rfl
  · rw [sR_ne (by omega)]; rfl
  · rw [sR_ne (by omega)]; rfl
  · rw [sR_ne (by omega)]; rfl
  · rw [sR_ne (by omega)]; rfl
  · rw [sR_ne (by omega)]; rfl
  · rw [sR_get, upd_n (by decide)]
  · rw [sR_get, upd_n (by decide)]
theorem Inv.thr (h : Inv m) : Inv (sR m 128 (upd (m.1 128) 6 v)) := by
  refine h.cg (fun q hq => ?_) ?_ ?_ ?_ ?_ ?_ ?_ rfl
  · rw [sR_ne (by omega)]
  · rw [sR_ne (by omega)]
  · rw [sR_ne (by omega)]
  · rw [sR_ne (by omega)]
  · rw [sR_ne (by omega)]
  · rw [sR_get, upd_n (by decide)]
  · rw [sR_get, upd_n (by decide)]
theorem Inv.hold (h : Inv m) {f : Nat → Int32} : Inv (sR m 131 f) := by
  refine h.cg (fun q hq => ?_) ?_ ?_ ?_ ?_ ?_ ?_ rfl
  all_goals rw [sR_ne (by omega)]
theorem wJ_1 {m : me} {o j : Nat} {x : Int64} : (wJ m o j x).1 = m.1 := rfl
theorem wJ_get {m : me} {o j : Nat} {x : Int64} : (wJ m o j x).2.1 o j = x := by
  show w2 m.2.1 o _ o j = x
  rw [w2_self]
  unfold vp_updL
  rw [if_pos rfl]
theorem op_ro {fx : me → Option ((Int32 ⊕ Nat) × me)} {fm : me → Option (Int32 × me)} {code : Nat → Option Int32} (h : Inv m) (h1 : fx m = some (.inl v, m)) (h2 : ∀ x, fm (wJ m 137 0 x) = some (v, sR (wJ m 137 0 x) 128 (upd (m.1 128) 6 (nI 0)))) : OPv fx fm code m :=
  Or.inl ⟨v, m, _, h1, h2 _, by rw [sR_get, upd_e], wJ_get, h.tell⟩
theorem op_th {fx : me → Option ((Int32 ⊕ Nat) × me)} {fm : me → Option (Int32 × me)} {code : Nat → Option Int32} {e : Nat} {c b : Int32} (h : Inv m) (h1 : fx m = some (.inr e, m)) (hc : code e = some c) (hn : c ≠ nI 0) (h2 : fm m = some (b, sR m 128 (upd (m.1 128) 6 c))) : OPv fx fm code m :=
  Or.inr ⟨e, c, m, b, _, h1, hc, hn, h2, by rw [sR_get, upd_e], h.thr⟩
/-- a call that held the state before it was refused -/
theorem op_thh {fx : me → Option ((Int32 ⊕ Nat) × me)} {fm : me → Option (Int32 × me)} {code : Nat → Option Int32} {e : Nat} {c b : Int32} {f : Nat → Int32} (h : Inv m) (h1 : fx m = some (.inr e, m)) (hc : code e = some c) (hn : c ≠ nI 0) (h2 : fm m = some (b, sR (sR m 131 f) 128 (upd (m.1 128) 6 c))) : OPv fx fm code m :=
  Or.inr ⟨e, c, m, b, _, h1, hc, hn, h2, by rw [sR_get, upd_e], by have := (h.hold (f := f)).thr (v := c); rw [sR_ne (by decide)] at this; exact this⟩
theorem rng (v : Int32) (a b : Nat) (hab : a ≤ b) (hb : b < 2147483648) : (∃ k, a ≤ k ∧ k ≤ b ∧ v = nI k) ∨ (v < nI a ∨ nI b < v) := by
  by_cases h1 : v < nI a
  · exact Or.inr (Or.inl h1)
  · by_cases h2 : nI b < v
    · exact Or.inr (Or.inr h2)
    · refine Or.inl ?_
      have ha : a < 2147483648 := by omega
      obtain ⟨j, hj, rfl⟩ := nI_of (x := v) (fun h => h1 (by
        rw [Int32.lt_iff_toInt_lt] at h ⊢
        rw [nI_toInt ha]
        change v.toInt < 0 at h
        omega))
      rw [nI_lts hj ha] at h1
      rw [nI_lts hb hj] at h2
      exact ⟨j, by omega, by omega, rfl⟩
/-- of a number of which there are T -/
theorem rngT (v : Int32) (T : Nat) (hT : T < 2147483648) : (∃ k, k < T ∧ v = nI k) ∨ (v < nI 0 ∨ nI T ≤ v) := by
  by_cases h1 : v < nI 0
  · exact Or.inr (Or.inl h1)
  · by_cases h2 : nI T ≤ v
    · exact Or.inr (Or.inr h2)
    · refine Or.inl ?_
      obtain ⟨j, hj, rfl⟩ := nI_of (x := v) h1
      rw [nI_les hT hj] at h2
      exact ⟨j, by omega, rfl⟩
theorem sub1_lt {T : Nat} (hT : T < 2147483648) (h : nI T ≤ v) : nI T - nI 1 < v := by
  cases T with
  | zero =>
    rw [Int32.le_iff_toInt_le] at h
    rw [Int32.lt_iff_toInt_lt]
    change (0 : Int) ≤ _ at h
    change (-1 : Int) < _
    omega
  | succ t =>
    rw [nI_sbs (by omega)]
    rw [Int32.le_iff_toInt_le, nI_toInt hT] at h
    rw [Int32.lt_iff_toInt_lt, nI_toInt (show t + 1 - 1 < 2147483648 by omega)]
    omega
theorem y_out_n {k a b : Nat} (h1 : a ≤ k) (h2 : k ≤ b) (hb : b < 2147483648) : f_X11_isOutside (nI k) (nI a) (nI b) m = some (nI 0, m) := by
  unfold f_X11_isOutside
  rw [if_neg (nI_nlt h1 (show k < 2 ^ 31 by omega)), if_pos (nI_le h2 hb)]
  rfl
theorem y_out_y {a b : Int32} (h : v < a ∨ b < v) : f_X11_isOutside v a b m = some (nI 1, m) := by
  unfold f_X11_isOutside
  by_cases h1 : v < a
  · rw [if_pos h1]; rfl
  · rw [if_neg h1, if_neg (Int32.not_le.mpr (h.resolve_left h1))]; rfl
theorem y_has_y {l T : Nat} (hl : l < T) (hT : T ≤ 16) (h : m.1 11 0 = nI T) : f_X3_has (nI l) m = some (nI 1, m) := by
  unfold f_X3_has
  have h1 : ¬ nI l < nI 0 := nI_pos (show l < 2 ^ 31 by omega)
  have h2 : ¬ nI T ≤ nI l := nI_ge hl (show T < 2 ^ 31 by omega)
  rw [L0, if_neg h1, h, if_neg h2]
  rfl
theorem y_has_n {T : Nat} (hv : v < nI 0 ∨ nI T ≤ v) (h : m.1 11 0 = nI T) : f_X3_has v m = some (nI 0, m) := by
  unfold f_X3_has
  by_cases h1 : v < nI 0
  · rw [L0, if_pos h1]
  · rw [L0, if_neg h1, h, if_pos (hv.resolve_left h1)]
theorem isB1 : isB (nI 1) = true := by decide
theorem isB0 : isB (nI 0) = true := by decide
theorem x_inn {k a b : Nat} (h1 : a ≤ k) (h2 : k ≤ b) (hb : b < 2147483648) : f_X12_in (nI k) (nI a) (nI b) m = some (nI 1, m) := x_in_y (nI_nlt h1 (show k < 2 ^ 31 by omega)) (nI_nlt h2 hb)
theorem x_isBridge_y {b B : Nat} (hb : b < B) (hB : B ≤ 8) (h : m.1 129 0 = nI B) : f_X12_isBridge (nI b) m = some (nI 1, m) := by
  unfold f_X12_isBridge
  rw [h, L1, L0, nI_sbs (by omega), x_inn (by omega) (by omega) (by omega), bd_s]
  rfl
theorem x_isBridge_n {B : Nat} (hB : 2 ≤ B) (hv : v < nI 0 ∨ nI (B - 1) < v) (h : m.1 129 0 = nI B) : f_X12_isBridge v m = some (nI 0, m) := by
  unfold f_X12_isBridge
  rw [h, L1, L0, nI_sbs (by omega), x_in_n hv, bd_s]
  rfl
theorem x_isLink_y {l T : Nat} (hl : l < T) (hT : T ≤ 16) (h : m.1 129 5 = nI T) : f_X12_isLink (nI l) m = some (nI 1, m) := by
  unfold f_X12_isLink
  rw [h, L1, L0, nI_sbs (by omega), x_inn (by omega) (by omega) (by omega), bd_s]
  rfl
theorem x_isLink_n {T : Nat} (hT : T ≤ 16) (hv : v < nI 0 ∨ nI T ≤ v) (h : m.1 129 5 = nI T) : f_X12_isLink v m = some (nI 0, m) := by
  unfold f_X12_isLink
  have hv' : v < nI 0 ∨ nI T - nI 1 < v := hv.imp id (fun h => sub1_lt (by omega) h)
  rw [h, L1, L0, x_in_n hv', bd_s]
  rfl
theorem x_isHost_y {h : Nat} (hh : h ≤ 7) : f_X12_isHost (nI h) m = some (nI 1, m) := by
  unfold f_X12_isHost
  rw [L0, L7, x_inn (by omega) hh (by omega), bd_s]
  rfl
theorem x_isHost_n (hv : v < nI 0 ∨ nI 7 < v) : f_X12_isHost v m = some (nI 0, m) := by
  unfold f_X12_isHost
  rw [L0, L7, x_in_n hv, bd_s]
  rfl
theorem x_isTenant_y {h : Nat} (hh : h ≤ 3) : f_X12_isTenant (nI h) m = some (nI 1, m) := by
  unfold f_X12_isTenant
  rw [L0, L3, x_inn (by omega) hh (by omega), bd_s]
  rfl
theorem x_isTenant_n (hv : v < nI 0 ∨ nI 3 < v) : f_X12_isTenant v m = some (nI 0, m) := by
  unfold f_X12_isTenant
  rw [L0, L3, x_in_n hv, bd_s]
  rfl
theorem i10 : (nI 1 = nI 0) = False := by decide
theorem i00 : (nI 0 = nI 0) = True := by decide
end PI
