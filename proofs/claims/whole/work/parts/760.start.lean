/-! The start. -/
section PST
variable {S S' : Nat → Int32} {B : Nat}
theorem sBg_cg (h2 : S 2 = S' 2) (h3 : S 3 = S' 3) (h4 : S 4 = S' 4) : ∀ i, i < 487 → sBg B S i = sBg B S' i := by
  intro i hi
  unfold sBg
  rw [sTn_at, sTn_at, sH_at, sH_at, sG_at 8 (by decide), sG_at 8 (by decide)]
  have e : upd (zr 487 S) 0 (nI B) i = upd (zr 487 S') 0 (nI B) i := by
    by_cases h0 : i = 0
    · rw [h0, upd_e, upd_e]
    · rw [upd_n h0, upd_n h0]
      unfold zr
      by_cases hz : i < 487 ∧ ¬ (2 ≤ i ∧ i ≤ 4)
      · rw [if_pos hz, if_pos hz]
      · rw [if_neg hz, if_neg hz]
        have : i = 2 ∨ i = 3 ∨ i = 4 := by omega
        rcases this with rfl | rfl | rfl
        · exact h2
        · exact h3
        · exact h4
  rw [e]
theorem mA_RN : RN mA 1 (rP mA) := by
  refine ⟨fun i hi hr => rfl, fun t l ht hl hT => rfl, fun l hl => rfl⟩
theorem pure_ok : pureOK := by
  obtain ⟨m1, a1, a2, a3⟩ := y_beginAnew (B := 4) mA_RN (by decide) (by decide)
  have e129 : (mM m1).1 129 = upd (upd (upd (m1.1 129) 2 3) 3 10) 4 5 := by
    unfold mM
    rw [wI_sR, sR_get, wI_sR, sR_get, wI_sR, sR_get]
  have eq : ∀ q, q ≠ 129 → (mM m1).1 q = m1.1 q := fun q hq => by
    unfold mM
    rw [wI_sR, sR_ne hq, wI_sR, sR_ne hq, wI_sR, sR_ne hq]
  have b1 := x_begins (M := mM m1) (B := 4) (by decide) (by decide)
  have k2 : (mM m1).1 129 2 = 3 := by rw [e129, upd_n (by decide), upd_n (by decide), upd_e]
  have k3 : (mM m1).1 129 3 = 10 := by rw [e129, upd_n (by decide), upd_e]
  have k4 : (mM m1).1 129 4 = 5 := by rw [e129, upd_e]
  have o : ∀ q, 28 ≤ q → m1.1 q = mA.1 q := fun q hq => a3.1 q (by omega)
  have hI : Inv (sR (mM m1) 129 (sBg 4 ((mM m1).1 129))) := by
    refine ⟨?_, ?_, ⟨0, ?_, ?_⟩, 0, by decide, ?_, ?_, fun i hi => absurd hi (Nat.not_lt_zero i)⟩
    · rw [sR_get]
      exact ⟨4, 0, WT.begin (by decide) (by decide) ⟨3, k2, by decide, by decide⟩ ⟨10, k3, by decide, by decide⟩ ⟨5, k4, by decide⟩⟩
    · rw [sR_get]
      have h1 : RN (sR (mM m1) 129 (sBg 4 ((mM m1).1 129))) 1 (sBg 4 (rP mA)) := a2.cg (fun r hr => by rw [sR_ne (by omega), eq _ (by omega)])
      exact h1.eqv (sBg_cg (k2.trans rfl) (k3.trans rfl) (k4.trans rfl))
    · rw [sR_ne (by decide), eq 128 (by decide), o 128 (by decide)]; rfl
    · refine ⟨by decide, ?_, 30, 57, 84, Or.inl ⟨rfl, rfl, rfl⟩, ?_, ?_, ?_, fun h => absurd h (by decide), fun h => absurd h (by decide), fun h => absurd h (by decide)⟩
      · rw [sR_ne (by decide), eq 28 (by decide), o 28 (by decide)]; rfl
      · show m1.2.2 29 0 = _
        rw [a3.2]; rfl
      · show m1.2.2 29 1 = _
        rw [a3.2]; rfl
      · show m1.2.2 29 2 = _
        rw [a3.2]; rfl
    · rw [sR_ne (by decide), eq 111 (by decide), o 111 (by decide)]; rfl
    · rw [sR_ne (by decide), eq 128 (by decide), o 128 (by decide)]; rfl
  refine ⟨m1, sR (mM m1) 129 (sBg 4 ((mM m1).1 129)), a1, fun q hq => ⟨o q hq, by rw [a3.2], by rw [a3.2]⟩, b1, ?_, fun L xs hL => law_loop hI hL⟩
  show m1.2.1 137 = _
  rw [a3.2]
  rfl
end PST
