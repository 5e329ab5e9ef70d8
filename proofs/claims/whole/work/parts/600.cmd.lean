/-! Commands: a call that changes the state, on both sides. -/
def wx (i : Nat) : Prop := i = 0 ∨ (2 ≤ i ∧ i ≤ 5) ∨ (51 ≤ i ∧ i < 179 ∧ i % 2 = 1) ∨ (179 ≤ i ∧ i < 187) ∨ (199 ≤ i ∧ i < 487)
theorem WT.cg {B T : Nat} {S S' : Nat → Int32} (h : WT B T S) (he : ∀ i, wx i → S' i = S i) : WT B T S' := by
  unfold wx at he
  obtain ⟨h1, h2, h3, h4, h5, h6, h7, h8, h9, h10, h11⟩ := h
  refine ⟨by rw [he _ (by omega)]; exact h1, h2, h3, by rw [he _ (by omega)]; exact h4, h5, by rw [he _ (by omega)]; exact h6, by rw [he _ (by omega)]; exact h7, by rw [he _ (by omega)]; exact h8, fun h hh => by rw [he _ (by omega)]; exact h9 h hh, fun l hl => ?_, fun b h hb hh => ?_⟩
  · obtain ⟨a, b, g⟩ := h10 l hl
    refine ⟨a, b, ?_⟩
    rw [he _ (by omega), he _ (by omega), he _ (by omega), he _ (by omega), he _ (by omega), he _ (by omega), he _ (by omega), he _ (by omega), he _ (by omega), he _ (by omega)]
    obtain ⟨g1, g2, g3, g4, g5, g6, g7, g8, g9, g10, g11, g12, g13⟩ := g
    exact ⟨g1, g2, g3, g4, g5, g6, g7, g8, g9, g10, g11, g12, fun t ht => by rw [he _ (by omega)]; exact g13 t ht⟩
  · have g := h11 b h hb hh
    unfold VI at g ⊢
    rw [he _ (by omega)]
    rcases g with g | g | ⟨l, hl, g1, g2⟩
    · exact Or.inl g
    · exact Or.inr (Or.inl g)
    · refine Or.inr (Or.inr ⟨l, hl, g1, ?_⟩)
      rw [he _ (by omega), he _ (by omega)]
      exact g2
/-- the model behind a command: its row, its answer, its scratch row -/
def MC (S' : Nat → Int32) (M M1 : me) : Prop := M1.1 129 = S' ∧ (∀ q, q ≠ 129 → q ≠ 128 → q ≠ 133 → M1.1 q = M.1 q) ∧ (∀ j, j ≠ 7 → M1.1 128 j = M.1 128 j) ∧ M1.2 = M.2
def CMD (cf cc cm : me → Option (Int32 × me)) (ce : Nat → Nat) (S : Nat → Int32) : Prop :=
  (∃ S' v, WF S' ∧ (∀ m, RN m 1 S → cf m = some (nI 0, m)) ∧ (∀ m, RN m 1 S → ∃ m1, cc m = some (v, m1) ∧ Cl m m1 S') ∧ (∀ M, M.1 129 = S → ∃ M1, cm M = some (nI 0, M1) ∧ M1.1 128 7 = v ∧ MC S' M M1)) ∨
  (∃ c, 1 ≤ c ∧ c ≤ 3 ∧ (∀ m, RN m 1 S → cf m = some (nI c, m)) ∧ ∀ M, M.1 129 = S → cm M = some (nI (ce c), M))
/-- the class's memory behind a call, against the one behind saving -/
def fr2 (a b : me) : Prop := (∀ q, 28 ≤ q → q < 111 → b.1 q = a.1 q) ∧ b.1 111 0 = a.1 111 0 ∧ b.1 113 = a.1 113 ∧ (∀ q, 128 ≤ q → b.1 q = a.1 q) ∧ b.2 = a.2
/-- the model's memory before 'ends', against the one at the call -/
def MH (S S' : Nat → Int32) (M Mc : me) : Prop := Mc.1 129 = S' ∧ Mc.1 131 = mx 487 S (M.1 131) ∧ Mc.1 128 3 = M.1 128 3 ∧ Mc.1 128 5 = M.1 128 5 ∧ (∀ q, q < 128 ∨ q = 130 ∨ q = 132 → Mc.1 q = M.1 q) ∧ Mc.2 = M.2
section PCM
variable {m : me} {S S' : Nat → Int32} {v : Int32}
theorem fc.fr2 {a b : me} (h : fc a b) : fr2 a b := ⟨fun q h1 h2 => h.1 q (by omega) (by omega), by rw [h.1 111 (by omega) (by omega)], h.1 113 (by omega) (by omega), fun q h1 => h.1 q (by omega) (by omega), h.2⟩
theorem ppt_cg {P A A' : Nat → Int32} {k : Nat} (h : ∀ j, j < 487 → A j = A' j) : ppt P k A = ppt P k A' := by
  funext j
  unfold ppt
  by_cases hj : 487 * k ≤ j ∧ j < 487 * k + 487
  · rw [if_pos hj, if_pos hj]; exact h _ (by omega)
  · rw [if_neg hj, if_neg hj]
/-- a call that went through, on both sides -/
theorem mut_core (h : Inv m) (hW' : WF S') : ∃ ms, f_X9_save m = some ms ∧ RN ms 1 (m.1 129) ∧ (∀ q, ¬ (28 ≤ q ∧ q < 111) → ms.1 q = m.1 q) ∧ ∀ m1 M Mc, RN m1 1 S' → fr2 ms m1 → M.1 = m1.1 → M.2.2 = m1.2.2 → MH (m.1 129) S' M Mc → ∃ M2, f_X12_ends v Mc = some (v, M2) ∧ M2.1 128 6 = nI 0 ∧ M2.2.1 = M.2.1 ∧ Inv M2 := by
  obtain ⟨hWF, hR, ⟨k, hk, hU⟩, n, b1, b2, b3, b4⟩ := id h
  obtain ⟨ms, e1, e2, e3, e4, e5⟩ := y_save hU hR hWF
  refine ⟨ms, e1, hR.cg (fun r hr => e3 _ (by omega)), e3, fun m1 M Mc r1 f1 hM hM2 hc => ?_⟩
  obtain ⟨f2, f3, f4, f5, f6⟩ := f1
  obtain ⟨c1, c2, c3, c4, c5, c6⟩ := hc
  have q128 : M.1 128 = m.1 128 := by rw [hM, f5 128 (by omega), e3 128 (by omega)]
  have q130 : M.1 130 = m.1 130 := by rw [hM, f5 130 (by omega), e3 130 (by omega)]
  have q132 : M.1 132 = m.1 132 := by rw [hM, f5 132 (by omega), e3 132 (by omega)]
  have hk3 := hU.1
  refine ⟨_, x_ends (m := Mc) (k := k) (by rw [c3, q128]; exact hk) hk3, by rw [sR_get, upd_e], by show Mc.2.1 = M.2.1; rw [c6], ?_⟩
  have eP : ppt (if k = 3 then psh (Mc.1 130) else Mc.1 130) (if k = 3 then 2 else k) (Mc.1 131) = ppt (if k = 3 then psh (m.1 130) else m.1 130) (if k = 3 then 2 else k) (m.1 129) := by
    rw [c5 130 (by omega), q130, c2]
    exact ppt_cg (fun j hj => mx_lt hj)
  rw [eP]
  refine ⟨?_, ?_, ⟨if k = 3 then 3 else k + 1, ?_, ?_⟩, n, b1, ?_, ?_, fun i hi => ?_⟩
  · rw [sR_ne (by decide), sR_ne (by decide), c1]; exact hW'
  · rw [sR_ne (by decide), sR_ne (by decide), c1]
    exact r1.cg (fun r hr => by rw [sR_ne (by omega), sR_ne (by omega), c5 _ (by omega), hM])
  · rw [sR_get, upd_n (by decide), upd_e]
  · rw [sR_ne (by decide), sR_get]
    refine e2.cg (fun q h1 h2 => ?_) ?_
    · rw [sR_ne (by omega), sR_ne (by omega), c5 _ (by omega), hM, f2 q h1 h2]
    · show Mc.2.2 = ms.2.2
      rw [c6, hM2, f6]
  · rw [sR_ne (by decide), sR_ne (by decide), c5 111 (by omega), hM, f3, e3 111 (by omega)]; exact b2
  · rw [sR_get, upd_n (by decide), upd_n (by decide), c4, q128]; exact b3
  · rw [sR_ne (by decide), sR_ne (by decide), sR_ne (by decide), sR_ne (by decide), c5 113 (by omega), hM, f4, e3 113 (by omega), c5 132 (by omega), q132]
    exact b4 i hi
theorem op_mut {fx : me → Option ((Int32 ⊕ Nat) × me)} {fm : me → Option (Int32 × me)} {code : Nat → Option Int32} (h : Inv m) (hW' : WF S')
    (hc : ∀ ms, f_X9_save m = some ms → RN ms 1 (m.1 129) → ∃ m1, fx m = some (.inl v, m1) ∧ Cl ms m1 S')
    (hm : ∀ M, M.1 129 = m.1 129 → ∃ Mc, MH (m.1 129) S' M Mc ∧ fm M = bd (f_X12_ends v Mc) (fun r => some (r.1, r.2))) : OPv fx fm code m := by
  obtain ⟨ms, e1, e2, e3, e4⟩ := mut_core (v := v) h hW'
  obtain ⟨m1, g1, g2⟩ := hc ms e1 e2
  have f := g2.2.fr2
  obtain ⟨Mc, k1, k2⟩ := hm (wJ m1 137 0 v.toInt64) (by rw [wJ_1, f.2.2.2.1 129 (by omega), e3 129 (by omega)])
  obtain ⟨M2, t1, t2, t3, t4⟩ := e4 m1 (wJ m1 137 0 v.toInt64) Mc g2.1 f rfl rfl k1
  refine Or.inl ⟨v, m1, M2, g1, ?_, t2, ?_, t4⟩
  · rw [k2, t1]; rfl
  · rw [t3]; exact wJ_get
theorem MC.hold {M M1 : me} (h : MC S' (sR M 131 (mx 487 S (M.1 131))) M1) : MH S S' M M1 := by
  obtain ⟨h1, h2, h3, h4⟩ := h
  refine ⟨h1, by rw [h2 131 (by decide) (by decide) (by decide), sR_get], by rw [h3 3 (by decide), sR_ne (by decide)], by rw [h3 5 (by decide), sR_ne (by decide)], fun q hq => by rw [h2 q (by omega) (by omega) (by omega), sR_ne (by omega)], h4⟩
theorem op_cmd {cf cc cm : me → Option (Int32 × me)} {ce : Nat → Nat} {code : Nat → Option Int32} (h : Inv m) (hC : CMD cf cc cm ce (m.1 129)) (hcd : ∀ c, 1 ≤ c → c ≤ 3 → (∀ m', RN m' 1 (m.1 129) → cf m' = some (nI c, m')) → code (c - 1) = some (nI (ce c)) ∧ 0 < ce c ∧ ce c ≤ 3) :
    OPv (fun m => bd (cf m) (fun r1 => bd (f_X11_throwFor r1.1 r1.2) (fun r2 => tr r2.1 (fun _ => bd (f_X9_save r2.2) (fun r5 => bd (cc r5) (fun r6 => some ((.inl r6.1, r6.2))))) (fun e4 => some ((.inr e4, r2.2)))))) (fun m => bd (f_X12_hold m) (fun r1 => bd (cm r1) (fun r2 => bd (f_X12_done r2.1 r2.2) (fun r3 => some ((r3.1, r3.2)))))) code m := by
  have hR := h.2.1
  rcases hC with ⟨S', v, hW', h1, h2, h3⟩ | ⟨c, c1, c2, h1, h2⟩
  · refine op_mut (v := v) h hW' (fun ms e1 e2 => ?_) (fun M hM => ?_)
    · obtain ⟨m1, g1, g2⟩ := h2 ms e2
      refine ⟨m1, ?_, g2⟩
      simp only [h1 m hR, bd_s, y_throw0, trl, e1, g1]
    · obtain ⟨M1, g1, g2, g3⟩ := h3 (sR M 131 (mx 487 (M.1 129) (M.1 131))) (by rw [sR_ne (by decide)]; exact hM)
      rw [hM] at g1 g3
      refine ⟨M1, g3.hold, ?_⟩
      simp only [x_hold, bd_s, hM, g1]
      unfold f_X12_done
      rw [L0, ifp (Int32.le_refl _), g2]
      cases f_X12_ends v M1 <;> rfl
  · obtain ⟨k1, k2, k3⟩ := hcd c c1 c2 h1
    have hfx : (bd (cf m) (fun r1 => bd (f_X11_throwFor r1.1 r1.2) (fun r2 => tr r2.1 (fun _ => bd (f_X9_save r2.2) (fun r5 => bd (cc r5) (fun r6 => some ((.inl r6.1, r6.2))))) (fun e4 => some ((.inr e4, r2.2))))) : Option ((Int32 ⊕ Nat) × me)) = some (.inr (c - 1), m) := by
      rw [h1 m hR, bd_s]
      have : c = 1 ∨ c = 2 ∨ c = 3 := by omega
      rcases this with rfl | rfl | rfl <;> rfl
    refine op_thh (f := mx 487 (m.1 129) (m.1 131)) (b := nI 0) h hfx k1 (by rw [Ne, nI_eqs (by omega) (by decide)]; omega) ?_
    have := h2 (sR m 131 (mx 487 (m.1 129) (m.1 131))) (by rw [sR_ne (by decide)])
    simp only [x_hold, bd_s, this]
    unfold f_X12_done
    rw [L0, ifn (by rw [nI_les (by omega) (by decide)]; omega), x_fails, sR_ne (by decide)]
    rfl
end PCM
