/-! Scripts are run. -/
def cfW (w : Nat) (a b c : Int32) : me → Option (Int32 × me) := if w = 0 then f_X4_faultOfNewLink a b c else if w = 1 then f_X4_faultOfBid a b c else if w = 2 then f_X4_faultOfSwitch a 1 else if w = 3 then f_X4_faultOfSwitch a 0 else if w = 4 then f_X4_faultOfPriority a b else if w = 5 then f_X4_faultOfMove a b else f_X11_faultOfTicks a
def ccW (w : Nat) (a b c : Int32) : me → Option (Int32 × me) := if w = 0 then f_X3_append a b c else if w = 1 then f_X8_changeBid a b c else if w = 2 then f_X4_takeDown a else if w = 3 then f_X3_bringUp a else if w = 4 then f_X1_changePriority a b else if w = 5 then f_X1_placeHost a b else (fun m => bd (f_X11_passTicks a m) (fun m1 => some (m1.1 1 1, m1)))
def cmW (w : Nat) (a b c : Int32) : me → Option (Int32 × me) := if w = 0 then f_X12_joins a b c else if w = 1 then f_X12_bids a b c else if w = 2 then f_X12_breaks a else if w = 3 then f_X12_mends a else if w = 4 then f_X12_prioritizes a b else if w = 5 then f_X12_moves a b else f_X12_ticks a
def ceW (w : Nat) : Nat → Nat := if w = 0 then id else if w = 1 then id else if w = 2 then ceS else if w = 3 then ceS else if w = 4 then id else if w = 5 then id else fun _ => 1
def gr2 (a b : me) : Prop := (∀ q, q < 128 ∨ q = 130 ∨ q = 131 ∨ q = 132 → b.1 q = a.1 q) ∧ b.1 128 3 = a.1 128 3 ∧ b.1 128 5 = a.1 128 5 ∧ b.2 = a.2
section PRU
variable {n p w : Nat} {d : Nat → Nat} {S S' : Nat → Int32} {m m1 m2 M M1 M2 : me} {a b c v : Int32}
theorem w6 (h : w ≤ 6) : w = 0 ∨ w = 1 ∨ w = 2 ∨ w = 3 ∨ w = 4 ∨ w = 5 ∨ w = 6 := by omega
theorem cmdW (hF : WF S) (hw : w ≤ 6) : CMD (cfW w a b c) (ccW w a b c) (cmW w a b c) (ceW w) S := by
  rcases w6 hw with rfl | rfl | rfl | rfl | rfl | rfl | rfl
  · exact cmd_join hF a b c
  · exact cmd_bid hF a b c
  · exact cmd_fail hF a
  · exact cmd_fix hF a
  · exact cmd_prio hF a b
  · exact cmd_move hF a b
  · exact cmd_tick hF a
theorem ceW_1 (hw : w ≤ 6) {k : Nat} (h1 : 1 ≤ k) (h3 : k ≤ 3) : 1 ≤ ceW w k ∧ ceW w k ≤ 3 := by
  have : k = 1 ∨ k = 2 ∨ k = 3 := by omega
  rcases w6 hw with rfl | rfl | rfl | rfl | rfl | rfl | rfl <;> rcases this with rfl | rfl | rfl <;> decide
theorem y_out0 {k : Nat} (hw : w ≤ 6) (h1 : 1 ≤ k) (h3 : k ≤ 3) (e1 : m.1 111 1 = nI w) (ea : m.1 112 0 = a) (eb : m.1 112 1 = b) (ec : m.1 112 2 = c) (hf : cfW w a b c m = some (nI k, m)) : f_X11_carryOut m = some (nI 0, m) := by
  have hk : ¬ nI k = nI 0 := nI_neq (by omega) (by omega) (by omega)
  have hfc : f_X11_faultOfCommand a b c m = some (nI k, m) := by
    unfold f_X11_faultOfCommand
    rcases w6 hw with rfl | rfl | rfl | rfl | rfl | rfl | rfl
    · rw [e1, ifp (by decide), show f_X4_faultOfNewLink a b c m = _ from hf]; rfl
    · rw [e1, ifn (by decide), ifp (by decide), show f_X4_faultOfBid a b c m = _ from hf]; rfl
    · rw [e1, ifn (by decide), ifn (by decide), ifp (by decide), show f_X4_faultOfSwitch a 1 m = _ from hf]; rfl
    · rw [e1, ifn (by decide), ifn (by decide), ifn (by decide), ifp (by decide), show f_X4_faultOfSwitch a 0 m = _ from hf]; rfl
    · rw [e1, ifn (by decide), ifn (by decide), ifn (by decide), ifn (by decide), ifp (by decide), show f_X4_faultOfPriority a b m = _ from hf]; rfl
    · rw [e1, ifn (by decide), ifn (by decide), ifn (by decide), ifn (by decide), ifn (by decide), ifp (by decide), show f_X4_faultOfMove a b m = _ from hf]; rfl
    · rw [e1, ifn (by decide), ifn (by decide), ifn (by decide), ifn (by decide), ifn (by decide), ifn (by decide), show f_X11_faultOfTicks a m = _ from hf]; rfl
  unfold f_X11_carryOut
  simp only [lt_d, ea, eb, ec, hfc, bd_s]
  rw [ifn (show ¬ nI k = 0 from hk)]
  rfl
theorem y_out1 (hw : w ≤ 6) (e1 : m.1 111 1 = nI w) (ea : m.1 112 0 = a) (eb : m.1 112 1 = b) (ec : m.1 112 2 = c) (hf : cfW w a b c m = some (nI 0, m)) (hc : ccW w a b c m = some (v, m1)) : f_X11_carryOut m = some (nI 1, m1) := by
  have hfc : f_X11_faultOfCommand a b c m = some (nI 0, m) := by
    unfold f_X11_faultOfCommand
    rcases w6 hw with rfl | rfl | rfl | rfl | rfl | rfl | rfl
    · rw [e1, ifp (by decide), show f_X4_faultOfNewLink a b c m = _ from hf]; rfl
    · rw [e1, ifn (by decide), ifp (by decide), show f_X4_faultOfBid a b c m = _ from hf]; rfl
    · rw [e1, ifn (by decide), ifn (by decide), ifp (by decide), show f_X4_faultOfSwitch a 1 m = _ from hf]; rfl
    · rw [e1, ifn (by decide), ifn (by decide), ifn (by decide), ifp (by decide), show f_X4_faultOfSwitch a 0 m = _ from hf]; rfl
    · rw [e1, ifn (by decide), ifn (by decide), ifn (by decide), ifn (by decide), ifp (by decide), show f_X4_faultOfPriority a b m = _ from hf]; rfl
    · rw [e1, ifn (by decide), ifn (by decide), ifn (by decide), ifn (by decide), ifn (by decide), ifp (by decide), show f_X4_faultOfMove a b m = _ from hf]; rfl
    · rw [e1, ifn (by decide), ifn (by decide), ifn (by decide), ifn (by decide), ifn (by decide), ifn (by decide), show f_X11_faultOfTicks a m = _ from hf]; rfl
  unfold f_X11_carryOut
  simp only [lt_d, ea, eb, ec, hfc, bd_s]
  rw [ifp (show nI 0 = 0 from rfl)]
  rcases w6 hw with rfl | rfl | rfl | rfl | rfl | rfl | rfl
  · rw [e1, ifp (by decide), show f_X3_append a b c m = _ from hc]; rfl
  · rw [e1, ifn (by decide), ifp (by decide), show f_X8_changeBid a b c m = _ from hc]; rfl
  · rw [e1, ifn (by decide), ifn (by decide), ifp (by decide), show f_X4_takeDown a m = _ from hc]; rfl
  · rw [e1, ifn (by decide), ifn (by decide), ifn (by decide), ifp (by decide), show f_X3_bringUp a m = _ from hc]; rfl
  · rw [e1, ifn (by decide), ifn (by decide), ifn (by decide), ifn (by decide), ifp (by decide), show f_X1_changePriority a b m = _ from hc]; rfl
  · rw [e1, ifn (by decide), ifn (by decide), ifn (by decide), ifn (by decide), ifn (by decide), ifp (by decide), show f_X1_placeHost a b m = _ from hc]; rfl
  · rw [e1, ifn (by decide), ifn (by decide), ifn (by decide), ifn (by decide), ifn (by decide), ifn (by decide)]
    have hc' : bd (f_X11_passTicks a m) (fun m1 => some (m1.1 1 1, m1)) = some (v, m1) := hc
    cases hp : f_X11_passTicks a m with
    | none => rw [hp] at hc'; cases hc'
    | some x =>
      rw [hp, bd_s] at hc'
      injection hc' with hc'
      rw [bd_s, (Prod.mk.inj hc').2]
      rfl
theorem x_does {N : Nat → Int32} {r : Int32} (hw : w ≤ 6) (e1 : M.1 128 12 = nI (w + 1)) (eN : ∀ j, j < nnW w → M.1 136 j = N j) (hc : cmW w (N 0) (N 1) (N 2) M = some (r, M1)) : f_X12_does M = some (r, M1) := by
  unfold f_X12_does
  rcases w6 hw with rfl | rfl | rfl | rfl | rfl | rfl | rfl
  · rw [e1, ifp (by decide), eN 0 (by decide), eN 1 (by decide), eN 2 (by decide), show f_X12_joins (N 0) (N 1) (N 2) M = _ from hc]; rfl
  · rw [e1, ifn (by decide), ifp (by decide), eN 0 (by decide), eN 1 (by decide), eN 2 (by decide), show f_X12_bids (N 0) (N 1) (N 2) M = _ from hc]; rfl
  · rw [e1, ifn (by decide), ifn (by decide), ifp (by decide), eN 0 (by decide), show f_X12_breaks (N 0) M = _ from hc]; rfl
  · rw [e1, ifn (by decide), ifn (by decide), ifn (by decide), ifp (by decide), eN 0 (by decide), show f_X12_mends (N 0) M = _ from hc]; rfl
  · rw [e1, ifn (by decide), ifn (by decide), ifn (by decide), ifn (by decide), ifp (by decide), eN 0 (by decide), eN 1 (by decide), show f_X12_prioritizes (N 0) (N 1) M = _ from hc]; rfl
  · rw [e1, ifn (by decide), ifn (by decide), ifn (by decide), ifn (by decide), ifn (by decide), ifp (by decide), eN 0 (by decide), eN 1 (by decide), show f_X12_moves (N 0) (N 1) M = _ from hc]; rfl
  · rw [e1, ifn (by decide), ifn (by decide), ifn (by decide), ifn (by decide), ifn (by decide), ifn (by decide), eN 0 (by decide), show f_X12_ticks (N 0) M = _ from hc]; rfl
theorem fr2.rf (m : me) : fr2 m m := ⟨fun _ _ _ => rfl, rfl, rfl, fun _ _ => rfl, rfl⟩
theorem fr2.tr (h : fr2 m m1) (k : fr2 m1 m2) : fr2 m m2 := ⟨fun q a b => (k.1 q a b).trans (h.1 q a b), k.2.1.trans h.2.1, k.2.2.1.trans h.2.2.1, fun q a => (k.2.2.2.1 q a).trans (h.2.2.2.1 q a), k.2.2.2.2.trans h.2.2.2.2⟩
theorem fp.fr2 (h : fp m m1) : fr2 m m1 := ⟨fun q a b => h.1 q (by omega) (by omega), h.2.1, h.1 113 (by decide) (by decide), fun q a => h.1 q (by omega) (by omega), h.2.2⟩
theorem fp.RN (h : fp m m1) (hR : RN m 1 S) : RN m1 1 S := hR.cg (fun r hr => h.1 _ (by omega) (by omega))
theorem gr2.rf (M : me) : gr2 M M := ⟨fun _ _ => rfl, rfl, rfl, rfl⟩
theorem gr2.tr (h : gr2 M M1) (k : gr2 M1 M2) : gr2 M M2 := ⟨fun q a => (k.1 q a).trans (h.1 q a), k.2.1.trans h.2.1, k.2.2.1.trans h.2.2.1, k.2.2.2.trans h.2.2.2⟩
theorem gp.gr2 (h : gp M M1) : gr2 M M1 := ⟨fun q a => h.1 q (by omega) (by omega), h.2.1 3 (by decide) (by decide), h.2.1 5 (by decide) (by decide), h.2.2⟩
theorem MC.gr2 (h : MC S' M M1) : gr2 M M1 := ⟨fun q a => h.2.1 q (by omega) (by omega) (by omega), h.2.2.1 3 (by decide), h.2.2.1 5 (by decide), h.2.2.2⟩
theorem MC.MP (h : MC S' M M1) (hM : MP n d M p) : MP n d M1 p := by
  obtain ⟨h1, h2, h3, h4, h6, h7⟩ := hM
  exact ⟨h1, h2, by rw [h.2.2.1 5 (by decide)]; exact h3, by rw [h.2.2.1 11 (by decide)]; exact h4, h6, fun i hi => by rw [h.2.1 132 (by decide) (by decide) (by decide)]; exact h7 i hi⟩
theorem fc.CP {f : Int32} (h : fc m m1) (hC : CP n d m p f) : CP n d m1 p f := by
  obtain ⟨h1, h2, h3, h4, h5, h6, h7⟩ := hC
  have e : m1.1 111 = m.1 111 := h.1 111 (by omega) (by omega)
  exact ⟨h1, h2, by rw [e]; exact h3, by rw [e]; exact h4, by rw [e]; exact h5, h6, fun i hi => by rw [h.1 113 (by omega) (by omega)]; exact h7 i hi⟩
/-- the model stops -/
theorem x_halt {k : Nat} {q : Nat} (h : MP n d M q) {Nf : Nat} (hN : 0 < Nf) : lo b_X12_run_64 Nf (nI k, nI 0, M) = some (nI k, nI 0, M) := by
  refine lo_one hN ?_
  have hq := h.2.2.2.2.1
  have hn := h.1
  unfold b_X12_run_64
  by_cases hnq : n ≤ q
  · simp (disch := omega) only [L0, L1, L2, L3, L4, L5, L6, L7, L8, L9, L10, L11, L12, L13, L14, L15, L16, L17, L18, L19, L20, L21, L22, L23, L24, L25, L26, L27, L28, L29, L30, L31, L32, L47, L48, L50, L51, L57, L59, L90, L97, L100, L120, L122, L127, L179, L187, L199, L200, L487, L974, L1000, L1461, L10000, L18498, L1000000, nI_add, pk_mul, nI_cl, nI_lts, nI_les, nI_eqs, Ln1, n1_ne, n1_ne', n1_lts, nI_ltn, n1_les, nI_len, bd_s, lt_d, gd_n, h.2.2.1, h.2.2.2.1, if_pos hnq]
  · simp (disch := omega) only [L0, L1, L2, L3, L4, L5, L6, L7, L8, L9, L10, L11, L12, L13, L14, L15, L16, L17, L18, L19, L20, L21, L22, L23, L24, L25, L26, L27, L28, L29, L30, L31, L32, L47, L48, L50, L51, L57, L59, L90, L97, L100, L120, L122, L127, L179, L187, L199, L200, L487, L974, L1000, L1461, L10000, L18498, L1000000, nI_add, pk_mul, nI_cl, nI_lts, nI_les, nI_eqs, Ln1, n1_ne, n1_ne', n1_lts, nI_ltn, n1_les, nI_len, bd_s, lt_d, gd_n, h.2.2.1, h.2.2.2.1, if_neg hnq, if_true]
theorem lo_step {σ τ : Type} {b : σ → Option (σ ⊕ τ)} {N : Nat} {s s' : σ} {t : τ} (h : b s = some (.inl s')) (k : lo b N s' = some t) : lo b (N + 1) s = some t := by
  unfold lo
  rw [h]
  exact k
theorem run_joint (n : Nat) (d : Nat → Nat) : ∀ (F p : Nat) (S : Nat → Int32), WF S → p ≤ n → n < p + F → n ≤ 120 → ∃ (c : Nat) (S' : Nat → Int32), WF S' ∧
    (∀ (m : me) (i k Nf : Nat) (v : Int32), CP n d m p n1 → RN m 1 S → i ≤ p → F < Nf → ∃ (m' : me) (j : Int32), (lo (b_X11_run_40 v) Nf (nI k, nI i, m) = some (.inl (nI (k + c), j, m')) ∨ lo (b_X11_run_40 v) Nf (nI k, nI i, m) = some (.inr (nI (k + c), m'))) ∧ RN m' 1 S' ∧ fr2 m m') ∧
    (∀ (M : me) (k Nf : Nat), MP n d M (SK n d p) → M.1 129 = S → F < Nf → ∃ (mo : Int32) (M' : me), lo b_X12_run_64 Nf (nI k, nI 1, M) = some (nI (k + c), mo, M') ∧ M'.1 129 = S' ∧ gr2 M M') := by
  intro F
  induction F with
  | zero => intro p S hS hp hF; omega
  | succ F ih =>
    intro p S hS hp hF hn
    have s1 := SK_le (n := n) (d := d) hp
    have s2 := SK_ge (n := n) (d := d) (p := p)
    -- the model's end with nothing more done
    have mstop : ∀ (M M' : me) (k Nf q : Nat), gr2 M M' → MP n d M' q → F + 1 < Nf → b_X12_run_64 (nI k, nI 1, M) = bd (f_X12_skips M') (fun r20 => some (.inl (nI k + nI 0, nI 0, r20))) → ∃ (mo : Int32) (M2 : me), lo b_X12_run_64 Nf (nI k, nI 1, M) = some (nI (k + 0), mo, M2) ∧ M2.1 129 = M'.1 129 ∧ gr2 M M2 := by
      intro M M' k Nf q hg hM hN hb
      obtain ⟨K, rfl⟩ : ∃ z, Nf = z + 1 := ⟨Nf - 1, by omega⟩
      rw [x_skips hM, bd_s, nI_add] at hb
      have hM2 := hM.mv (SK_le (n := n) (d := d) hM.2.2.2.2.1)
      refine ⟨nI 0, wI M' 128 11 (nI (SK n d q)), lo_step hb (x_halt hM2 (by omega)), ?_, hg.tr gp.w11.gr2⟩
      rw [wI_sR, sR_ne (by decide)]
    by_cases hq : SK n d p < n
    · by_cases hpc : (PC n d (SK n d p)).1 = true
      · obtain ⟨p1, p2, p3⟩ := PC_le (n := n) (d := d) s1
        have p4 := p3 hpc
        have hw : WX n d (SK n d p) ≤ 6 := by
          refine Nat.le_of_lt_succ (Nat.lt_of_le_of_ne ?_ (fun h7 => ?_))
          · unfold WX firstW
            repeat' split
            all_goals omega
          · unfold PC at hpc
            rw [if_pos h7] at hpc
            exact absurd (show false = true from hpc) (by decide)
        rcases cmdW (w := WX n d (SK n d p)) (a := (rnW n d (SK n d p)).2.2 0) (b := (rnW n d (SK n d p)).2.2 1) (c := (rnW n d (SK n d p)).2.2 2) hS hw with ⟨S1, v1, hS1, hf, hc, hm⟩ | ⟨c', c1, c2, hf, hm⟩
        · obtain ⟨c, S', hS', ic, im⟩ := ih (PC n d (SK n d p)).2 S1 hS1 p1 (by omega) hn
          refine ⟨c + 1, S', hS', fun m i k Nf v hCP hR hi hN => ?_, fun M k Nf hMP hM hN => ?_⟩
          · obtain ⟨K, rfl⟩ : ∃ z, Nf = z + 1 := ⟨Nf - 1, by omega⟩
            obtain ⟨m1, a1, a2⟩ := y_readCommand hCP
            rcases a2 with ⟨z, -⟩ | ⟨-, -, e1, e2, e3, e4, e5⟩ | ⟨-, z, -⟩
            · omega
            · have hR1 := a1.RN hR
              obtain ⟨m2, b1, b2⟩ := hc m1 hR1
              have hco := y_out1 hw e4 (e5 0 (by decide)) (e5 1 (by decide)) (e5 2 (by decide)) (hf m1 hR1) b1
              obtain ⟨m3, j, r1, r2, r3⟩ := ic m2 (i + 1) (k + 1) K v (b2.2.CP e2) b2.1 (by omega) (by omega)
              have hstep : b_X11_run_40 v (nI k, nI i, m) = some (.inl (nI (k + 1), nI (i + 1), m2)) := by
                have hni : ¬ n ≤ i := by omega
                unfold b_X11_run_40
                simp (disch := omega) only [L0, L1, L2, L3, L4, L5, L6, L7, L8, L9, L10, L11, L12, L13, L14, L15, L16, L17, L18, L19, L20, L21, L22, L23, L24, L25, L26, L27, L28, L29, L30, L31, L32, L47, L48, L50, L51, L57, L59, L90, L97, L100, L120, L122, L127, L179, L187, L199, L200, L487, L974, L1000, L1461, L10000, L18498, L1000000, nI_add, pk_mul, nI_cl, nI_lts, nI_les, nI_eqs, Ln1, n1_ne, n1_ne', n1_lts, nI_ltn, n1_les, nI_len, bd_s, lt_d, gd_n, hCP.2.2.1, if_neg hni, e1, i10, if_false, hco, Nat.one_ne_zero]
              rw [show k + 1 + c = k + (c + 1) by omega] at r1
              refine ⟨m3, j, ?_, r2, (a1.fr2.tr b2.2.fr2).tr r3⟩
              rcases r1 with r1 | r1
              · exact Or.inl (lo_step hstep r1)
              · exact Or.inr (lo_step hstep r1)
            · rw [hpc] at z; exact absurd z (by decide)
          · obtain ⟨K, rfl⟩ : ∃ z, Nf = z + 1 := ⟨Nf - 1, by omega⟩
            obtain ⟨M1, a1, a2⟩ := x_isCommand hMP
            rcases a2 with ⟨-, e1, e2, e3, e4, e5⟩ | ⟨z, -⟩
            · have hM1 : M1.1 129 = S := by rw [a1.1 129 (by decide) (by decide)]; exact hM
              obtain ⟨M2, b1, b2, b3⟩ := hm M1 hM1
              have hdo := x_does hw e4 e5 b1
              have hMP2 := b3.MP e2
              have hMP3 := hMP2.mv (SK_le (n := n) (d := d) hMP2.2.2.2.2.1)
              obtain ⟨mo, M3, r1, r2, r3⟩ := im (wI M2 128 11 (nI (SK n d (PC n d (SK n d p)).2))) (k + 1) K hMP3 (by rw [wI_sR, sR_ne (by decide)]; exact b3.1) (by omega)
              have hstep : b_X12_run_64 (nI k, nI 1, M) = some (.inl (nI (k + 1), nI 1, wI M2 128 11 (nI (SK n d (PC n d (SK n d p)).2)))) := by
                have hni : ¬ n ≤ SK n d p := by omega
                unfold b_X12_run_64 j_X12_run_98 j_X12_run_109
                simp (disch := omega) only [L0, L1, L2, L3, L4, L5, L6, L7, L8, L9, L10, L11, L12, L13, L14, L15, L16, L17, L18, L19, L20, L21, L22, L23, L24, L25, L26, L27, L28, L29, L30, L31, L32, L47, L48, L50, L51, L57, L59, L90, L97, L100, L120, L122, L127, L179, L187, L199, L200, L487, L974, L1000, L1461, L10000, L18498, L1000000, nI_add, pk_mul, nI_cl, nI_lts, nI_les, nI_eqs, Ln1, n1_ne, n1_ne', n1_lts, nI_ltn, n1_les, nI_len, bd_s, lt_d, gd_n, hMP.2.2.1, hMP.2.2.2.1, if_neg hni, i10, if_false, e1, hdo, if_true, x_skips hMP2, Nat.one_ne_zero]
              rw [show k + 1 + c = k + (c + 1) by omega] at r1
              exact ⟨mo, M3, lo_step hstep r1, r2, ((a1.gr2.tr b3.gr2).tr gp.w11.gr2).tr r3⟩
            · rw [hpc] at z; exact absurd z (by decide)
        · refine ⟨0, S, hS, fun m i k Nf v hCP hR hi hN => ?_, fun M k Nf hMP hM hN => ?_⟩
          · obtain ⟨m1, a1, a2⟩ := y_readCommand hCP
            rcases a2 with ⟨z, -⟩ | ⟨-, -, e1, e2, e3, e4, e5⟩ | ⟨-, z, -⟩
            · omega
            · have hR1 := a1.RN hR
              have hco := y_out0 hw c1 c2 e4 (e5 0 (by decide)) (e5 1 (by decide)) (e5 2 (by decide)) (hf m1 hR1)
              refine ⟨m1, nI 0, Or.inr (lo_one (by omega) ?_), hR1, a1.fr2⟩
              have hni : ¬ n ≤ i := by omega
              unfold b_X11_run_40
              simp (disch := omega) only [L0, L1, L2, L3, L4, L5, L6, L7, L8, L9, L10, L11, L12, L13, L14, L15, L16, L17, L18, L19, L20, L21, L22, L23, L24, L25, L26, L27, L28, L29, L30, L31, L32, L47, L48, L50, L51, L57, L59, L90, L97, L100, L120, L122, L127, L179, L187, L199, L200, L487, L974, L1000, L1461, L10000, L18498, L1000000, nI_add, pk_mul, nI_cl, nI_lts, nI_les, nI_eqs, Ln1, n1_ne, n1_ne', n1_lts, nI_ltn, n1_les, nI_len, bd_s, lt_d, gd_n, hCP.2.2.1, if_neg hni, e1, i10, if_false, hco, if_true, Nat.one_ne_zero, Nat.add_zero]
            · rw [hpc] at z; exact absurd z (by decide)
          · obtain ⟨M1, a1, a2⟩ := x_isCommand hMP
            rcases a2 with ⟨-, e1, e2, e3, e4, e5⟩ | ⟨z, -⟩
            · have hM1 : M1.1 129 = S := by rw [a1.1 129 (by decide) (by decide)]; exact hM
              have hdo := x_does hw e4 e5 (hm M1 hM1)
              obtain ⟨q1, q2⟩ := ceW_1 hw c1 c2
              have hne : ¬ ceW (WX n d (SK n d p)) c' = 0 := by omega
              have := mstop M M1 k Nf _ a1.gr2 e2 hN (by
                have hni : ¬ n ≤ SK n d p := by omega
                unfold b_X12_run_64 j_X12_run_97 j_X12_run_98 j_X12_run_109
                simp (disch := omega) only [L0, L1, L2, L3, L4, L5, L6, L7, L8, L9, L10, L11, L12, L13, L14, L15, L16, L17, L18, L19, L20, L21, L22, L23, L24, L25, L26, L27, L28, L29, L30, L31, L32, L47, L48, L50, L51, L57, L59, L90, L97, L100, L120, L122, L127, L179, L187, L199, L200, L487, L974, L1000, L1461, L10000, L18498, L1000000, nI_les, nI_eqs, bd_s, lt_d, gd_n, hMP.2.2.1, hMP.2.2.2.1, if_neg hni, i10, if_false, e1, hdo, if_neg hne, if_true, Nat.one_ne_zero])
              rw [hM1] at this
              exact this
            · rw [hpc] at z; exact absurd z (by decide)
      · have hpc' := bf_of hpc
        refine ⟨0, S, hS, fun m i k Nf v hCP hR hi hN => ?_, fun M k Nf hMP hM hN => ?_⟩
        · obtain ⟨m1, a1, a2⟩ := y_readCommand hCP
          rcases a2 with ⟨z, -⟩ | ⟨-, z, -⟩ | ⟨-, -, e1, e2⟩
          · omega
          · rw [hpc'] at z; exact absurd z (by decide)
          · refine ⟨m1, nI 0, Or.inr (lo_one (by omega) ?_), a1.RN hR, a1.fr2⟩
            have hni : ¬ n ≤ i := by omega
            unfold b_X11_run_40
            simp (disch := omega) only [L0, L1, L2, L3, L4, L5, L6, L7, L8, L9, L10, L11, L12, L13, L14, L15, L16, L17, L18, L19, L20, L21, L22, L23, L24, L25, L26, L27, L28, L29, L30, L31, L32, L47, L48, L50, L51, L57, L59, L90, L97, L100, L120, L122, L127, L179, L187, L199, L200, L487, L974, L1000, L1461, L10000, L18498, L1000000, nI_add, pk_mul, nI_cl, nI_lts, nI_les, nI_eqs, Ln1, n1_ne, n1_ne', n1_lts, nI_ltn, n1_les, nI_len, bd_s, lt_d, gd_n, hCP.2.2.1, if_neg hni, e1, if_true, Nat.add_zero]
        · obtain ⟨M1, a1, a2⟩ := x_isCommand hMP
          rcases a2 with ⟨z, -⟩ | ⟨-, e1, e2⟩
          · rw [hpc'] at z; exact absurd z (by decide)
          · have hM1 : M1.1 129 = S := by rw [a1.1 129 (by decide) (by decide)]; exact hM
            have := mstop M M1 k Nf _ a1.gr2 e2 hN (by
              have hni : ¬ n ≤ SK n d p := by omega
              unfold b_X12_run_64 j_X12_run_97 j_X12_run_98 j_X12_run_109
              simp (disch := omega) only [L0, L1, L2, L3, L4, L5, L6, L7, L8, L9, L10, L11, L12, L13, L14, L15, L16, L17, L18, L19, L20, L21, L22, L23, L24, L25, L26, L27, L28, L29, L30, L31, L32, L47, L48, L50, L51, L57, L59, L90, L97, L100, L120, L122, L127, L179, L187, L199, L200, L487, L974, L1000, L1461, L10000, L18498, L1000000, nI_les, nI_eqs, bd_s, lt_d, gd_n, hMP.2.2.1, hMP.2.2.2.1, if_neg hni, i10, if_false, e1, if_true, Nat.one_ne_zero])
            rw [hM1] at this
            exact this
    · have hqn : SK n d p = n := by omega
      refine ⟨0, S, hS, fun m i k Nf v hCP hR hi hN => ?_, fun M k Nf hMP hM hN => ?_⟩
      · by_cases hni : n ≤ i
        · refine ⟨m, nI i, Or.inl (lo_one (by omega) ?_), hR, fr2.rf m⟩
          unfold b_X11_run_40
          simp (disch := omega) only [L0, L1, L2, L3, L4, L5, L6, L7, L8, L9, L10, L11, L12, L13, L14, L15, L16, L17, L18, L19, L20, L21, L22, L23, L24, L25, L26, L27, L28, L29, L30, L31, L32, L47, L48, L50, L51, L57, L59, L90, L97, L100, L120, L122, L127, L179, L187, L199, L200, L487, L974, L1000, L1461, L10000, L18498, L1000000, nI_add, pk_mul, nI_cl, nI_lts, nI_les, nI_eqs, Ln1, n1_ne, n1_ne', n1_lts, nI_ltn, n1_les, nI_len, bd_s, lt_d, gd_n, hCP.2.2.1, if_pos hni, Nat.add_zero]
        · obtain ⟨m1, a1, a2⟩ := y_readCommand hCP
          rcases a2 with ⟨-, e1, e2⟩ | ⟨z, -⟩ | ⟨z, -⟩
          · refine ⟨m1, nI 0, Or.inr (lo_one (by omega) ?_), a1.RN hR, a1.fr2⟩
            unfold b_X11_run_40
            simp (disch := omega) only [L0, L1, L2, L3, L4, L5, L6, L7, L8, L9, L10, L11, L12, L13, L14, L15, L16, L17, L18, L19, L20, L21, L22, L23, L24, L25, L26, L27, L28, L29, L30, L31, L32, L47, L48, L50, L51, L57, L59, L90, L97, L100, L120, L122, L127, L179, L187, L199, L200, L487, L974, L1000, L1461, L10000, L18498, L1000000, nI_add, pk_mul, nI_cl, nI_lts, nI_les, nI_eqs, Ln1, n1_ne, n1_ne', n1_lts, nI_ltn, n1_les, nI_len, bd_s, lt_d, gd_n, hCP.2.2.1, if_neg hni, e1, if_true, Nat.add_zero]
          · omega
          · omega
      · refine ⟨nI 1, M, lo_one (by omega) ?_, hM, gr2.rf M⟩
        have hni : n ≤ SK n d p := by omega
        unfold b_X12_run_64
        simp (disch := omega) only [L0, L1, L2, L3, L4, L5, L6, L7, L8, L9, L10, L11, L12, L13, L14, L15, L16, L17, L18, L19, L20, L21, L22, L23, L24, L25, L26, L27, L28, L29, L30, L31, L32, L47, L48, L50, L51, L57, L59, L90, L97, L100, L120, L122, L127, L179, L187, L199, L200, L487, L974, L1000, L1461, L10000, L18498, L1000000, nI_add, pk_mul, nI_cl, nI_lts, nI_les, nI_eqs, Ln1, n1_ne, n1_ne', n1_lts, nI_ltn, n1_les, nI_len, bd_s, lt_d, gd_n, hMP.2.2.1, hMP.2.2.2.1, if_pos hni, Nat.add_zero]
/-- the faults, class -/
theorem y_faults : ∀ (F p i : Nat) (m : me) (Nf : Nat), CP n d m p n1 → i ≤ p → n < p + F → F < Nf → ∃ m', fp m m' ∧ lo b_X7_findFault_6 Nf (nI i, m) = some (.inr ((match FF n d F p with | none => n1 | some q => nI q), m')) := by
  intro F
  induction F with
  | zero => intro p i m Nf h hi hF; have := h.2.2.2.2.2.1; omega
  | succ F ih =>
    intro p i m Nf h hi hF hN
    have hp := h.2.2.2.2.2.1
    have hn := h.1
    obtain ⟨K, rfl⟩ : ∃ z, Nf = z + 1 := ⟨Nf - 1, by omega⟩
    have hni : ¬ n < i := by omega
    have s1 := SK_le (n := n) (d := d) hp
    have s2 := SK_ge (n := n) (d := d) (p := p)
    obtain ⟨m1, a1, a2⟩ := y_readCommand h
    rcases a2 with ⟨z, e1, e2⟩ | ⟨z, z2, e1, e2, -⟩ | ⟨z, z2, e1, e2⟩
    · have hff : FF n d (F + 1) p = none := by rw [FF, if_neg (by omega)]
      refine ⟨m1, a1, lo_one (by omega) ?_⟩
      rw [hff]
      unfold b_X7_findFault_6
      simp (disch := omega) only [L0, L1, L2, L3, L4, L5, L6, L7, L8, L9, L10, L11, L12, L13, L14, L15, L16, L17, L18, L19, L20, L21, L22, L23, L24, L25, L26, L27, L28, L29, L30, L31, L32, L47, L48, L50, L51, L57, L59, L90, L97, L100, L120, L122, L127, L179, L187, L199, L200, L487, L974, L1000, L1461, L10000, L18498, L1000000, nI_add, pk_mul, nI_cl, nI_lts, nI_les, nI_eqs, Ln1, n1_ne, n1_ne', n1_lts, nI_ltn, n1_les, nI_len, bd_s, lt_d, gd_n, h.2.2.1, if_neg hni, e1, if_true, e2.2.2.2.2.1]
    · obtain ⟨p1, p2, p3⟩ := PC_le (n := n) (d := d) s1
      have p4 := p3 z2
      have hff : FF n d (F + 1) p = FF n d F (PC n d (SK n d p)).2 := by rw [FF, if_pos z, if_pos z2]
      obtain ⟨m2, b1, b2⟩ := ih (PC n d (SK n d p)).2 (i + 1) m1 K e2 (by omega) (by omega) (by omega)
      refine ⟨m2, a1.tr b1, ?_⟩
      rw [hff]
      refine lo_step ?_ b2
      unfold b_X7_findFault_6
      simp (disch := omega) only [L0, L1, L2, L3, L4, L5, L6, L7, L8, L9, L10, L11, L12, L13, L14, L15, L16, L17, L18, L19, L20, L21, L22, L23, L24, L25, L26, L27, L28, L29, L30, L31, L32, L47, L48, L50, L51, L57, L59, L90, L97, L100, L120, L122, L127, L179, L187, L199, L200, L487, L974, L1000, L1461, L10000, L18498, L1000000, nI_add, pk_mul, nI_cl, nI_lts, nI_les, nI_eqs, Ln1, n1_ne, n1_ne', n1_lts, nI_ltn, n1_les, nI_len, bd_s, lt_d, gd_n, h.2.2.1, if_neg hni, e1, i10, if_false, Nat.one_ne_zero]
    · have hff : FF n d (F + 1) p = some (PC n d (SK n d p)).2 := by rw [FF, if_pos z, if_neg (by rw [z2]; decide)]
      refine ⟨m1, a1, lo_one (by omega) ?_⟩
      rw [hff]
      unfold b_X7_findFault_6
      simp (disch := omega) only [L0, L1, L2, L3, L4, L5, L6, L7, L8, L9, L10, L11, L12, L13, L14, L15, L16, L17, L18, L19, L20, L21, L22, L23, L24, L25, L26, L27, L28, L29, L30, L31, L32, L47, L48, L50, L51, L57, L59, L90, L97, L100, L120, L122, L127, L179, L187, L199, L200, L487, L974, L1000, L1461, L10000, L18498, L1000000, nI_add, pk_mul, nI_cl, nI_lts, nI_les, nI_eqs, Ln1, n1_ne, n1_ne', n1_lts, nI_ltn, n1_les, nI_len, bd_s, lt_d, gd_n, h.2.2.1, if_neg hni, e1, if_true, e2.2.2.2.2.1]
/-- the faults, model -/
theorem x_faults : ∀ (F p : Nat) (M : me) (Nf : Nat), MP n d M (SK n d p) → p ≤ n → n < p + F → F < Nf → ∃ M', gp M M' ∧ ((FF n d F p = none ∧ MP n d M' n ∧ lo b_X12_run_14 Nf M = some (.inl M')) ∨ ∃ q, FF n d F p = some q ∧ lo b_X12_run_14 Nf M = some (.inr (-10 - nI q, M'))) := by
  intro F
  induction F with
  | zero => intro p M Nf h hp hF; omega
  | succ F ih =>
    intro p M Nf h hp hF hN
    have hn := h.1
    obtain ⟨K, rfl⟩ : ∃ z, Nf = z + 1 := ⟨Nf - 1, by omega⟩
    have s1 := SK_le (n := n) (d := d) hp
    have s2 := SK_ge (n := n) (d := d) (p := p)
    by_cases hq : SK n d p < n
    · have hni : ¬ n ≤ SK n d p := by omega
      obtain ⟨M1, a1, a2⟩ := x_isCommand h
      rcases a2 with ⟨z2, e1, e2, -⟩ | ⟨z2, e1, e2⟩
      · obtain ⟨p1, p2, p3⟩ := PC_le (n := n) (d := d) s1
        have p4 := p3 z2
        have hff : FF n d (F + 1) p = FF n d F (PC n d (SK n d p)).2 := by rw [FF, if_pos hq, if_pos z2]
        have hMP := e2.mv (SK_le (n := n) (d := d) e2.2.2.2.2.1)
        obtain ⟨M2, b1, b2⟩ := ih (PC n d (SK n d p)).2 _ K hMP p1 (by omega) (by omega)
        have hstep : b_X12_run_14 M = some (.inl (wI M1 128 11 (nI (SK n d (PC n d (SK n d p)).2)))) := by
          unfold b_X12_run_14
          simp (disch := omega) only [L0, L1, L2, L3, L4, L5, L6, L7, L8, L9, L10, L11, L12, L13, L14, L15, L16, L17, L18, L19, L20, L21, L22, L23, L24, L25, L26, L27, L28, L29, L30, L31, L32, L47, L48, L50, L51, L57, L59, L90, L97, L100, L120, L122, L127, L179, L187, L199, L200, L487, L974, L1000, L1461, L10000, L18498, L1000000, nI_add, pk_mul, nI_cl, nI_lts, nI_les, nI_eqs, Ln1, n1_ne, n1_ne', n1_lts, nI_ltn, n1_les, nI_len, bd_s, lt_d, gd_n, h.2.2.1, h.2.2.2.1, if_neg hni, e1, i10, if_false, x_skips e2, Nat.one_ne_zero]
        refine ⟨M2, (a1.tr gp.w11).tr b1, ?_⟩
        rw [hff]
        rcases b2 with ⟨c1, c2, c3⟩ | ⟨q, c1, c2⟩
        · exact Or.inl ⟨c1, c2, lo_step hstep c3⟩
        · exact Or.inr ⟨q, c1, lo_step hstep c2⟩
      · have hff : FF n d (F + 1) p = some (PC n d (SK n d p)).2 := by rw [FF, if_pos hq, if_neg (by rw [z2]; decide)]
        refine ⟨M1, a1, Or.inr ⟨_, hff, lo_one (by omega) ?_⟩⟩
        unfold b_X12_run_14
        rw [e1, h.2.2.1, h.2.2.2.1, ifn (by rw [nI_les (by omega) (by omega)]; exact hni), bd_s, ifp (show nI 0 = 0 from rfl), e2.2.2.2.1]
    · have hqn : SK n d p = n := by omega
      have hff : FF n d (F + 1) p = none := by rw [FF, if_neg (by omega)]
      refine ⟨M, gp.rf M, Or.inl ⟨hff, by rw [hqn] at h; exact h, lo_one (by omega) ?_⟩⟩
      have hni : n ≤ SK n d p := by omega
      unfold b_X12_run_14
      simp (disch := omega) only [L0, L1, L2, L3, L4, L5, L6, L7, L8, L9, L10, L11, L12, L13, L14, L15, L16, L17, L18, L19, L20, L21, L22, L23, L24, L25, L26, L27, L28, L29, L30, L31, L32, L47, L48, L50, L51, L57, L59, L90, L97, L100, L120, L122, L127, L179, L187, L199, L200, L487, L974, L1000, L1461, L10000, L18498, L1000000, nI_add, pk_mul, nI_cl, nI_lts, nI_les, nI_eqs, Ln1, n1_ne, n1_ne', n1_lts, nI_ltn, n1_les, nI_len, bd_s, lt_d, gd_n, h.2.2.1, h.2.2.2.1, if_pos hni]
theorem Inv.cg2 (h : Inv m) (h1 : ∀ q, q < 111 → m1.1 q = m.1 q) (h1' : m1.1 111 0 = m.1 111 0) (h2 : m1.1 113 = m.1 113) (h3 : m1.1 129 = m.1 129) (h4 : m1.1 130 = m.1 130) (h5 : m1.1 132 = m.1 132) (h6 : m1.1 128 3 = m.1 128 3) (h7 : m1.1 128 5 = m.1 128 5) (h8 : m1.2.2 = m.2.2) : Inv m1 := by
  obtain ⟨a1, a2, ⟨k, a3, a4⟩, n, b1, b2, b3, b4⟩ := h
  refine ⟨by rw [h3]; exact a1, by rw [h3]; exact a2.cg (fun r hr => h1 _ (by omega)), ⟨k, by rw [h6]; exact a3, ?_⟩, n, b1, by rw [h1']; exact b2, by rw [h7]; exact b3, fun i hi => by rw [h2, h5]; exact b4 i hi⟩
  rw [h4]
  exact a4.cg (fun q _ hq => h1 q (by omega)) h8
theorem op_run (hI : Inv m) : OPn f_X11_run f_X12_run m := by
  obtain ⟨hWF, hR, -, n, b1, b2, b3, b4⟩ := id hI
  have hd : ∀ i, i < n → m.1 132 i = nI (nv (m.1 132 i)) ∧ nv (m.1 132 i) ≤ 127 := fun i hi => by
    obtain ⟨-, x, hx, e⟩ := b4 i hi
    rw [e, nv_n (by omega)]
    exact ⟨rfl, hx⟩
  generalize hdd : (fun i => nv (m.1 132 i)) = d at *
  have hd1 : ∀ i, i < n → m.1 132 i = nI (d i) := fun i hi => by rw [← hdd]; exact (hd i hi).1
  have hd2 : ∀ i, i < n → d i ≤ 127 := fun i hi => by rw [← hdd]; exact (hd i hi).2
  have hd3 : ∀ i, i < n → m.1 113 i = nI (d i) := fun i hi => by rw [(b4 i hi).1]; exact hd1 i hi
  -- a memory with the class's text, rewound
  have rew : ∀ K : me, K.1 111 0 = nI n → K.1 113 = m.1 113 → f_X7_rewind K = some (wI (wI K 111 4 (nI 0)) 111 5 n1) ∧ CP n d (wI (wI K 111 4 (nI 0)) 111 5 n1) 0 n1 := by
    intro K k1 k2
    refine ⟨rfl, b1, hd2, by rw [s_n (by decide), s_n (by decide)]; exact k1, by rw [s_n (by decide), s_e], s_e, Nat.zero_le n, fun i hi => by rw [s_13, s_13, k2]; exact hd3 i hi⟩
  obtain ⟨r1, r2⟩ := rew m b2 rfl
  obtain ⟨mf, f1, f2⟩ := y_faults (n := n) (d := d) 121 0 0 _ 2048 r2 (Nat.le_refl 0) (by omega) (by decide)
  have f1' : fp m mf := ((fp.w1 (by decide)).tr (fp.w1 (by decide))).tr f1
  have hff : f_X7_findFault m = some ((match FF n d 121 0 with | none => n1 | some q => nI q), mf) := by
    unfold f_X7_findFault
    rw [r1, bd_s, L0, f2]
    rfl
  have hIf : Inv mf := hI.cg2 (fun q hq => f1'.1 q (by omega) (by omega)) f1'.2.1 (f1'.1 113 (by decide) (by decide)) (f1'.1 129 (by decide) (by decide)) (f1'.1 130 (by decide) (by decide)) (f1'.1 132 (by decide) (by decide)) (by rw [f1'.1 128 (by decide) (by decide)]) (by rw [f1'.1 128 (by decide) (by decide)]) (by rw [f1'.2.2])
  -- the model, up to the faults
  have mdl : ∀ M : me, M.1 128 5 = nI n → (∀ i, i < n → M.1 132 i = nI (d i)) → ∃ M0 M', gp (wI M 128 6 (nI 0)) M0 ∧ MP n d M0 (SK n d 0) ∧ f_X12_skips (wI (wI M 128 6 (nI 0)) 128 11 (nI 0)) = some M0 ∧ gp M0 M' ∧ ((FF n d 121 0 = none ∧ MP n d M' n ∧ lo b_X12_run_14 2048 M0 = some (.inl M')) ∨ ∃ q, FF n d 121 0 = some q ∧ lo b_X12_run_14 2048 M0 = some (.inr (-10 - nI q, M'))) := by
    intro M k1 k2
    have hMP : MP n d (wI (wI M 128 6 (nI 0)) 128 11 (nI 0)) 0 := ⟨b1, hd2, by rw [t_n (by decide), t_n (by decide)]; exact k1, t_e, Nat.zero_le n, fun i hi => by rw [t_32, t_32]; exact k2 i hi⟩
    have hS := hMP.mv (SK_le (n := n) (d := d) (Nat.zero_le n))
    obtain ⟨M', g1, g2⟩ := x_faults (n := n) (d := d) 121 0 _ 2048 hS (Nat.zero_le n) (by omega) (by decide)
    exact ⟨_, M', gp.w11.tr gp.w11, hS, x_skips hMP, g1, g2⟩
  cases hres : FF n d 121 0 with
  | some q =>
    rw [hres] at hff
    obtain ⟨M0, M', g1, g2, g3, g4, g5⟩ := mdl mf (by rw [f1'.1 128 (by decide) (by decide)]; exact b3) (fun i hi => by rw [f1'.1 132 (by decide) (by decide)]; exact hd1 i hi)
    rcases g5 with ⟨z, -⟩ | ⟨q', z, g5⟩
    · rw [hres] at z; cases z
    · rw [hres] at z
      injection z with z
      subst z
      have hqn : ¬ nI q = -1 := by
        show ¬ nI q = n1
        have : q < 2147483648 := by
          have : ∀ F p, p ≤ n → ∀ q, FF n d F p = some q → q ≤ n := by
            intro F
            induction F with
            | zero => intro p hp q h; cases h
            | succ F ih =>
              intro p hp q h
              have s1 := SK_le (n := n) (d := d) hp
              obtain ⟨p1, -, -⟩ := PC_le (n := n) (d := d) s1
              rw [FF] at h
              split at h
              · split at h
                · exact ih _ p1 q h
                · injection h with h; rw [← h]; exact p1
              · cases h
          have := this 121 0 (Nat.zero_le n) q hres
          omega
        rw [n1_ne' this]
        exact fun h => h
      refine ⟨-10 - nI q, mf, M', ?_, ?_, ?_⟩
      · unfold f_X11_run
        rw [hff, bd_s]
        exact if_neg hqn
      · unfold f_X12_run
        rw [L0, lt_d, lt_d, g3, bd_s, g5]
        rfl
      · have gg := g1.tr g4
        refine hIf.cg2 (fun x hx => ?_) ?_ ?_ ?_ ?_ ?_ ?_ ?_ ?_
        · rw [gg.1 x (by omega) (by omega), wI_sR, sR_ne (by omega)]
        · rw [gg.1 111 (by decide) (by decide), wI_sR, sR_ne (by decide)]
        · rw [gg.1 113 (by decide) (by decide), wI_sR, sR_ne (by decide)]
        · rw [gg.1 129 (by decide) (by decide), wI_sR, sR_ne (by decide)]
        · rw [gg.1 130 (by decide) (by decide), wI_sR, sR_ne (by decide)]
        · rw [gg.1 132 (by decide) (by decide), wI_sR, sR_ne (by decide)]
        · rw [gg.2.1 3 (by decide) (by decide), t_n (by decide)]
        · rw [gg.2.1 5 (by decide) (by decide), t_n (by decide)]
        · rw [gg.2.2]; rfl
  | none =>
    rw [hres] at hff
    have e129 : mf.1 129 = m.1 129 := f1'.1 129 (by decide) (by decide)
    obtain ⟨c, S', hS', ic, im⟩ := run_joint n d 121 0 (mf.1 129) hIf.1 (Nat.zero_le n) (by omega) b1
    obtain ⟨ms, e1, e2, e3, e4⟩ := mut_core (v := nI c) hIf hS'
    have b2f : mf.1 111 0 = nI n := by rw [f1'.2.1]; exact b2
    obtain ⟨q1, q2⟩ := rew ms (by rw [e3 111 (by omega)]; exact b2f) (by rw [e3 113 (by omega)]; exact f1'.1 113 (by decide) (by decide))
    have fw : fp ms (wI (wI ms 111 4 (nI 0)) 111 5 n1) := (fp.w1 (by decide)).tr (fp.w1 (by decide))
    obtain ⟨m1, j, l1, l2, l3⟩ := ic _ 0 0 2048 n1 q2 (fw.RN e2) (Nat.le_refl 0) (by decide)
    have l3' := fw.fr2.tr l3
    rw [Nat.zero_add] at l1
    obtain ⟨M0, M', g1, g2, g3, g4, g5⟩ := mdl m1 (by rw [l3'.2.2.2.1 128 (by omega), e3 128 (by omega), f1'.1 128 (by decide) (by decide)]; exact b3) (fun i hi => by rw [l3'.2.2.2.1 132 (by omega), e3 132 (by omega), f1'.1 132 (by decide) (by decide)]; exact hd1 i hi)
    rcases g5 with ⟨-, g5, g6⟩ | ⟨q', z, -⟩
    · have gg := g1.tr g4
      have m129 : M'.1 129 = mf.1 129 := by rw [gg.1 129 (by decide) (by decide), wI_sR, sR_ne (by decide), l3'.2.2.2.1 129 (by omega), e3 129 (by omega)]
      have m131 : M'.1 131 = m1.1 131 := by rw [gg.1 131 (by decide) (by decide), wI_sR, sR_ne (by decide)]
      have hMP : MP n d (wI (sR M' 131 (mx 487 (M'.1 129) (M'.1 131))) 128 11 (nI 0)) 0 := by
        obtain ⟨x1, x2, x3, x4, x6, x7⟩ := g5
        exact ⟨x1, x2, by rw [t_n (by decide), sR_ne (by decide)]; exact x3, t_e, Nat.zero_le n, fun i hi => by rw [t_32, sR_ne (by decide)]; exact x7 i hi⟩
      have hSm := hMP.mv (SK_le (n := n) (d := d) (Nat.zero_le n))
      obtain ⟨mo, M3, o1, o2, o3⟩ := im _ 0 2048 hSm (by rw [wI_sR, sR_ne (by decide), wI_sR, sR_ne (by decide), sR_ne (by decide)]; exact m129) (by decide)
      rw [Nat.zero_add] at o1
      have hMH : MH (mf.1 129) S' m1 M3 := by
        refine ⟨o2, ?_, ?_, ?_, fun x hx => ?_, ?_⟩
        · rw [o3.1 131 (by omega), wI_sR, sR_ne (by decide), wI_sR, sR_ne (by decide), sR_get, m129, m131]
        · rw [o3.2.1, t_n (by decide), t_n (by decide), sR_ne (by decide), gg.2.1 3 (by decide) (by decide), t_n (by decide)]
        · rw [o3.2.2.1, t_n (by decide), t_n (by decide), sR_ne (by decide), gg.2.1 5 (by decide) (by decide), t_n (by decide)]
        · rw [o3.1 x (by omega), wI_sR, sR_ne (by omega), wI_sR, sR_ne (by omega), sR_ne (by omega), gg.1 x (by omega) (by omega), wI_sR, sR_ne (by omega)]
        · rw [o3.2.2.2]
          show M'.2 = m1.2
          rw [gg.2.2]; rfl
      obtain ⟨M4, t1, t2, t3, t4⟩ := e4 m1 m1 M3 l2 l3' rfl rfl hMH
      refine ⟨nI c, m1, M4, ?_, ?_, t4⟩
      · unfold f_X11_run
        rw [hff, bd_s]
        have hrun : bd (lo (b_X11_run_40 n1) 2048 (0, 0, wI (wI ms 111 4 (nI 0)) 111 5 n1)) (fun s12 => sm s12 (fun s13 => some ((s13.1, s13.2.2))) (fun x14 => some x14)) = some (nI c, m1) := by
          rw [L0]
          rcases l1 with l1 | l1
          · rw [l1]; rfl
          · rw [l1]; rfl
        show (if n1 = -1 then bd (f_X9_save mf) (fun r3 => bd (f_X7_rewind r3) (fun r4 => bd (lo (b_X11_run_40 n1) 2048 (0, 0, r4)) (fun s12 => sm s12 (fun s13 => some ((s13.1, s13.2.2))) (fun x14 => some x14)))) else some (-10 - n1, mf)) = _
        rw [if_pos (show n1 = -1 from rfl), e1, bd_s, q1, bd_s]
        exact hrun
      · unfold f_X12_run j_X12_run_118
        rw [L0, lt_d, lt_d, g3, bd_s, g6, bd_s, smL, x_hold, bd_s, lt_d, x_skips hMP, bd_s, L1, o1, bd_s, t1]
        rfl
    · rw [hres] at z; cases z
end PRU
