/-! The calls over commands; times, grants. -/
section PS0
variable {σ τ : Type}
/-- a loop, by an invariant -/
theorem lo_rel {b : σ → Option (σ ⊕ τ)} {P : Nat → σ → Prop} {Q : τ → Prop} {n N : Nat} {s0 : σ} (h0 : P 0 s0) (hs : ∀ k s, k < n → P k s → ∃ s', b s = some (.inl s') ∧ P (k + 1) s') (he : ∀ s, P n s → ∃ t, b s = some (.inr t) ∧ Q t) (hn : n < N) : ∃ t, lo b N s0 = some t ∧ Q t := by
  have key : ∀ (d k M : Nat) (s : σ), k + d = n → d < M → P k s → ∃ t, lo b M s = some t ∧ Q t := by
    intro d
    induction d with
    | zero =>
      intro k M s hk hM hp
      obtain ⟨M, rfl⟩ : ∃ z, M = z + 1 := ⟨M - 1, by omega⟩
      obtain rfl : k = n := by omega
      obtain ⟨t, ht, hq⟩ := he s hp
      refine ⟨t, ?_, hq⟩
      unfold lo
      rw [ht]
    | succ d ih =>
      intro k M s hk hM hp
      obtain ⟨M, rfl⟩ : ∃ z, M = z + 1 := ⟨M - 1, by omega⟩
      obtain ⟨s', hs', hp'⟩ := hs k s (by omega) hp
      unfold lo
      rw [hs']
      exact ih (k + 1) M s' (by omega) (by omega) hp'
  exact key n 0 N s0 (by omega) hn h0
/-- a loop that may end early -/
theorem lo_rex {b : σ → Option (σ ⊕ τ)} {P : Nat → σ → Prop} {Q : τ → Prop} {n N : Nat} {s0 : σ} (h0 : P 0 s0) (hs : ∀ k s, k < n → P k s → (∃ s', b s = some (.inl s') ∧ P (k + 1) s') ∨ ∃ t, b s = some (.inr t) ∧ Q t) (he : ∀ s, P n s → ∃ t, b s = some (.inr t) ∧ Q t) (hn : n < N) : ∃ t, lo b N s0 = some t ∧ Q t := by
  have key : ∀ (d k M : Nat) (s : σ), k + d = n → d < M → P k s → ∃ t, lo b M s = some t ∧ Q t := by
    intro d
    induction d with
    | zero =>
      intro k M s hk hM hp
      obtain ⟨M, rfl⟩ : ∃ z, M = z + 1 := ⟨M - 1, by omega⟩
      obtain rfl : k = n := by omega
      obtain ⟨t, ht, hq⟩ := he s hp
      refine ⟨t, ?_, hq⟩
      unfold lo
      rw [ht]
    | succ d ih =>
      intro k M s hk hM hp
      obtain ⟨M, rfl⟩ : ∃ z, M = z + 1 := ⟨M - 1, by omega⟩
      unfold lo
      rcases hs k s (by omega) hp with ⟨s', hs', hp'⟩ | ⟨t, ht, hq⟩
      · rw [hs']
        exact ih (k + 1) M s' (by omega) (by omega) hp'
      · rw [ht]
        exact ⟨t, rfl, hq⟩
  exact key n 0 N s0 (by omega) hn h0
end PS0
section PS
variable {m m0 M : me} {S S' : Nat → Int32} {B T : Nat} {v v1 v2 v3 : Int32}
theorem out_or {a b : Int32} : f_X11_isOutside v a b m = some (nI 0, m) ∨ f_X11_isOutside v a b m = some (nI 1, m) := by
  unfold f_X11_isOutside
  by_cases h1 : v < a
  · exact Or.inr (by rw [if_pos h1]; rfl)
  · by_cases h2 : v ≤ b
    · exact Or.inl (by rw [if_neg h1, if_pos h2]; rfl)
    · exact Or.inr (by rw [if_neg h1, if_neg h2]; rfl)
theorem sx {x y : Int32} (h : (some (x, m) : Option (Int32 × me)) = some (y, m)) : x = y := by
  injection h with h
  exact (Prod.mk.inj h).1
theorem fv_prio : ∃ c, c ≤ 2 ∧ f_X4_faultOfPriority v1 v2 m = some (nI c, m) := by
  unfold f_X4_faultOfPriority
  rcases out_or (m := m) (v := v1) (a := nI 0) (b := m.1 1 0 - nI 1) with e | e
  · rcases out_or (m := m) (v := v2) (a := nI 0) (b := nI 9) with e2 | e2
    · exact ⟨0, by decide, by simp only [L0, L1, L2, L3, L4, L5, L6, L7, L8, L9, L10, L11, L12, L13, L14, L15, L16, L17, L18, L19, L20, L21, L22, L23, L24, L25, L26, L27, L28, L29, L30, L31, L32, L47, L48, L50, L51, L57, L59, L90, L97, L100, L120, L122, L127, L179, L187, L199, L200, L487, L974, L1000, L1461, L10000, L18498, L1000000, bd_s, lt_d, gd_n, e, e2, if_true]⟩
    · exact ⟨2, by decide, by simp only [L0, L1, L2, L3, L4, L5, L6, L7, L8, L9, L10, L11, L12, L13, L14, L15, L16, L17, L18, L19, L20, L21, L22, L23, L24, L25, L26, L27, L28, L29, L30, L31, L32, L47, L48, L50, L51, L57, L59, L90, L97, L100, L120, L122, L127, L179, L187, L199, L200, L487, L974, L1000, L1461, L10000, L18498, L1000000, bd_s, lt_d, gd_n, e, e2, if_true, i10, if_false]⟩
  · exact ⟨1, by decide, by simp only [L0, L1, L2, L3, L4, L5, L6, L7, L8, L9, L10, L11, L12, L13, L14, L15, L16, L17, L18, L19, L20, L21, L22, L23, L24, L25, L26, L27, L28, L29, L30, L31, L32, L47, L48, L50, L51, L57, L59, L90, L97, L100, L120, L122, L127, L179, L187, L199, L200, L487, L974, L1000, L1461, L10000, L18498, L1000000, bd_s, lt_d, gd_n, e, i10, if_false]⟩
theorem fv_move : ∃ c, c ≤ 1 ∧ f_X4_faultOfMove v1 v2 m = some (nI c, m) := by
  unfold f_X4_faultOfMove j_X4_faultOfMove_28 j_X4_faultOfMove_29
  rcases out_or (m := m) (v := v1) (a := nI 0) (b := nI 7) with e | e
  · rcases out_or (m := m) (v := v2) (a := nI 0) (b := m.1 1 0 - nI 1) with e2 | e2
    · exact ⟨0, by decide, by simp only [L0, L1, L2, L3, L4, L5, L6, L7, L8, L9, L10, L11, L12, L13, L14, L15, L16, L17, L18, L19, L20, L21, L22, L23, L24, L25, L26, L27, L28, L29, L30, L31, L32, L47, L48, L50, L51, L57, L59, L90, L97, L100, L120, L122, L127, L179, L187, L199, L200, L487, L974, L1000, L1461, L10000, L18498, L1000000, bd_s, lt_d, gd_n, e, e2, if_true, i10, if_false]⟩
    · exact ⟨1, by decide, by simp only [L0, L1, L2, L3, L4, L5, L6, L7, L8, L9, L10, L11, L12, L13, L14, L15, L16, L17, L18, L19, L20, L21, L22, L23, L24, L25, L26, L27, L28, L29, L30, L31, L32, L47, L48, L50, L51, L57, L59, L90, L97, L100, L120, L122, L127, L179, L187, L199, L200, L487, L974, L1000, L1461, L10000, L18498, L1000000, bd_s, lt_d, gd_n, e, e2, if_true, i10, if_false]⟩
  · exact ⟨1, by decide, by simp only [L0, L1, L2, L3, L4, L5, L6, L7, L8, L9, L10, L11, L12, L13, L14, L15, L16, L17, L18, L19, L20, L21, L22, L23, L24, L25, L26, L27, L28, L29, L30, L31, L32, L47, L48, L50, L51, L57, L59, L90, L97, L100, L120, L122, L127, L179, L187, L199, L200, L487, L974, L1000, L1461, L10000, L18498, L1000000, bd_s, lt_d, gd_n, e, i10, if_false, if_true]⟩
theorem has_or : f_X3_has v m = some (nI 0, m) ∨ f_X3_has v m = some (nI 1, m) := by
  unfold f_X3_has
  by_cases h1 : v < 0
  · exact Or.inl (by rw [if_pos h1]; rfl)
  · by_cases h2 : m.1 11 0 ≤ v
    · exact Or.inl (by rw [if_neg h1, if_pos h2]; rfl)
    · exact Or.inr (by rw [if_neg h1, if_neg h2]; rfl)
theorem fv_bid : ∃ c, c ≤ 2 ∧ f_X4_faultOfBid v1 v2 v3 m = some (nI c, m) := by
  unfold f_X4_faultOfBid
  rcases out_or (m := m) (v := v1) (a := nI 0) (b := nI 3) with e | e
  · rcases has_or (m := m) (v := v2) with e2 | e2
    · exact ⟨1, by decide, by simp only [L0, L1, L2, L3, L4, L5, L6, L7, L8, L9, L10, L11, L12, L13, L14, L15, L16, L17, L18, L19, L20, L21, L22, L23, L24, L25, L26, L27, L28, L29, L30, L31, L32, L47, L48, L50, L51, L57, L59, L90, L97, L100, L120, L122, L127, L179, L187, L199, L200, L487, L974, L1000, L1461, L10000, L18498, L1000000, bd_s, lt_d, gd_n, e, e2, if_true, i10, if_false]⟩
    · rcases out_or (m := m) (v := v3) (a := nI 0) (b := nI 1000) with e3 | e3
      · exact ⟨0, by decide, by simp only [L0, L1, L2, L3, L4, L5, L6, L7, L8, L9, L10, L11, L12, L13, L14, L15, L16, L17, L18, L19, L20, L21, L22, L23, L24, L25, L26, L27, L28, L29, L30, L31, L32, L47, L48, L50, L51, L57, L59, L90, L97, L100, L120, L122, L127, L179, L187, L199, L200, L487, L974, L1000, L1461, L10000, L18498, L1000000, bd_s, lt_d, gd_n, e, e2, e3, if_true, i10, if_false]⟩
      · exact ⟨2, by decide, by simp only [L0, L1, L2, L3, L4, L5, L6, L7, L8, L9, L10, L11, L12, L13, L14, L15, L16, L17, L18, L19, L20, L21, L22, L23, L24, L25, L26, L27, L28, L29, L30, L31, L32, L47, L48, L50, L51, L57, L59, L90, L97, L100, L120, L122, L127, L179, L187, L199, L200, L487, L974, L1000, L1461, L10000, L18498, L1000000, bd_s, lt_d, gd_n, e, e2, e3, if_true, i10, if_false]⟩
  · exact ⟨1, by decide, by simp only [L0, L1, L2, L3, L4, L5, L6, L7, L8, L9, L10, L11, L12, L13, L14, L15, L16, L17, L18, L19, L20, L21, L22, L23, L24, L25, L26, L27, L28, L29, L30, L31, L32, L47, L48, L50, L51, L57, L59, L90, L97, L100, L120, L122, L127, L179, L187, L199, L200, L487, L974, L1000, L1461, L10000, L18498, L1000000, bd_s, lt_d, gd_n, e, i10, if_false, if_true]⟩
theorem op_setPriority (h : Inv m) (v1 v2 : Int32) : OPv (f_X11_setPriority v1 v2) (f_X12_setPriority v1 v2) cdIA m := by
  refine op_cmd h (cmd_prio h.1 v1 v2) (fun c c1 c2 hc => ?_)
  have : c = 1 ∨ c = 2 ∨ c = 3 := by omega
  rcases this with rfl | rfl | rfl
  · exact ⟨rfl, by decide, by decide⟩
  · exact ⟨rfl, by decide, by decide⟩
  · exfalso
    have h1 := hc m h.2.1
    obtain ⟨c, k1, k2⟩ := fv_prio (m := m) (v1 := v1) (v2 := v2)
    rw [k2] at h1
    have := sx h1
    rw [nI_eqs (by omega) (by omega)] at this
    omega
theorem op_addLink (h : Inv m) (v1 v2 v3 : Int32) : OPv (f_X11_addLink v1 v2 v3) (f_X12_addLink v1 v2 v3) cdIAS m := by
  refine op_cmd h (cmd_join h.1 v1 v2 v3) (fun c c1 c2 hc => ?_)
  have : c = 1 ∨ c = 2 ∨ c = 3 := by omega
  rcases this with rfl | rfl | rfl <;> exact ⟨rfl, by decide, by decide⟩
theorem op_moveHost (h : Inv m) (v1 v2 : Int32) : OPv (f_X11_moveHost v1 v2) (f_X12_moveHost v1 v2) cdI m := by
  refine op_cmd h (cmd_move h.1 v1 v2) (fun c c1 c2 hc => ?_)
  obtain ⟨d, k1, k2⟩ := fv_move (m := m) (v1 := v1) (v2 := v2)
  have h1 := hc m h.2.1
  rw [k2] at h1
  have := sx h1
  rw [nI_eqs (by omega) (by omega)] at this
  obtain rfl : c = 1 := by omega
  exact ⟨rfl, by decide, by decide⟩
theorem op_bid (h : Inv m) (v1 v2 v3 : Int32) : OPv (f_X11_bid v1 v2 v3) (f_X12_bid v1 v2 v3) cdIA m := by
  refine op_cmd h (cmd_bid h.1 v1 v2 v3) (fun c c1 c2 hc => ?_)
  obtain ⟨d, k1, k2⟩ := fv_bid (m := m) (v1 := v1) (v2 := v2) (v3 := v3)
  have h1 := hc m h.2.1
  rw [k2] at h1
  have := sx h1
  rw [nI_eqs (by omega) (by omega)] at this
  have : c = 1 ∨ c = 2 := by omega
  rcases this with rfl | rfl <;> exact ⟨rfl, by decide, by decide⟩
theorem sw_no2 (hF : WF S) (hR : RN m 1 S) {u : Int32} (h : f_X4_faultOfSwitch v u m = some (nI 2, m)) : False := by
  obtain ⟨B, T, hW⟩ := hF
  have w3 := hW.2.2.2.1
  have w4 := hW.2.2.2.2.1
  rcases rngT v T (by omega) with ⟨l, hl, rfl⟩ | hv
  · rw [y_fsw hR w3 w4 hl] at h
    have := sx h
    split at this
    · exact absurd this (by decide)
    · exact absurd this (by decide)
  · rw [y_fsw_n ((rd_total hR).trans w3) hv] at h
    exact absurd (sx h) (by decide)
theorem op_fail (h : Inv m) (v : Int32) : OPv (f_X11_fail v) (f_X12_fail v) cdIS m := by
  refine op_cmd h (cmd_fail h.1 v) (fun c c1 c2 hc => ?_)
  have : c = 1 ∨ c = 2 ∨ c = 3 := by omega
  rcases this with rfl | rfl | rfl
  · exact ⟨rfl, by decide, by decide⟩
  · exact (sw_no2 h.1 h.2.1 (hc m h.2.1)).elim
  · exact ⟨rfl, by decide, by decide⟩
theorem op_fix (h : Inv m) (v : Int32) : OPv (f_X11_fix v) (f_X12_fix v) cdIS m := by
  refine op_cmd h (cmd_fix h.1 v) (fun c c1 c2 hc => ?_)
  have : c = 1 ∨ c = 2 ∨ c = 3 := by omega
  rcases this with rfl | rfl | rfl
  · exact ⟨rfl, by decide, by decide⟩
  · exact (sw_no2 h.1 h.2.1 (hc m h.2.1)).elim
  · exact ⟨rfl, by decide, by decide⟩
theorem MH.of : MH S S' M (sR (sR M 131 (mx 487 S (M.1 131))) 129 S') := by
  refine ⟨sR_get, by rw [sR_ne (by decide), sR_get], by rw [sR_ne (by decide), sR_ne (by decide)], by rw [sR_ne (by decide), sR_ne (by decide)], fun q hq => by rw [sR_ne (by omega), sR_ne (by omega)], rfl⟩
theorem WT.times {a b c : Nat} (hW : WT B T S) (ha : 1 ≤ a ∧ a ≤ 20) (hb : 5 ≤ b ∧ b ≤ 100) (hc : c ≤ 100) : WT B T (upd (upd (upd S 2 (nI a)) 3 (nI b)) 4 (nI c)) := by
  have e : ∀ i, i ≠ 2 → i ≠ 3 → i ≠ 4 → upd (upd (upd S 2 (nI a)) 3 (nI b)) 4 (nI c) i = S i := fun i h2 h3 h4 => by rw [upd_n h4, upd_n h3, upd_n h2]
  obtain ⟨g1, g2, g3, g4, g5, g6, g7, g8, g9, g10, g11⟩ := hW
  refine ⟨by rw [e 0 (by omega) (by omega) (by omega)]; exact g1, g2, g3, by rw [e 5 (by omega) (by omega) (by omega)]; exact g4, g5, ⟨a, by rw [upd_n (by omega), upd_n (by omega), upd_e], ha.1, ha.2⟩, ⟨b, by rw [upd_n (by omega), upd_e], hb.1, hb.2⟩, ⟨c, upd_e, hc⟩, fun h hh => by rw [e _ (by omega) (by omega) (by omega)]; exact g9 h hh, fun l hl => ?_, fun b h hb hh => ?_⟩
  · obtain ⟨x, y, g⟩ := g10 l hl
    refine ⟨x, y, ?_⟩
    rw [e _ (by omega) (by omega) (by omega), e _ (by omega) (by omega) (by omega), e _ (by omega) (by omega) (by omega), e _ (by omega) (by omega) (by omega), e _ (by omega) (by omega) (by omega), e _ (by omega) (by omega) (by omega), e _ (by omega) (by omega) (by omega), e _ (by omega) (by omega) (by omega), e _ (by omega) (by omega) (by omega), e _ (by omega) (by omega) (by omega)]
    obtain ⟨k1, k2, k3, k4, k5, k6, k7, k8, k9, k10, k11, k12, k13⟩ := g
    exact ⟨k1, k2, k3, k4, k5, k6, k7, k8, k9, k10, k11, k12, fun t ht => by rw [e _ (by omega) (by omega) (by omega)]; exact k13 t ht⟩
  · have g := g11 b h hb hh
    unfold VI at g ⊢
    rw [e _ (by omega) (by omega) (by omega)]
    rcases g with g | g | ⟨l, hl, k1, k2⟩
    · exact Or.inl g
    · exact Or.inr (Or.inl g)
    · exact Or.inr (Or.inr ⟨l, hl, k1, by rw [e _ (by omega) (by omega) (by omega), e _ (by omega) (by omega) (by omega)]; exact k2⟩)
theorem op_setTimes (h : Inv m) (v1 v2 v3 : Int32) : OPv (f_X11_setTimes v1 v2 v3) (f_X12_setTimes v1 v2 v3) cdA m := by
  obtain ⟨⟨B, T, hW⟩, hR, -⟩ := id h
  by_cases h1 : v1 < nI 1 ∨ nI 20 < v1
  · refine op_th h (e := 1) (c := nI 1) (b := nI 0) ?_ rfl (by decide) ?_
    · unfold f_X11_setTimes
      simp (disch := omega) only [L0, L1, L2, L3, L4, L5, L6, L7, L8, L9, L10, L11, L12, L13, L14, L15, L16, L17, L18, L19, L20, L21, L22, L23, L24, L25, L26, L27, L28, L29, L30, L31, L32, L47, L48, L50, L51, L57, L59, L90, L97, L100, L120, L122, L127, L179, L187, L199, L200, L487, L974, L1000, L1461, L10000, L18498, L1000000, bd_s, lt_d, gd_n, y_out_y h1, i10, if_false]
    · unfold f_X12_setTimes j_X12_setTimes_30
      simp (disch := omega) only [L0, L1, L2, L3, L4, L5, L6, L7, L8, L9, L10, L11, L12, L13, L14, L15, L16, L17, L18, L19, L20, L21, L22, L23, L24, L25, L26, L27, L28, L29, L30, L31, L32, L47, L48, L50, L51, L57, L59, L90, L97, L100, L120, L122, L127, L179, L187, L199, L200, L487, L974, L1000, L1461, L10000, L18498, L1000000, bd_s, lt_d, gd_n, x_in_n h1, if_true, x_fails]
  · obtain ⟨a, ha1, ha2, rfl⟩ := (rng v1 1 20 (by decide) (by decide)).resolve_right h1
    by_cases h2 : v2 < nI 5 ∨ nI 100 < v2
    · refine op_th h (e := 1) (c := nI 1) (b := nI 0) ?_ rfl (by decide) ?_
      · unfold f_X11_setTimes
        simp (disch := omega) only [L0, L1, L2, L3, L4, L5, L6, L7, L8, L9, L10, L11, L12, L13, L14, L15, L16, L17, L18, L19, L20, L21, L22, L23, L24, L25, L26, L27, L28, L29, L30, L31, L32, L47, L48, L50, L51, L57, L59, L90, L97, L100, L120, L122, L127, L179, L187, L199, L200, L487, L974, L1000, L1461, L10000, L18498, L1000000, bd_s, lt_d, gd_n, y_out_n, y_out_y h2, i10, if_false, if_true]
      · unfold f_X12_setTimes j_X12_setTimes_30
        simp (disch := omega) only [L0, L1, L2, L3, L4, L5, L6, L7, L8, L9, L10, L11, L12, L13, L14, L15, L16, L17, L18, L19, L20, L21, L22, L23, L24, L25, L26, L27, L28, L29, L30, L31, L32, L47, L48, L50, L51, L57, L59, L90, L97, L100, L120, L122, L127, L179, L187, L199, L200, L487, L974, L1000, L1461, L10000, L18498, L1000000, bd_s, lt_d, gd_n, x_inn, x_in_n h2, i10, if_false, if_true, x_fails]
    · obtain ⟨b, hb1, hb2, rfl⟩ := (rng v2 5 100 (by decide) (by decide)).resolve_right h2
      by_cases h3 : v3 < nI 0 ∨ nI 100 < v3
      · refine op_th h (e := 1) (c := nI 1) (b := nI 0) ?_ rfl (by decide) ?_
        · unfold f_X11_setTimes
          simp (disch := omega) only [L0, L1, L2, L3, L4, L5, L6, L7, L8, L9, L10, L11, L12, L13, L14, L15, L16, L17, L18, L19, L20, L21, L22, L23, L24, L25, L26, L27, L28, L29, L30, L31, L32, L47, L48, L50, L51, L57, L59, L90, L97, L100, L120, L122, L127, L179, L187, L199, L200, L487, L974, L1000, L1461, L10000, L18498, L1000000, bd_s, lt_d, gd_n, y_out_n, y_out_y h3, i10, if_false, if_true]
        · unfold f_X12_setTimes j_X12_setTimes_30
          simp (disch := omega) only [L0, L1, L2, L3, L4, L5, L6, L7, L8, L9, L10, L11, L12, L13, L14, L15, L16, L17, L18, L19, L20, L21, L22, L23, L24, L25, L26, L27, L28, L29, L30, L31, L32, L47, L48, L50, L51, L57, L59, L90, L97, L100, L120, L122, L127, L179, L187, L199, L200, L487, L974, L1000, L1461, L10000, L18498, L1000000, bd_s, lt_d, gd_n, x_inn, x_in_n h3, i10, if_false, if_true, x_fails]
      · obtain ⟨c, hc1, hc2, rfl⟩ := (rng v3 0 100 (by decide) (by decide)).resolve_right h3
        refine op_mut (v := m.1 129 3) (S' := upd (upd (upd (m.1 129) 2 (nI a)) 3 (nI b)) 4 (nI c)) h ⟨B, T, hW.times ⟨ha1, ha2⟩ ⟨hb1, hb2⟩ hc2⟩ (fun ms e1 e2 => ?_) (fun M hM => ?_)
        · refine ⟨_, ?_, Cl_hyst (Cl_intv (Cl_delay (Cl.rf e2) rfl) rfl) rfl⟩
          unfold f_X11_setTimes
          simp (disch := omega) only [L0, L1, L2, L3, L4, L5, L6, L7, L8, L9, L10, L11, L12, L13, L14, L15, L16, L17, L18, L19, L20, L21, L22, L23, L24, L25, L26, L27, L28, L29, L30, L31, L32, L47, L48, L50, L51, L57, L59, L90, L97, L100, L120, L122, L127, L179, L187, L199, L200, L487, L974, L1000, L1461, L10000, L18498, L1000000, bd_s, lt_d, gd_n, y_out_n, if_true, e1, rd_intv e2]
        · refine ⟨_, MH.of, ?_⟩
          unfold f_X12_setTimes
          simp (disch := omega) only [L0, L1, L2, L3, L4, L5, L6, L7, L8, L9, L10, L11, L12, L13, L14, L15, L16, L17, L18, L19, L20, L21, L22, L23, L24, L25, L26, L27, L28, L29, L30, L31, L32, L47, L48, L50, L51, L57, L59, L90, L97, L100, L120, L122, L127, L179, L187, L199, L200, L487, L974, L1000, L1461, L10000, L18498, L1000000, bd_s, lt_d, gd_n, x_inn, i10, if_false, x_hold, wI_sR, sR_get, sR_sR, sR_ne, hM]
theorem op_grant (h : Inv m) (v1 v2 : Int32) : OPv (f_X11_grant v1 v2) (f_X12_grant v1 v2) cdIAS m := by
  obtain ⟨⟨B, T, hW⟩, hR, -⟩ := id h
  by_cases h1 : v1 < nI 0 ∨ nI 3 < v1
  · refine op_th h (e := 0) (c := nI 1) (b := nI 0) ?_ rfl (by decide) ?_
    · unfold f_X11_grant
      simp (disch := omega) only [L0, L1, L2, L3, L4, L5, L6, L7, L8, L9, L10, L11, L12, L13, L14, L15, L16, L17, L18, L19, L20, L21, L22, L23, L24, L25, L26, L27, L28, L29, L30, L31, L32, L47, L48, L50, L51, L57, L59, L90, L97, L100, L120, L122, L127, L179, L187, L199, L200, L487, L974, L1000, L1461, L10000, L18498, L1000000, bd_s, lt_d, gd_n, y_out_y h1, i10, if_false]
    · unfold f_X12_grant
      simp (disch := omega) only [L0, L1, L2, L3, L4, L5, L6, L7, L8, L9, L10, L11, L12, L13, L14, L15, L16, L17, L18, L19, L20, L21, L22, L23, L24, L25, L26, L27, L28, L29, L30, L31, L32, L47, L48, L50, L51, L57, L59, L90, L97, L100, L120, L122, L127, L179, L187, L199, L200, L487, L974, L1000, L1461, L10000, L18498, L1000000, bd_s, lt_d, gd_n, x_isTenant_n h1, if_true, x_fails]
  · obtain ⟨t, ht1, ht, rfl⟩ := (rng v1 0 3 (by decide) (by decide)).resolve_right h1
    have ht4 : t < 4 := by omega
    by_cases h2 : v2 < nI 0 ∨ nI 10000 < v2
    · refine op_th h (e := 1) (c := nI 2) (b := nI 0) ?_ rfl (by decide) ?_
      · unfold f_X11_grant
        simp (disch := omega) only [L0, L1, L2, L3, L4, L5, L6, L7, L8, L9, L10, L11, L12, L13, L14, L15, L16, L17, L18, L19, L20, L21, L22, L23, L24, L25, L26, L27, L28, L29, L30, L31, L32, L47, L48, L50, L51, L57, L59, L90, L97, L100, L120, L122, L127, L179, L187, L199, L200, L487, L974, L1000, L1461, L10000, L18498, L1000000, bd_s, lt_d, gd_n, y_out_n, y_out_y h2, i10, if_false, if_true]
      · unfold f_X12_grant
        simp (disch := omega) only [L0, L1, L2, L3, L4, L5, L6, L7, L8, L9, L10, L11, L12, L13, L14, L15, L16, L17, L18, L19, L20, L21, L22, L23, L24, L25, L26, L27, L28, L29, L30, L31, L32, L47, L48, L50, L51, L57, L59, L90, L97, L100, L120, L122, L127, L179, L187, L199, L200, L487, L974, L1000, L1461, L10000, L18498, L1000000, bd_s, lt_d, gd_n, x_isTenant_y, x_in_n h2, i10, if_false, if_true, x_fails]
    · obtain ⟨d, -, hd, rfl⟩ := (rng v2 0 10000 (by decide) (by decide)).resolve_right h2
      by_cases h3 : m.1 129 (187 + 3 * t) + nI d ≤ nI 1000000
      · refine op_mut (v := m.1 129 (187 + 3 * t) + nI d) (S' := upd (m.1 129) (187 + 3 * t) (m.1 129 (187 + 3 * t) + nI d)) h ⟨B, T, hW.cg (fun i hi => by unfold wx at hi; exact upd_n (by omega))⟩ (fun ms e1 e2 => ?_) (fun M hM => ?_)
        · refine ⟨_, ?_, Cl_cred (Cl.rf e2) ht4 rfl⟩
          unfold f_X11_grant
          simp (disch := omega) only [L0, L1, L2, L3, L4, L5, L6, L7, L8, L9, L10, L11, L12, L13, L14, L15, L16, L17, L18, L19, L20, L21, L22, L23, L24, L25, L26, L27, L28, L29, L30, L31, L32, L47, L48, L50, L51, L57, L59, L90, L97, L100, L120, L122, L127, L179, L187, L199, L200, L487, L974, L1000, L1461, L10000, L18498, L1000000, nI_add, pk_mul, nI_cl, nI_lts, nI_les, nI_eqs, Ln1, n1_ne, n1_ne', n1_lts, nI_ltn, n1_les, nI_len, bd_s, lt_d, gd_n, y_out_n, if_true, e1, rd_cred hR ht4, rd_cred e2 ht4, h3, wI_sR, sR_get, upd_e]
        · refine ⟨_, MH.of, ?_⟩
          unfold f_X12_grant
          simp (disch := omega) only [L0, L1, L2, L3, L4, L5, L6, L7, L8, L9, L10, L11, L12, L13, L14, L15, L16, L17, L18, L19, L20, L21, L22, L23, L24, L25, L26, L27, L28, L29, L30, L31, L32, L47, L48, L50, L51, L57, L59, L90, L97, L100, L120, L122, L127, L179, L187, L199, L200, L487, L974, L1000, L1461, L10000, L18498, L1000000, nI_add, pk_mul, nI_cl, nI_lts, nI_les, nI_eqs, Ln1, n1_ne, n1_ne', n1_lts, nI_ltn, n1_les, nI_len, bd_s, lt_d, gd_n, x_isTenant_y, x_inn, i10, if_false, if_true, x_hold, wI_sR, sR_get, sR_sR, sR_ne, hM, h3, upd_e, Nat.one_ne_zero]
      · refine op_th h (e := 2) (c := nI 3) (b := nI 0) ?_ rfl (by decide) ?_
        · unfold f_X11_grant
          simp (disch := omega) only [L0, L1, L2, L3, L4, L5, L6, L7, L8, L9, L10, L11, L12, L13, L14, L15, L16, L17, L18, L19, L20, L21, L22, L23, L24, L25, L26, L27, L28, L29, L30, L31, L32, L47, L48, L50, L51, L57, L59, L90, L97, L100, L120, L122, L127, L179, L187, L199, L200, L487, L974, L1000, L1461, L10000, L18498, L1000000, nI_add, pk_mul, nI_cl, nI_lts, nI_les, nI_eqs, Ln1, n1_ne, n1_ne', n1_lts, nI_ltn, n1_les, nI_len, bd_s, lt_d, gd_n, y_out_n, if_true, rd_cred hR ht4, h3, if_false]
        · unfold f_X12_grant
          simp (disch := omega) only [L0, L1, L2, L3, L4, L5, L6, L7, L8, L9, L10, L11, L12, L13, L14, L15, L16, L17, L18, L19, L20, L21, L22, L23, L24, L25, L26, L27, L28, L29, L30, L31, L32, L47, L48, L50, L51, L57, L59, L90, L97, L100, L120, L122, L127, L179, L187, L199, L200, L487, L974, L1000, L1461, L10000, L18498, L1000000, nI_add, pk_mul, nI_cl, nI_lts, nI_les, nI_eqs, Ln1, n1_ne, n1_ne', n1_lts, nI_ltn, n1_les, nI_len, bd_s, lt_d, gd_n, x_isTenant_y, x_inn, i10, if_false, if_true, h3, x_fails, Nat.one_ne_zero]
end PS
