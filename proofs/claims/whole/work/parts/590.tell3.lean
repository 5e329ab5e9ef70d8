/-! Tenants, bids, the script's bytes, undo. -/
section PT3
variable {m : me} {S : Nat → Int32} {B T : Nat}
def wonB (S : Nat → Int32) (t l : Nat) : Bool := decide (S (199 + 18 * l + 5) = nI t)
theorem x_won {t : Nat} (hT : T ≤ 16) (h5 : m.1 129 5 = nI T) : f_X12_won (nI t) m = some (nI (cnt (wonB (m.1 129) t) T), m) := by
  unfold f_X12_won
  have h := lo_gen (b := b_X12_won_4 (nI t)) (fun k => (nI (cnt (wonB (m.1 129) t) k), nI k, m)) T (nI (cnt (wonB (m.1 129) t) T), nI T, m) (fun k hk => by
    unfold b_X12_won_4
    have : ¬ T ≤ k := by omega
    simp (disch := omega) only [L0, L1, L2, L3, L4, L5, L6, L7, L8, L9, L10, L11, L12, L13, L14, L15, L16, L17, L18, L19, L20, L21, L22, L23, L24, L25, L26, L27, L28, L29, L30, L31, L32, L47, L48, L50, L51, L57, L59, L90, L97, L100, L120, L122, L127, L179, L187, L199, L200, L487, L974, L1000, L1461, L10000, L18498, L1000000, nI_add, pk_mul, nI_cl, nI_lts, nI_les, nI_eqs, Ln1, n1_ne, n1_ne', n1_lts, nI_ltn, n1_les, nI_len, bd_s, lt_d, gd_n, h5, if_neg this, x_of]
    by_cases h1 : m.1 129 (199 + 18 * k + 5) = nI t
    · have e : wonB (m.1 129) t k = true := decide_eq_true h1
      rw [ifp h1, cnt_t e]
    · have e : wonB (m.1 129) t k = false := decide_eq_false h1
      rw [ifn h1, cnt_f e, Nat.add_zero]) (by
    unfold b_X12_won_4
    simp (disch := omega) only [L0, L1, L2, L3, L4, L5, L6, L7, L8, L9, L10, L11, L12, L13, L14, L15, L16, L17, L18, L19, L20, L21, L22, L23, L24, L25, L26, L27, L28, L29, L30, L31, L32, L47, L48, L50, L51, L57, L59, L90, L97, L100, L120, L122, L127, L179, L187, L199, L200, L487, L974, L1000, L1461, L10000, L18498, L1000000, nI_add, pk_mul, nI_cl, nI_lts, nI_les, nI_eqs, Ln1, n1_ne, n1_ne', n1_lts, nI_ltn, n1_les, nI_len, bd_s, lt_d, gd_n, h5, if_true, Nat.le_refl]) (N := 2048) (by omega)
  simp only [cnt] at h
  simp only [L0, L1, L2, L3, L4, L5, L6, L7, L8, L9, L10, L11, L12, L13, L14, L15, L16, L17, L18, L19, L20, L21, L22, L23, L24, L25, L26, L27, L28, L29, L30, L31, L32, L47, L48, L50, L51, L57, L59, L90, L97, L100, L120, L122, L127, L179, L187, L199, L200, L487, L974, L1000, L1461, L10000, L18498, L1000000, h, bd_s]
theorem y_won {t : Nat} (hR : RN m 1 S) (hT : T ≤ 16) (h5 : S 5 = nI T) : f_X3_countWonBy (nI t) m = some (nI (cnt (wonB S t) T), m) := by
  have e5 := (rd_total hR).trans h5
  unfold f_X3_countWonBy
  have h := lo_gen (b := b_X3_countWonBy_4 (nI t)) (fun k => (nI (cnt (wonB S t) k), nI k, m)) T (nI (cnt (wonB S t) T), nI T, m) (fun k hk => by
    unfold b_X3_countWonBy_4
    have : ¬ T ≤ k := by omega
    simp (disch := omega) only [L0, L1, L2, L3, L4, L5, L6, L7, L8, L9, L10, L11, L12, L13, L14, L15, L16, L17, L18, L19, L20, L21, L22, L23, L24, L25, L26, L27, L28, L29, L30, L31, L32, L47, L48, L50, L51, L57, L59, L90, L97, L100, L120, L122, L127, L179, L187, L199, L200, L487, L974, L1000, L1461, L10000, L18498, L1000000, nI_add, pk_mul, nI_cl, nI_lts, nI_les, nI_eqs, Ln1, n1_ne, n1_ne', n1_lts, nI_ltn, n1_les, nI_len, bd_s, lt_d, gd_n, e5, if_neg this, rd_win hR h5 hT hk]
    by_cases h1 : S (199 + 18 * k + 5) = nI t
    · have e : wonB S t k = true := decide_eq_true h1
      rw [ifp h1, cnt_t e]
    · have e : wonB S t k = false := decide_eq_false h1
      rw [ifn h1, cnt_f e]) (by
    unfold b_X3_countWonBy_4
    simp (disch := omega) only [L0, L1, L2, L3, L4, L5, L6, L7, L8, L9, L10, L11, L12, L13, L14, L15, L16, L17, L18, L19, L20, L21, L22, L23, L24, L25, L26, L27, L28, L29, L30, L31, L32, L47, L48, L50, L51, L57, L59, L90, L97, L100, L120, L122, L127, L179, L187, L199, L200, L487, L974, L1000, L1461, L10000, L18498, L1000000, nI_add, pk_mul, nI_cl, nI_lts, nI_les, nI_eqs, Ln1, n1_ne, n1_ne', n1_lts, nI_ltn, n1_les, nI_len, bd_s, lt_d, gd_n, e5, if_true, Nat.le_refl]) (N := 2048) (by omega)
  simp only [cnt] at h
  simp only [L0, L1, L2, L3, L4, L5, L6, L7, L8, L9, L10, L11, L12, L13, L14, L15, L16, L17, L18, L19, L20, L21, L22, L23, L24, L25, L26, L27, L28, L29, L30, L31, L32, L47, L48, L50, L51, L57, L59, L90, L97, L100, L120, L122, L127, L179, L187, L199, L200, L487, L974, L1000, L1461, L10000, L18498, L1000000, h, bd_s]
/-- the values of a tenant -/
def tv (S : Nat → Int32) (T t w : Nat) : Int32 := if w = 1 then nI (cnt (wonB S t) T) else if w = 0 then S (187 + 3 * t) else S (187 + 3 * t + (w - 1))
theorem x_tenantValue {t w : Nat} (ht : t ≤ 3) (hw : w ≤ 3) (hT : T ≤ 16) (h5 : m.1 129 5 = nI T) : f_X12_tenantValue (nI t) (nI w) m = some (tv (m.1 129) T t w, m) := by
  unfold f_X12_tenantValue tv
  have : w = 0 ∨ w = 1 ∨ w = 2 ∨ w = 3 := by omega
  rcases this with rfl | rfl | rfl | rfl <;> simp (disch := omega) only [L0, L1, L2, L3, L4, L5, L6, L7, L8, L9, L10, L11, L12, L13, L14, L15, L16, L17, L18, L19, L20, L21, L22, L23, L24, L25, L26, L27, L28, L29, L30, L31, L32, L47, L48, L50, L51, L57, L59, L90, L97, L100, L120, L122, L127, L179, L187, L199, L200, L487, L974, L1000, L1461, L10000, L18498, L1000000, nI_add, pk_mul, nI_cl, nI_lts, nI_les, nI_eqs, Ln1, n1_ne, n1_ne', n1_lts, nI_ltn, n1_les, nI_len, bd_s, lt_d, gd_n, x_won hT h5, nI_sbs, reduceIte, Nat.reduceEqDiff, Nat.succ_ne_zero, Nat.add_zero, Nat.one_ne_zero, Nat.succ_ne_self, Nat.zero_ne_one, Nat.reduceSub]
theorem op_tenant (h : Inv m) (v1 v2 : Int32) : OPv (f_X11_tenant v1 v2) (f_X12_tenant v1 v2) cdIA m := by
  obtain ⟨⟨B, T, hW⟩, hR, -⟩ := id h
  have w3 := hW.2.2.2.1
  have w4 := hW.2.2.2.2.1
  rcases rng v1 0 3 (by decide) (by decide) with ⟨t, -, ht, rfl⟩ | hv1
  · rcases rng v2 0 3 (by decide) (by decide) with ⟨w, -, hw, rfl⟩ | hv2
    · refine op_ro h (v := tv (m.1 129) T t w) ?_ (fun x => ?_)
      · unfold f_X11_tenant tv
        have ht4 : t < 4 := by omega
        have : w = 0 ∨ w = 1 ∨ w = 2 ∨ w = 3 := by omega
        rcases this with rfl | rfl | rfl | rfl <;> simp (disch := omega) only [L0, L1, L2, L3, L4, L5, L6, L7, L8, L9, L10, L11, L12, L13, L14, L15, L16, L17, L18, L19, L20, L21, L22, L23, L24, L25, L26, L27, L28, L29, L30, L31, L32, L47, L48, L50, L51, L57, L59, L90, L97, L100, L120, L122, L127, L179, L187, L199, L200, L487, L974, L1000, L1461, L10000, L18498, L1000000, nI_add, pk_mul, nI_cl, nI_lts, nI_les, nI_eqs, Ln1, n1_ne, n1_ne', n1_lts, nI_ltn, n1_les, nI_len, bd_s, lt_d, gd_n, y_out_n, if_true, y_won hR w4 w3, rd_cred hR ht4, rd_paid hR ht4, rd_rfd hR ht4, reduceIte, Nat.reduceEqDiff, Nat.succ_ne_zero, Nat.add_zero, Nat.one_ne_zero, Nat.succ_ne_self, Nat.zero_ne_one, Nat.reduceSub]
      · unfold f_X12_tenant
        simp (disch := omega) only [L0, L1, L2, L3, L4, L5, L6, L7, L8, L9, L10, L11, L12, L13, L14, L15, L16, L17, L18, L19, L20, L21, L22, L23, L24, L25, L26, L27, L28, L29, L30, L31, L32, L47, L48, L50, L51, L57, L59, L90, L97, L100, L120, L122, L127, L179, L187, L199, L200, L487, L974, L1000, L1461, L10000, L18498, L1000000, bd_s, lt_d, gd_n, x_isTenant_y, i10, if_false, x_inn, x_tenantValue (m := wJ m 137 0 x) ht hw w4 w3, x_tells]
        rfl
    · refine op_th h (e := 1) (c := nI 2) (b := nI 0) ?_ rfl (by decide) ?_
      · unfold f_X11_tenant
        simp (disch := omega) only [L0, L1, L2, L3, L4, L5, L6, L7, L8, L9, L10, L11, L12, L13, L14, L15, L16, L17, L18, L19, L20, L21, L22, L23, L24, L25, L26, L27, L28, L29, L30, L31, L32, L47, L48, L50, L51, L57, L59, L90, L97, L100, L120, L122, L127, L179, L187, L199, L200, L487, L974, L1000, L1461, L10000, L18498, L1000000, bd_s, lt_d, gd_n, y_out_n, y_out_y hv2, if_true, i10, if_false]
      · unfold f_X12_tenant
        simp (disch := omega) only [L0, L1, L2, L3, L4, L5, L6, L7, L8, L9, L10, L11, L12, L13, L14, L15, L16, L17, L18, L19, L20, L21, L22, L23, L24, L25, L26, L27, L28, L29, L30, L31, L32, L47, L48, L50, L51, L57, L59, L90, L97, L100, L120, L122, L127, L179, L187, L199, L200, L487, L974, L1000, L1461, L10000, L18498, L1000000, bd_s, lt_d, gd_n, x_isTenant_y, i10, if_false, x_in_n hv2, if_true, x_fails]
  · refine op_th h (e := 0) (c := nI 1) (b := nI 0) ?_ rfl (by decide) ?_
    · unfold f_X11_tenant
      simp (disch := omega) only [L0, L1, L2, L3, L4, L5, L6, L7, L8, L9, L10, L11, L12, L13, L14, L15, L16, L17, L18, L19, L20, L21, L22, L23, L24, L25, L26, L27, L28, L29, L30, L31, L32, L47, L48, L50, L51, L57, L59, L90, L97, L100, L120, L122, L127, L179, L187, L199, L200, L487, L974, L1000, L1461, L10000, L18498, L1000000, bd_s, lt_d, gd_n, y_out_y hv1, i10, if_false]
    · unfold f_X12_tenant
      simp (disch := omega) only [L0, L1, L2, L3, L4, L5, L6, L7, L8, L9, L10, L11, L12, L13, L14, L15, L16, L17, L18, L19, L20, L21, L22, L23, L24, L25, L26, L27, L28, L29, L30, L31, L32, L47, L48, L50, L51, L57, L59, L90, L97, L100, L120, L122, L127, L179, L187, L199, L200, L487, L974, L1000, L1461, L10000, L18498, L1000000, bd_s, lt_d, gd_n, x_isTenant_n hv1, if_true, x_fails]
theorem y_faultOfBid_y {t l d : Nat} (e5 : m.1 11 0 = nI T) (hT : T ≤ 16) (ht : t ≤ 3) (hl : l < T) (hd : d ≤ 1000) : f_X4_faultOfBid (nI t) (nI l) (nI d) m = some (nI 0, m) := by
  unfold f_X4_faultOfBid
  simp (disch := omega) only [L0, L1, L2, L3, L4, L5, L6, L7, L8, L9, L10, L11, L12, L13, L14, L15, L16, L17, L18, L19, L20, L21, L22, L23, L24, L25, L26, L27, L28, L29, L30, L31, L32, L47, L48, L50, L51, L57, L59, L90, L97, L100, L120, L122, L127, L179, L187, L199, L200, L487, L974, L1000, L1461, L10000, L18498, L1000000, bd_s, lt_d, gd_n, y_out_n, y_has_y hl hT e5, i10, if_false, if_true]
theorem y_faultOfBid_n {v1 v2 v3 : Int32} (e5 : m.1 11 0 = nI T) (hT : T ≤ 16) (h : (v1 < nI 0 ∨ nI 3 < v1) ∨ (v2 < nI 0 ∨ nI T ≤ v2)) : f_X4_faultOfBid v1 v2 v3 m = some (nI 1, m) := by
  unfold f_X4_faultOfBid
  by_cases h1 : v1 < nI 0 ∨ nI 3 < v1
  · simp (disch := omega) only [L0, L1, L2, L3, L4, L5, L6, L7, L8, L9, L10, L11, L12, L13, L14, L15, L16, L17, L18, L19, L20, L21, L22, L23, L24, L25, L26, L27, L28, L29, L30, L31, L32, L47, L48, L50, L51, L57, L59, L90, L97, L100, L120, L122, L127, L179, L187, L199, L200, L487, L974, L1000, L1461, L10000, L18498, L1000000, bd_s, lt_d, gd_n, y_out_y h1, i10, if_false]
  · have h2 := h.resolve_left h1
    obtain ⟨k, -, hk, rfl⟩ := (rng v1 0 3 (by decide) (by decide)).resolve_right h1
    simp (disch := omega) only [L0, L1, L2, L3, L4, L5, L6, L7, L8, L9, L10, L11, L12, L13, L14, L15, L16, L17, L18, L19, L20, L21, L22, L23, L24, L25, L26, L27, L28, L29, L30, L31, L32, L47, L48, L50, L51, L57, L59, L90, L97, L100, L120, L122, L127, L179, L187, L199, L200, L487, L974, L1000, L1461, L10000, L18498, L1000000, bd_s, lt_d, gd_n, y_out_n, if_true, y_has_n h2 e5]
theorem op_bidOf (h : Inv m) (v1 v2 : Int32) : OPv (f_X11_bidOf v1 v2) (f_X12_bidOf v1 v2) cdI m := by
  obtain ⟨⟨B, T, hW⟩, hR, -⟩ := id h
  have w3 := hW.2.2.2.1
  have w4 := hW.2.2.2.2.1
  have e5 := (rd_total hR).trans w3
  by_cases h1 : v1 < nI 0 ∨ nI 3 < v1
  · refine op_th h (e := 0) (c := nI 1) (b := nI 0) ?_ rfl (by decide) ?_
    · unfold f_X11_bidOf
      rw [y_faultOfBid_n e5 w4 (Or.inl h1)]
      rfl
    · unfold f_X12_bidOf
      rw [x_isTenant_n h1]
      rfl
  · obtain ⟨t, -, ht, rfl⟩ := (rng v1 0 3 (by omega) (by omega)).resolve_right h1
    rcases rngT v2 T (by omega) with ⟨l, hl, rfl⟩ | hv2
    · refine op_ro h (v := m.1 129 (199 + 18 * l + (14 + t))) ?_ (fun x => ?_)
      · unfold f_X11_bidOf
        rw [L0, y_faultOfBid_y e5 w4 ht hl (Nat.zero_le _)]
        have e16 : t * 16 = 16 * t := Nat.mul_comm _ _
        simp (disch := omega) only [L0, L1, L2, L3, L4, L5, L6, L7, L8, L9, L10, L11, L12, L13, L14, L15, L16, L17, L18, L19, L20, L21, L22, L23, L24, L25, L26, L27, L28, L29, L30, L31, L32, L47, L48, L50, L51, L57, L59, L90, L97, L100, L120, L122, L127, L179, L187, L199, L200, L487, L974, L1000, L1461, L10000, L18498, L1000000, nI_add, pk_mul, nI_cl, nI_lts, nI_les, nI_eqs, Ln1, n1_ne, n1_ne', n1_lts, nI_ltn, n1_les, nI_len, bd_s, lt_d, gd_n, y_throw0, trl, e16, rd_bid hR w3 w4 hl (show t < 4 by omega)]
      · unfold f_X12_bidOf
        rw [x_isTenant_y ht, bd_s]
        simp (disch := omega) only [L0, L1, L2, L3, L4, L5, L6, L7, L8, L9, L10, L11, L12, L13, L14, L15, L16, L17, L18, L19, L20, L21, L22, L23, L24, L25, L26, L27, L28, L29, L30, L31, L32, L47, L48, L50, L51, L57, L59, L90, L97, L100, L120, L122, L127, L179, L187, L199, L200, L487, L974, L1000, L1461, L10000, L18498, L1000000, nI_add, pk_mul, nI_cl, nI_lts, nI_les, nI_eqs, Ln1, n1_ne, n1_ne', n1_lts, nI_ltn, n1_les, nI_len, bd_s, lt_d, gd_n, i10, if_false, x_isLink_y (m := wJ m 137 0 x) hl w4 w3, x_of, x_tells]
        rfl
    · refine op_th h (e := 0) (c := nI 1) (b := nI 0) ?_ rfl (by decide) ?_
      · unfold f_X11_bidOf
        rw [y_faultOfBid_n e5 w4 (Or.inr hv2)]
        rfl
      · unfold f_X12_bidOf
        rw [x_isTenant_y ht, bd_s]
        simp (disch := omega) only [L0, L1, L2, L3, L4, L5, L6, L7, L8, L9, L10, L11, L12, L13, L14, L15, L16, L17, L18, L19, L20, L21, L22, L23, L24, L25, L26, L27, L28, L29, L30, L31, L32, L47, L48, L50, L51, L57, L59, L90, L97, L100, L120, L122, L127, L179, L187, L199, L200, L487, L974, L1000, L1461, L10000, L18498, L1000000, nI_add, pk_mul, nI_cl, nI_lts, nI_les, nI_eqs, Ln1, n1_ne, n1_ne', n1_lts, nI_ltn, n1_les, nI_len, bd_s, lt_d, gd_n, i10, if_false, x_isLink_n w4 hv2 w3, if_true, j_X12_bidOf_31, x_fails, Nat.one_ne_zero]
theorem op_undo (h : Inv m) : OPv f_X11_undo f_X12_undo cdS m := by
  obtain ⟨hWF, hR, ⟨k, hk, hU⟩, hS⟩ := id h
  have h28 := hU.2.1
  cases k with
  | zero =>
    refine op_th h (e := 2) (c := nI 1) (b := nI 0) ?_ rfl (by decide) (x_undo0 hk)
    unfold f_X11_undo
    rw [h28, L0, ifp rfl]
  | succ k =>
    obtain ⟨m1, e1, e2, e3, e4, e5, e6⟩ := y_restore hU
    have hk3 : k < 3 := by have := hU.1; omega
    refine Or.inl ⟨nI k, m1, _, ?_, x_undo (m := wJ m1 137 0 _) (k := k) ?_ hk3, by rw [sR_get, upd_e], wJ_get, ?_, ?_, ⟨k, ?_, ?_⟩, ?_⟩
    · unfold f_X11_undo
      rw [h28, L0, ifn (by rw [nI_eqs (by omega) (by decide)]; omega), e1, bd_s, e2.2.1]
    · rw [wJ_1, e5 128 (by omega) (by omega)]; exact hk
    · rw [sR_ne (by decide), sR_get, wJ_1]
      refine e4.cg (fun i hi => ?_)
      rw [mx_lt hi, e5 130 (by omega) (by omega)]
    · rw [sR_ne (by decide), sR_get]
      have : RN (sR (sR (wJ m1 137 0 (nI k).toInt64) 129 (mx 487 (fun j => m1.1 130 (487 * k + j)) (m1.1 129))) 128 (upd (upd (m1.1 128) 3 (nI k)) 6 (nI 0))) 1 (fun j => m.1 130 (487 * k + j)) := e3.cg (fun r hr => by rw [sR_ne (by omega), sR_ne (by omega), wJ_1])
      refine this.eqv (fun i hi => ?_)
      rw [wJ_1, mx_lt hi, e5 130 (by omega) (by omega)]
    · rw [sR_get, upd_n (by decide), upd_e]
    · rw [sR_ne (by decide), sR_ne (by decide), wJ_1, e5 130 (by omega) (by omega)]
      exact e2.cg (fun q h1 h2 => by rw [sR_ne (by omega), sR_ne (by omega), wJ_1]) (by show m1.2.2 = m1.2.2; rfl)
    · obtain ⟨n, b1, b2, b3, b4⟩ := hS
      refine ⟨n, b1, ?_, ?_, fun i hi => ?_⟩
      · rw [sR_ne (by decide), sR_ne (by decide), wJ_1, e5 111 (by omega) (by omega)]; exact b2
      · rw [sR_get, upd_n (by decide), upd_n (by decide), wJ_1, e5 128 (by omega) (by omega)]; exact b3
      · rw [sR_ne (by decide), sR_ne (by decide), sR_ne (by decide), sR_ne (by decide), wJ_1, e5 113 (by omega) (by omega), e5 132 (by omega) (by omega)]
        exact b4 i hi
theorem op_type (h : Inv m) (v : Int32) : OPv (f_X11_type v) (f_X12_type v) cdAS m := by
  obtain ⟨hWF, hR, ⟨k, hk, hU⟩, n, b1, b2, b3, b4⟩ := id h
  rcases rng v 0 127 (by decide) (by decide) with ⟨d, -, hd, rfl⟩ | hv
  · by_cases hn : n = 120
    · subst hn
      refine op_th h (e := 2) (c := nI 2) (b := nI 0) ?_ rfl (by decide) ?_
      · unfold f_X11_type f_X7_isFull
        simp (disch := omega) only [L0, L1, L2, L3, L4, L5, L6, L7, L8, L9, L10, L11, L12, L13, L14, L15, L16, L17, L18, L19, L20, L21, L22, L23, L24, L25, L26, L27, L28, L29, L30, L31, L32, L47, L48, L50, L51, L57, L59, L90, L97, L100, L120, L122, L127, L179, L187, L199, L200, L487, L974, L1000, L1461, L10000, L18498, L1000000, nI_add, pk_mul, nI_cl, nI_lts, nI_les, nI_eqs, Ln1, n1_ne, n1_ne', n1_lts, nI_ltn, n1_les, nI_len, bd_s, lt_d, gd_n, y_out_n, if_true, b2, Nat.lt_irrefl, if_false, Nat.one_ne_zero]
      · unfold f_X12_type
        simp (disch := omega) only [L0, L1, L2, L3, L4, L5, L6, L7, L8, L9, L10, L11, L12, L13, L14, L15, L16, L17, L18, L19, L20, L21, L22, L23, L24, L25, L26, L27, L28, L29, L30, L31, L32, L47, L48, L50, L51, L57, L59, L90, L97, L100, L120, L122, L127, L179, L187, L199, L200, L487, L974, L1000, L1461, L10000, L18498, L1000000, nI_add, pk_mul, nI_cl, nI_lts, nI_les, nI_eqs, Ln1, n1_ne, n1_ne', n1_lts, nI_ltn, n1_les, nI_len, bd_s, lt_d, gd_n, x_inn, if_true, b3, i10, if_false, x_fails, Nat.one_ne_zero]
    · have hn' : n < 120 := by omega
      refine Or.inl ⟨nI (n + 1), sR (sR m 113 (upd (m.1 113) n (nI d))) 111 (upd (m.1 111) 0 (nI (n + 1))), sR (sR (wJ (sR (sR m 113 (upd (m.1 113) n (nI d))) 111 (upd (m.1 111) 0 (nI (n + 1)))) 137 0 (nI (n + 1)).toInt64) 132 (upd (m.1 132) n (nI d))) 128 (upd (upd (m.1 128) 5 (nI (n + 1))) 6 (nI 0)), ?_, ?_, ?_, wJ_get, ?_, ?_, ⟨k, ?_, ?_⟩, n + 1, by omega, ?_, ?_, fun i hi => ?_⟩
      · unfold f_X11_type f_X7_append f_X7_isFull
        simp (disch := omega) only [L0, L1, L2, L3, L4, L5, L6, L7, L8, L9, L10, L11, L12, L13, L14, L15, L16, L17, L18, L19, L20, L21, L22, L23, L24, L25, L26, L27, L28, L29, L30, L31, L32, L47, L48, L50, L51, L57, L59, L90, L97, L100, L120, L122, L127, L179, L187, L199, L200, L487, L974, L1000, L1461, L10000, L18498, L1000000, nI_add, pk_mul, nI_cl, nI_lts, nI_les, nI_eqs, Ln1, n1_ne, n1_ne', n1_lts, nI_ltn, n1_les, nI_len, bd_s, lt_d, gd_n, wI_sR, sR_get, sR_sR, sR_ne, y_out_n, if_true, b2, if_pos hn', upd_e]
      · unfold f_X12_type
        have e128 : (wJ (sR (sR m 113 (upd (m.1 113) n (nI d))) 111 (upd (m.1 111) 0 (nI (n + 1)))) 137 0 (nI (n + 1)).toInt64).1 128 = m.1 128 := by rw [wJ_1, sR_ne (by decide), sR_ne (by decide)]
        have e132 : (wJ (sR (sR m 113 (upd (m.1 113) n (nI d))) 111 (upd (m.1 111) 0 (nI (n + 1)))) 137 0 (nI (n + 1)).toInt64).1 132 = m.1 132 := by rw [wJ_1, sR_ne (by decide), sR_ne (by decide)]
        simp (disch := omega) only [L0, L1, L2, L3, L4, L5, L6, L7, L8, L9, L10, L11, L12, L13, L14, L15, L16, L17, L18, L19, L20, L21, L22, L23, L24, L25, L26, L27, L28, L29, L30, L31, L32, L47, L48, L50, L51, L57, L59, L90, L97, L100, L120, L122, L127, L179, L187, L199, L200, L487, L974, L1000, L1461, L10000, L18498, L1000000, nI_add, pk_mul, nI_cl, nI_lts, nI_les, nI_eqs, Ln1, n1_ne, n1_ne', n1_lts, nI_ltn, n1_les, nI_len, bd_s, lt_d, gd_n, wI_sR, sR_get, sR_sR, sR_ne, x_inn, if_true, e128, e132, b3, i10, if_false, hn, x_tells, upd_e, Nat.one_ne_zero]
      · rw [sR_get, upd_e]
      · rw [sR_ne (by decide), sR_ne (by decide), wJ_1, sR_ne (by decide), sR_ne (by decide)]; exact hWF
      · rw [sR_ne (by decide), sR_ne (by decide), wJ_1, sR_ne (by decide), sR_ne (by decide)]
        exact hR.cg (fun r hr => by rw [sR_ne (by omega), sR_ne (by omega), wJ_1, sR_ne (by omega), sR_ne (by omega)])
      · rw [sR_get, upd_n (by decide), upd_n (by decide)]; exact hk
      · rw [sR_ne (by decide), sR_ne (by decide), wJ_1, sR_ne (by decide), sR_ne (by decide)]
        exact hU.cg (fun q h1 h2 => by rw [sR_ne (by omega), sR_ne (by omega), wJ_1, sR_ne (by omega), sR_ne (by omega)]) rfl
      · rw [sR_ne (by decide), sR_ne (by decide), wJ_1, sR_get, upd_e]
      · rw [sR_get, upd_n (by decide), upd_e]
      · rw [sR_ne (by decide), sR_ne (by decide), wJ_1, sR_ne (by decide), sR_get, sR_ne (by decide), sR_get]
        by_cases hin : i = n
        · subst hin
          rw [upd_e, upd_e]
          exact ⟨rfl, d, hd, rfl⟩
        · rw [upd_n hin, upd_n hin]
          exact b4 i (by omega)
  · refine op_th h (e := 1) (c := nI 1) (b := nI 0) ?_ rfl (by decide) ?_
    · unfold f_X11_type
      simp (disch := omega) only [L0, L1, L2, L3, L4, L5, L6, L7, L8, L9, L10, L11, L12, L13, L14, L15, L16, L17, L18, L19, L20, L21, L22, L23, L24, L25, L26, L27, L28, L29, L30, L31, L32, L47, L48, L50, L51, L57, L59, L90, L97, L100, L120, L122, L127, L179, L187, L199, L200, L487, L974, L1000, L1461, L10000, L18498, L1000000, bd_s, lt_d, gd_n, y_out_y hv, i10, if_false]
    · unfold f_X12_type
      simp (disch := omega) only [L0, L1, L2, L3, L4, L5, L6, L7, L8, L9, L10, L11, L12, L13, L14, L15, L16, L17, L18, L19, L20, L21, L22, L23, L24, L25, L26, L27, L28, L29, L30, L31, L32, L47, L48, L50, L51, L57, L59, L90, L97, L100, L120, L122, L127, L179, L187, L199, L200, L487, L974, L1000, L1461, L10000, L18498, L1000000, bd_s, lt_d, gd_n, x_in_n hv, if_true, x_fails]
theorem op_clearScript (h : Inv m) : OPn f_X11_clearScript f_X12_clearScript m := by
  obtain ⟨hWF, hR, ⟨k, hk, hU⟩, n, b1, b2, b3, b4⟩ := id h
  refine ⟨nI n, sR m 111 (upd (m.1 111) 0 (nI 0)), sR (sR m 111 (upd (m.1 111) 0 (nI 0))) 128 (upd (upd (m.1 128) 5 (nI 0)) 6 (nI 0)), ?_, ?_, ?_, ?_, ⟨k, ?_, ?_⟩, 0, by omega, ?_, ?_, fun i hi => absurd hi (Nat.not_lt_zero i)⟩
  · unfold f_X11_clearScript
    simp only [L0, L1, L2, L3, L4, L5, L6, L7, L8, L9, L10, L11, L12, L13, L14, L15, L16, L17, L18, L19, L20, L21, L22, L23, L24, L25, L26, L27, L28, L29, L30, L31, L32, L47, L48, L50, L51, L57, L59, L90, L97, L100, L120, L122, L127, L179, L187, L199, L200, L487, L974, L1000, L1461, L10000, L18498, L1000000, bd_s, lt_d, gd_n, b2, wI_sR]
  · unfold f_X12_clearScript
    simp (disch := decide) only [L0, L1, L2, L3, L4, L5, L6, L7, L8, L9, L10, L11, L12, L13, L14, L15, L16, L17, L18, L19, L20, L21, L22, L23, L24, L25, L26, L27, L28, L29, L30, L31, L32, L47, L48, L50, L51, L57, L59, L90, L97, L100, L120, L122, L127, L179, L187, L199, L200, L487, L974, L1000, L1461, L10000, L18498, L1000000, bd_s, lt_d, gd_n, wI_sR, sR_get, sR_sR, sR_ne, b3, x_tells]
  · rw [sR_ne (by decide), sR_ne (by decide)]; exact hWF
  · rw [sR_ne (by decide), sR_ne (by decide)]
    exact hR.cg (fun r hr => by rw [sR_ne (by omega), sR_ne (by omega)])
  · rw [sR_get, upd_n (by decide), upd_n (by decide)]; exact hk
  · rw [sR_ne (by decide), sR_ne (by decide)]
    exact hU.cg (fun q h1 h2 => by rw [sR_ne (by omega), sR_ne (by omega)]) rfl
  · rw [sR_ne (by decide), sR_get, upd_e]
  · rw [sR_get, upd_n (by decide), upd_e]
end PT3
