/-! Links: mended, broken. -/
section PL2
variable {m m0 : me} {S S' : Nat → Int32} {B T : Nat}
def upB (S : Nat → Int32) (l : Nat) : Bool := decide (S (199 + 18 * l + 4) = nI 1)
theorem y_fsw_n {v u : Int32} (e5 : m.1 11 0 = nI T) (hv : v < nI 0 ∨ nI T ≤ v) : f_X4_faultOfSwitch v u m = some (nI 1, m) := by
  unfold f_X4_faultOfSwitch
  rw [y_has_n hv e5]
  rfl
theorem y_fsw {l : Nat} {u : Int32} (hR : RN m 1 S) (w3 : S 5 = nI T) (w4 : T ≤ 16) (hl : l < T) : f_X4_faultOfSwitch (nI l) u m = some (if S (199 + 18 * l + 4) = u then nI 0 else nI 3, m) := by
  have e5 := (rd_total hR).trans w3
  unfold f_X4_faultOfSwitch
  rw [y_has_y hl w4 e5]
  simp (disch := omega) only [L0, L1, L2, L3, L4, L5, L6, L7, L8, L9, L10, L11, L12, L13, L14, L15, L16, L17, L18, L19, L20, L21, L22, L23, L24, L25, L26, L27, L28, L29, L30, L31, L32, L47, L48, L50, L51, L57, L59, L90, L97, L100, L120, L122, L127, L179, L187, L199, L200, L487, L974, L1000, L1461, L10000, L18498, L1000000, nI_add, pk_mul, nI_cl, nI_lts, nI_les, nI_eqs, Ln1, n1_ne, n1_ne', n1_lts, nI_ltn, n1_les, nI_len, bd_s, lt_d, gd_n, i10, if_false, rd_up hR w3 w4 hl]
  by_cases h : S (199 + 18 * l + 4) = u
  · rw [ifp h, ifp h, if_neg Nat.one_ne_zero]
  · rw [ifn h, ifn h, if_neg Nat.one_ne_zero]
theorem LK.up {l : Nat} (h : LK B S l) (hl : l < 16) {x : Int32} (hx : x = nI 0 ∨ x = nI 1) : LK B (upd S (199 + 18 * l + 4) x) l := by
  obtain ⟨a, b, k1, k2, k3, k4, k5, k6, k7, k8, k9, k10, k11, k12, k13⟩ := h
  refine ⟨a, b, k1, k2, ?_⟩
  rw [upd_e, upd_n (by omega), upd_n (by omega), upd_n (by omega), upd_n (by omega), upd_n (by omega), upd_n (by omega), upd_n (by omega), upd_n (by omega), upd_n (by omega)]
  exact ⟨k3, k4, k5, k6, hx, k8, k9, k10, k11, k12, fun t ht => by rw [upd_n (by omega)]; exact k13 t ht⟩
theorem y_countUps (hW : WT B T S) (hR : RN m 1 S) {v : Int32} : lo (b_X3_bringUp_11 v) 2048 (nI 0, nI 0, m) = some (nI (cnt (upB S) T), nI T, m) := by
  have w3 := hW.2.2.2.1
  have w4 := hW.2.2.2.2.1
  have e5 := (rd_total hR).trans w3
  have h := lo_gen (b := b_X3_bringUp_11 v) (fun k => (nI (cnt (upB S) k), nI k, m)) T (nI (cnt (upB S) T), nI T, m) (fun k hk => by
    unfold b_X3_bringUp_11
    have : ¬ T ≤ k := by omega
    simp (disch := omega) only [L0, L1, L2, L3, L4, L5, L6, L7, L8, L9, L10, L11, L12, L13, L14, L15, L16, L17, L18, L19, L20, L21, L22, L23, L24, L25, L26, L27, L28, L29, L30, L31, L32, L47, L48, L50, L51, L57, L59, L90, L97, L100, L120, L122, L127, L179, L187, L199, L200, L487, L974, L1000, L1461, L10000, L18498, L1000000, nI_add, pk_mul, nI_cl, nI_lts, nI_les, nI_eqs, Ln1, n1_ne, n1_ne', n1_lts, nI_ltn, n1_les, nI_len, bd_s, lt_d, gd_n, e5, if_neg this, rd_up hR w3 w4 hk]
    obtain ⟨a, b, -, -, -, -, -, -, g7, -⟩ := hW.2.2.2.2.2.2.2.2.2.1 k hk
    rcases g7 with g7 | g7
    · have e : upB S k = false := by unfold upB; rw [g7]; decide
      rw [ifp g7, cnt_f e]
    · have e : upB S k = true := decide_eq_true g7
      rw [ifn (by rw [g7]; decide), cnt_t e]) (by
    unfold b_X3_bringUp_11
    simp (disch := omega) only [L0, L1, L2, L3, L4, L5, L6, L7, L8, L9, L10, L11, L12, L13, L14, L15, L16, L17, L18, L19, L20, L21, L22, L23, L24, L25, L26, L27, L28, L29, L30, L31, L32, L47, L48, L50, L51, L57, L59, L90, L97, L100, L120, L122, L127, L179, L187, L199, L200, L487, L974, L1000, L1461, L10000, L18498, L1000000, nI_add, pk_mul, nI_cl, nI_lts, nI_les, nI_eqs, Ln1, n1_ne, n1_ne', n1_lts, nI_ltn, n1_les, nI_len, bd_s, lt_d, gd_n, e5, if_true, Nat.le_refl]) (N := 2048) (by omega)
  simp only [cnt] at h
  exact h
theorem x_countUps {M : me} {v c0 : Int32} (hW : WT B T (M.1 129)) : lo (b_X12_mends_36 v) 2048 (nI 0, sR M 128 (upd (M.1 128) 7 (nI 0))) = some (nI T, sR M 128 (upd (M.1 128) 7 (nI (cnt (upB (M.1 129)) T)))) := by
  have w3 := hW.2.2.2.1
  have w4 := hW.2.2.2.2.1
  have h := lo_gen (b := b_X12_mends_36 v) (fun k => (nI k, sR M 128 (upd (M.1 128) 7 (nI (cnt (upB (M.1 129)) k))))) T (nI T, sR M 128 (upd (M.1 128) 7 (nI (cnt (upB (M.1 129)) T)))) (fun k hk => by
    unfold b_X12_mends_36
    have : ¬ T ≤ k := by omega
    have uu : ∀ x y : Int32, upd (upd (M.1 128) 7 x) 7 y = upd (M.1 128) 7 y := fun x y => by funext j; unfold upd; by_cases h : j = 7 <;> simp [h]
    simp (disch := omega) only [L0, L1, L2, L3, L4, L5, L6, L7, L8, L9, L10, L11, L12, L13, L14, L15, L16, L17, L18, L19, L20, L21, L22, L23, L24, L25, L26, L27, L28, L29, L30, L31, L32, L47, L48, L50, L51, L57, L59, L90, L97, L100, L120, L122, L127, L179, L187, L199, L200, L487, L974, L1000, L1461, L10000, L18498, L1000000, nI_add, pk_mul, nI_cl, nI_lts, nI_les, nI_eqs, Ln1, n1_ne, n1_ne', n1_lts, nI_ltn, n1_les, nI_len, bd_s, lt_d, gd_n, wI_sR, sR_get, sR_sR, sR_ne, w3, if_neg this, x_of, upd_e, uu]
    obtain ⟨a, b, -, -, -, -, -, -, g7, -⟩ := hW.2.2.2.2.2.2.2.2.2.1 k hk
    rcases g7 with g7 | g7
    · have e : upB (M.1 129) k = false := by unfold upB; rw [g7]; decide
      rw [g7, cnt_f e, nI_add]; rfl
    · have e : upB (M.1 129) k = true := decide_eq_true g7
      rw [g7, cnt_t e, nI_add]) (by
    unfold b_X12_mends_36
    simp (disch := omega) only [L0, L1, L2, L3, L4, L5, L6, L7, L8, L9, L10, L11, L12, L13, L14, L15, L16, L17, L18, L19, L20, L21, L22, L23, L24, L25, L26, L27, L28, L29, L30, L31, L32, L47, L48, L50, L51, L57, L59, L90, L97, L100, L120, L122, L127, L179, L187, L199, L200, L487, L974, L1000, L1461, L10000, L18498, L1000000, nI_add, pk_mul, nI_cl, nI_lts, nI_les, nI_eqs, Ln1, n1_ne, n1_ne', n1_lts, nI_ltn, n1_les, nI_len, bd_s, lt_d, gd_n, wI_sR, sR_get, sR_sR, sR_ne, w3, if_true, Nat.le_refl]) (N := 2048) (by omega)
  simp only [cnt] at h
  exact h
def ceS (c : Nat) : Nat := if c = 3 then 2 else c
theorem cmd_fix (hF : WF S) (v : Int32) : CMD (f_X4_faultOfSwitch v 0) (f_X3_bringUp v) (f_X12_mends v) ceS S := by
  obtain ⟨B, T, hW⟩ := hF
  have w3 := hW.2.2.2.1
  have w4 := hW.2.2.2.2.1
  rcases rngT v T (by omega) with ⟨l, hl, rfl⟩ | hv
  · have hlk := hW.2.2.2.2.2.2.2.2.2.1 l hl
    obtain ⟨a, b, -, -, -, -, -, -, g7, -⟩ := id hlk
    rcases g7 with g7 | g7
    · have hW' : WT B T (upd S (199 + 18 * l + 4) (nI 1)) := hW.lk hl (fun i h1 h2 => upd_n (by omega)) (hlk.up (by omega) (Or.inr rfl)) (upd_n (by omega)) (upd_n (by omega))
      refine Or.inl ⟨upd S (199 + 18 * l + 4) (nI 1), nI (cnt (upB (upd S (199 + 18 * l + 4) (nI 1))) T), ⟨B, T, hW'⟩, fun m hR => ?_, fun m hR => ?_, fun M hM => ?_⟩
      · rw [y_fsw hR w3 w4 hl, g7]; rfl
      · have hC : Cl m (wI m 16 l (nI 1)) (upd S (199 + 18 * l + 4) (nI 1)) := Cl_up (Cl.rf hR) w3 w4 hl rfl isB1
        refine ⟨_, ?_, hC⟩
        unfold f_X3_bringUp
        simp (disch := omega) only [L0, L1, L2, L3, L4, L5, L6, L7, L8, L9, L10, L11, L12, L13, L14, L15, L16, L17, L18, L19, L20, L21, L22, L23, L24, L25, L26, L27, L28, L29, L30, L31, L32, L47, L48, L50, L51, L57, L59, L90, L97, L100, L120, L122, L127, L179, L187, L199, L200, L487, L974, L1000, L1461, L10000, L18498, L1000000, nI_add, pk_mul, nI_cl, nI_lts, nI_les, nI_eqs, Ln1, n1_ne, n1_ne', n1_lts, nI_ltn, n1_les, nI_len, bd_s, lt_d, gd_n, y_countUps hW' hC.1]
      · refine ⟨sR (sR M 129 (upd S (199 + 18 * l + 4) (nI 1))) 128 (upd (M.1 128) 7 (nI (cnt (upB (upd S (199 + 18 * l + 4) (nI 1))) T))), ?_, ?_, ?_, fun q h1 h2 h3 => ?_, fun j hj => ?_, rfl⟩
        · have hh := x_countUps (M := sR M 129 (upd S (199 + 18 * l + 4) (nI 1))) (v := nI l) (c0 := nI 0) (B := B) (T := T) (by rw [sR_get]; exact hW')
          rw [sR_get, sR_ne (by decide)] at hh
          unfold f_X12_mends
          rw [x_isLink_y hl w4 (by rw [hM]; exact w3)]
          simp (disch := omega) only [L0, L1, L2, L3, L4, L5, L6, L7, L8, L9, L10, L11, L12, L13, L14, L15, L16, L17, L18, L19, L20, L21, L22, L23, L24, L25, L26, L27, L28, L29, L30, L31, L32, L47, L48, L50, L51, L57, L59, L90, L97, L100, L120, L122, L127, L179, L187, L199, L200, L487, L974, L1000, L1461, L10000, L18498, L1000000, nI_add, pk_mul, nI_cl, nI_lts, nI_les, nI_eqs, Ln1, n1_ne, n1_ne', n1_lts, nI_ltn, n1_les, nI_len, bd_s, lt_d, gd_n, wI_sR, sR_get, sR_sR, sR_ne, i10, if_false, x_of, x_puts, hM, g7, hh, Nat.one_ne_zero, Nat.zero_ne_one]
        · rw [sR_get, upd_e]
        · rw [sR_ne (by decide), sR_get]
        · rw [sR_ne h2, sR_ne h1]
        · rw [sR_get, upd_n hj]
    · refine Or.inr ⟨3, by decide, by decide, fun m hR => ?_, fun M hM => ?_⟩
      · rw [y_fsw hR w3 w4 hl, g7]; rfl
      · unfold f_X12_mends
        rw [x_isLink_y hl w4 (by rw [hM]; exact w3)]
        simp (disch := omega) only [L0, L1, L2, L3, L4, L5, L6, L7, L8, L9, L10, L11, L12, L13, L14, L15, L16, L17, L18, L19, L20, L21, L22, L23, L24, L25, L26, L27, L28, L29, L30, L31, L32, L47, L48, L50, L51, L57, L59, L90, L97, L100, L120, L122, L127, L179, L187, L199, L200, L487, L974, L1000, L1461, L10000, L18498, L1000000, nI_add, pk_mul, nI_cl, nI_lts, nI_les, nI_eqs, Ln1, n1_ne, n1_ne', n1_lts, nI_ltn, n1_les, nI_len, bd_s, lt_d, gd_n, i10, if_false, x_of, hM, g7, if_true, Nat.one_ne_zero]
        rfl
  · refine Or.inr ⟨1, by decide, by decide, fun m hR => y_fsw_n ((rd_total hR).trans w3) hv, fun M hM => ?_⟩
    unfold f_X12_mends
    rw [x_isLink_n w4 hv (by rw [hM]; exact w3)]
    simp (disch := omega) only [L0, L1, L2, L3, L4, L5, L6, L7, L8, L9, L10, L11, L12, L13, L14, L15, L16, L17, L18, L19, L20, L21, L22, L23, L24, L25, L26, L27, L28, L29, L30, L31, L32, L47, L48, L50, L51, L57, L59, L90, L97, L100, L120, L122, L127, L179, L187, L199, L200, L487, L974, L1000, L1461, L10000, L18498, L1000000, bd_s, lt_d, gd_n, if_true]
    rfl
/-- what the winner of a link gets back -/
def bk (S : Nat → Int32) (l : Nat) : Int32 := S (199 + 18 * l + 6) * (S 3 - (S 1 - S 1 / S 3 * S 3)) / S 3
def sDn (S : Nat → Int32) (l : Nat) : Nat → Int32 := upd (upd S (199 + 18 * l + 5) n1) (199 + 18 * l + 6) (nI 0)
theorem LK.dn {l : Nat} (h : LK B S l) (hl : l < 16) : LK B (sDn (upd S (199 + 18 * l + 4) (nI 0)) l) l := by
  obtain ⟨a, b, k1, k2, k3, k4, k5, k6, k7, k8, k9, k10, k11, k12, k13⟩ := h
  unfold sDn
  refine ⟨a, b, k1, k2, ?_, ?_, ?_, ?_, Or.inl ?_, Or.inl ?_, ⟨0, ?_, by omega⟩, ?_, ?_, ?_, fun t ht => ?_⟩
  · rw [upd_n (by omega), upd_n (by omega), upd_n (by omega)]; exact k3
  · rw [upd_n (by omega), upd_n (by omega), upd_n (by omega)]; exact k4
  · rw [upd_n (by omega), upd_n (by omega), upd_n (by omega)]; exact k5
  · rw [upd_n (by omega), upd_n (by omega), upd_n (by omega)]; exact k6
  · rw [upd_n (by omega), upd_n (by omega), upd_e]
  · rw [upd_n (by omega), upd_e]
  · rw [upd_e]
  · rw [upd_n (by omega), upd_n (by omega), upd_n (by omega)]; exact k10
  · rw [upd_n (by omega), upd_n (by omega), upd_n (by omega)]; exact k11
  · rw [upd_n (by omega), upd_n (by omega), upd_n (by omega)]; exact k12
  · rw [upd_n (by omega), upd_n (by omega), upd_n (by omega)]; exact k13 t ht
theorem WT.dn {l : Nat} (hW : WT B T S) (hl : l < T) : WT B T (sDn (upd S (199 + 18 * l + 4) (nI 0)) l) := by
  have w4 := hW.2.2.2.2.1
  exact hW.lk hl (fun i h1 h2 => by unfold sDn; rw [upd_n (by omega), upd_n (by omega), upd_n (by omega)]) ((hW.2.2.2.2.2.2.2.2.2.1 l hl).dn (by omega)) (by unfold sDn; rw [upd_n (by omega), upd_n (by omega), upd_n (by omega)]) (by unfold sDn; rw [upd_n (by omega), upd_n (by omega), upd_n (by omega)])
theorem Cl_dn {l : Nat} (h : Cl m0 m S) (w3 : S 5 = nI T) (w4 : T ≤ 16) (hl : l < T) : Cl m0 (wI (wI (wI m 16 l (nI 0)) 17 l n1) 18 l (nI 0)) (sDn (upd S (199 + 18 * l + 4) (nI 0)) l) := by
  unfold sDn
  have h1 := Cl_up (v := nI 0) h w3 w4 hl rfl isB0
  have h2 := Cl_win (v := n1) h1 (T := T) (by rw [upd_n (by omega)]; exact w3) w4 hl rfl
  exact Cl_price h2 (T := T) (by rw [upd_n (by omega), upd_n (by omega)]; exact w3) w4 hl rfl
theorem cmd_fail (hF : WF S) (v : Int32) : CMD (f_X4_faultOfSwitch v 1) (f_X4_takeDown v) (f_X12_breaks v) ceS S := by
  obtain ⟨B, T, hW⟩ := hF
  have w3 := hW.2.2.2.1
  have w4 := hW.2.2.2.2.1
  rcases rngT v T (by omega) with ⟨l, hl, rfl⟩ | hv
  · have hlk := hW.2.2.2.2.2.2.2.2.2.1 l hl
    obtain ⟨a, b, -, -, -, -, -, -, g7, g8, -⟩ := id hlk
    obtain ⟨d, hd, hd5, hd1⟩ := hW.2.2.2.2.2.2.1
    rcases g7 with g7 | g7
    · refine Or.inr ⟨3, by decide, by decide, fun m hR => ?_, fun M hM => ?_⟩
      · rw [y_fsw hR w3 w4 hl, g7]; rfl
      · unfold f_X12_breaks
        rw [x_isLink_y hl w4 (by rw [hM]; exact w3)]
        simp (disch := omega) only [L0, L1, L2, L3, L4, L5, L6, L7, L8, L9, L10, L11, L12, L13, L14, L15, L16, L17, L18, L19, L20, L21, L22, L23, L24, L25, L26, L27, L28, L29, L30, L31, L32, L47, L48, L50, L51, L57, L59, L90, L97, L100, L120, L122, L127, L179, L187, L199, L200, L487, L974, L1000, L1461, L10000, L18498, L1000000, nI_add, pk_mul, nI_cl, nI_lts, nI_les, nI_eqs, Ln1, n1_ne, n1_ne', n1_lts, nI_ltn, n1_les, nI_len, bd_s, lt_d, gd_n, i10, if_false, x_of, hM, g7, if_true, Nat.one_ne_zero]
        rfl
    · have hWd := hW.dn hl
      rcases g8 with g8 | ⟨t, ht, g8⟩
      · refine Or.inl ⟨sDn (upd S (199 + 18 * l + 4) (nI 0)) l, nI 0, ⟨B, T, hWd⟩, fun m hR => ?_, fun m hR => ?_, fun M hM => ?_⟩
        · rw [y_fsw hR w3 w4 hl, g7]; rfl
        · refine ⟨_, ?_, Cl_dn (Cl.rf hR) w3 w4 hl⟩
          unfold f_X4_takeDown j_X4_takeDown_84
          simp (disch := omega) only [L0, L1, L2, L3, L4, L5, L6, L7, L8, L9, L10, L11, L12, L13, L14, L15, L16, L17, L18, L19, L20, L21, L22, L23, L24, L25, L26, L27, L28, L29, L30, L31, L32, L47, L48, L50, L51, L57, L59, L90, L97, L100, L120, L122, L127, L179, L187, L199, L200, L487, L974, L1000, L1461, L10000, L18498, L1000000, nI_add, pk_mul, nI_cl, nI_lts, nI_les, nI_eqs, Ln1, n1_ne, n1_ne', n1_lts, nI_ltn, n1_les, nI_len, bd_s, lt_d, gd_n, rd_win hR w3 w4 hl, g8, if_true]
        · refine ⟨sR (sR M 128 (upd (M.1 128) 7 (nI 0))) 129 (sDn (upd S (199 + 18 * l + 4) (nI 0)) l), ?_, ?_, ?_, fun q h1 h2 h3 => ?_, fun j hj => ?_, rfl⟩
          · unfold f_X12_breaks j_X12_breaks_125 sDn
            rw [x_isLink_y hl w4 (by rw [hM]; exact w3)]
            have e1 : upd S (199 + 18 * l + 4) (nI 0) (199 + 18 * l + 5) = n1 := by rw [upd_n (by omega)]; exact g8
            simp (disch := omega) only [L0, L1, L2, L3, L4, L5, L6, L7, L8, L9, L10, L11, L12, L13, L14, L15, L16, L17, L18, L19, L20, L21, L22, L23, L24, L25, L26, L27, L28, L29, L30, L31, L32, L47, L48, L50, L51, L57, L59, L90, L97, L100, L120, L122, L127, L179, L187, L199, L200, L487, L974, L1000, L1461, L10000, L18498, L1000000, nI_add, pk_mul, nI_cl, nI_lts, nI_les, nI_eqs, Ln1, n1_ne, n1_ne', n1_lts, nI_ltn, n1_les, nI_len, bd_s, lt_d, gd_n, i10, if_false, x_of, x_puts, wI_sR, sR_get, sR_sR, sR_ne, hM, g7, Nat.one_ne_zero, e1, if_true]
            rw [sR_cm (show 129 ≠ 128 by decide), sR_sR]
          · rw [sR_ne (by decide), sR_get, upd_e]
          · rw [sR_get]
          · rw [sR_ne h1, sR_ne h2]
          · rw [sR_ne (by decide), sR_get, upd_n hj]
      · have ht8 : t < 8 := by omega
        have hnz : nz (S 3) = true := by rw [hd]; exact nz_n (by omega) (by omega)
        have hle : ¬ S 3 ≤ nI 0 := by rw [hd, nI_les (by omega) (by omega)]; omega
        have hC2 : WT B T (upd (upd S (187 + 3 * t) (S (187 + 3 * t) + bk S l)) (187 + 3 * t + 2) (S (187 + 3 * t + 2) + bk S l)) := hW.cg (fun i hi => by unfold wx at hi; rw [upd_n (by omega), upd_n (by omega)])
        refine Or.inl ⟨sDn (upd (upd (upd S (187 + 3 * t) (S (187 + 3 * t) + bk S l)) (187 + 3 * t + 2) (S (187 + 3 * t + 2) + bk S l)) (199 + 18 * l + 4) (nI 0)) l, bk S l, ⟨B, T, hC2.dn hl⟩, fun m hR => ?_, fun m hR => ?_, fun M hM => ?_⟩
        · rw [y_fsw hR w3 w4 hl, g7]; rfl
        · have h1 := Cl_cred (v := S (187 + 3 * t) + bk S l) (Cl.rf hR) ht rfl
          have h2 := Cl_rfd (v := S (187 + 3 * t + 2) + bk S l) h1 ht rfl
          refine ⟨_, ?_, Cl_dn h2 hC2.2.2.2.1 w4 hl⟩
          unfold f_X4_takeDown j_X4_takeDown_84_1
          simp (disch := omega) only [L0, L1, L2, L3, L4, L5, L6, L7, L8, L9, L10, L11, L12, L13, L14, L15, L16, L17, L18, L19, L20, L21, L22, L23, L24, L25, L26, L27, L28, L29, L30, L31, L32, L47, L48, L50, L51, L57, L59, L90, L97, L100, L120, L122, L127, L179, L187, L199, L200, L487, L974, L1000, L1461, L10000, L18498, L1000000, nI_add, pk_mul, nI_cl, nI_lts, nI_les, nI_eqs, Ln1, n1_ne, n1_ne', n1_lts, nI_ltn, n1_les, nI_len, bd_s, lt_d, gd_n, rd_win hR w3 w4 hl, g8, if_false, rd_intv hR, rd_clock hR, hnz, gd_tt, hle, rd_price hR w3 w4 hl, rd_cred hR ht, rd_rfd hR ht, bk, wI_sR, sR_ne, sR_get]
        · refine ⟨sR (sR M 128 (upd (M.1 128) 7 (bk S l))) 129 (sDn (upd (upd (upd S (187 + 3 * t) (S (187 + 3 * t) + bk S l)) (187 + 3 * t + 2) (S (187 + 3 * t + 2) + bk S l)) (199 + 18 * l + 4) (nI 0)) l), ?_, ?_, ?_, fun q h1 h2 h3 => ?_, fun j hj => ?_, rfl⟩
          · unfold f_X12_breaks j_X12_breaks_125 sDn
            rw [x_isLink_y hl w4 (by rw [hM]; exact w3)]
            have uu : ∀ x y : Int32, upd (upd (M.1 128) 7 x) 7 y = upd (M.1 128) 7 y := fun x y => by funext j; unfold upd; by_cases h : j = 7 <;> simp [h]
            simp (disch := omega) only [L0, L1, L2, L3, L4, L5, L6, L7, L8, L9, L10, L11, L12, L13, L14, L15, L16, L17, L18, L19, L20, L21, L22, L23, L24, L25, L26, L27, L28, L29, L30, L31, L32, L47, L48, L50, L51, L57, L59, L90, L97, L100, L120, L122, L127, L179, L187, L199, L200, L487, L974, L1000, L1461, L10000, L18498, L1000000, nI_add, pk_mul, nI_cl, nI_lts, nI_les, nI_eqs, Ln1, n1_ne, n1_ne', n1_lts, nI_ltn, n1_les, nI_len, bd_s, lt_d, gd_n, i10, if_false, x_of, x_puts, wI_sR, sR_get, sR_sR, sR_ne, hM, g7, Nat.one_ne_zero, upd_n, g8, hnz, gd_tt, upd_e, uu, Nat.not_lt_zero]
            rw [sR_cm (show 129 ≠ 128 by decide), sR_sR]
            refine congrArg some (congrArg (Prod.mk (nI 0)) ?_)
            show sR (sR M 128 (upd (M.1 128) 7 (bk S l))) 129 _ = _
            refine congrArg (sR (sR M 128 (upd (M.1 128) 7 (bk S l))) 129) ?_
            rw [upd_cm (f := S) (a := 199 + 18 * l + 4) (b := 187 + 3 * t) (by omega), upd_cm (a := 199 + 18 * l + 4) (b := 187 + 3 * t + 2) (by omega)]
            rfl
          · rw [sR_ne (by decide), sR_get, upd_e]
          · rw [sR_get]
          · rw [sR_ne h1, sR_ne h2]
          · rw [sR_ne (by decide), sR_get, upd_n hj]
  · refine Or.inr ⟨1, by decide, by decide, fun m hR => y_fsw_n ((rd_total hR).trans w3) hv, fun M hM => ?_⟩
    unfold f_X12_breaks
    rw [x_isLink_n w4 hv (by rw [hM]; exact w3)]
    simp (disch := omega) only [L0, L1, L2, L3, L4, L5, L6, L7, L8, L9, L10, L11, L12, L13, L14, L15, L16, L17, L18, L19, L20, L21, L22, L23, L24, L25, L26, L27, L28, L29, L30, L31, L32, L47, L48, L50, L51, L57, L59, L90, L97, L100, L120, L122, L127, L179, L187, L199, L200, L487, L974, L1000, L1461, L10000, L18498, L1000000, bd_s, lt_d, gd_n, if_true]
    rfl
end PL2
