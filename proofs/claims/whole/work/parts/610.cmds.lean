/-! The small commands. -/
section PK
variable {m m0 : me} {S S' : Nat → Int32} {B T : Nat}
theorem upd_cm {f : Nat → Int32} {a b : Nat} {x y : Int32} (h : a ≠ b) : upd (upd f a x) b y = upd (upd f b y) a x := by
  funext j
  unfold upd
  by_cases h1 : j = a
  · by_cases h2 : j = b
    · omega
    · rw [if_neg h2, if_pos h1, if_pos h1]
  · by_cases h2 : j = b
    · rw [if_pos h2, if_neg h1, if_pos h2]
    · rw [if_neg h2, if_neg h1, if_neg h1, if_neg h2]
theorem nz_n {d : Nat} (h0 : 0 < d) (h : d < 2147483648) : nz (nI d) = true := by
  unfold nz
  rw [decide_eq_false (nI_ne0 h0 h)]
  rfl
theorem Cl.rf (h : RN m 1 S) : Cl m m S := ⟨h, fc.rf m⟩
theorem y_startVector {b : Nat} (h : Cl m0 m S) (hb : b < 8) : ∃ m1, f_X1_startVector (nI b) m = some m1 ∧ Cl m0 m1 (sSt b S) := by
  unfold f_X1_startVector sSt
  rw [y_idOf h.1 hb]
  simp (disch := omega) only [L0, L1, L2, L3, L4, L5, L6, L7, L8, L9, L10, L11, L12, L13, L14, L15, L16, L17, L18, L19, L20, L21, L22, L23, L24, L25, L26, L27, L28, L29, L30, L31, L32, L47, L48, L50, L51, L57, L59, L90, L97, L100, L120, L122, L127, L179, L187, L199, L200, L487, L974, L1000, L1461, L10000, L18498, L1000000, nI_add, pk_mul, nI_cl, nI_lts, nI_les, nI_eqs, Ln1, n1_ne, n1_ne', n1_lts, nI_ltn, n1_les, nI_len, bd_s, lt_d, gd_n]
  exact ⟨_, rfl, Cl_rlk (Cl_age (Cl_cost (Cl_root h hb rfl) hb rfl) hb rfl) hb rfl⟩
/-- one link's other fields change -/
theorem WT.lk {l : Nat} (h : WT B T S) (hl : l < T) (he : ∀ i, wx i → ¬ (199 + 18 * l ≤ i ∧ i < 199 + 18 * l + 18) → S' i = S i) (hlk : LK B S' l) (h0 : S' (199 + 18 * l) = S (199 + 18 * l)) (h1 : S' (199 + 18 * l + 1) = S (199 + 18 * l + 1)) : WT B T S' := by
  unfold wx at he
  obtain ⟨g1, g2, g3, g4, g5, g6, g7, g8, g9, g10, g11⟩ := h
  refine ⟨by rw [he _ (by omega) (by omega)]; exact g1, g2, g3, by rw [he _ (by omega) (by omega)]; exact g4, g5, by rw [he _ (by omega) (by omega)]; exact g6, by rw [he _ (by omega) (by omega)]; exact g7, by rw [he _ (by omega) (by omega)]; exact g8, fun h hh => by rw [he _ (by omega) (by omega)]; exact g9 h hh, fun k hk => ?_, fun b h hb hh => ?_⟩
  · by_cases hkl : k = l
    · subst hkl; exact hlk
    · obtain ⟨a, b, g⟩ := g10 k hk
      refine ⟨a, b, ?_⟩
      rw [he _ (by omega) (by omega), he _ (by omega) (by omega), he _ (by omega) (by omega), he _ (by omega) (by omega), he _ (by omega) (by omega), he _ (by omega) (by omega), he _ (by omega) (by omega), he _ (by omega) (by omega), he _ (by omega) (by omega), he _ (by omega) (by omega)]
      obtain ⟨k1, k2, k3, k4, k5, k6, k7, k8, k9, k10, k11, k12, k13⟩ := g
      exact ⟨k1, k2, k3, k4, k5, k6, k7, k8, k9, k10, k11, k12, fun t ht => by rw [he _ (by omega) (by omega)]; exact k13 t ht⟩
  · have g := g11 b h hb hh
    unfold VI at g ⊢
    rw [he _ (by omega) (by omega)]
    rcases g with g | g | ⟨k, hk, k1, k2⟩
    · exact Or.inl g
    · exact Or.inr (Or.inl g)
    · refine Or.inr (Or.inr ⟨k, hk, k1, ?_⟩)
      by_cases hkl : k = l
      · subst hkl; rw [h0, h1]; exact k2
      · rw [he _ (by omega) (by omega), he _ (by omega) (by omega)]
        exact k2
theorem cmd_prio (hF : WF S) (v1 v2 : Int32) : CMD (f_X4_faultOfPriority v1 v2) (f_X1_changePriority v1 v2) (f_X12_prioritizes v1 v2) id S := by
  obtain ⟨B, T, hW⟩ := hF
  have hB := hW.2.1
  have hB8 := hW.2.2.1
  rcases rng v1 0 (B - 1) (by omega) (by omega) with ⟨b, -, hb, rfl⟩ | hv1
  · have hbB : b < B := by omega
    have hb8 : b < 8 := by omega
    rcases rng v2 0 9 (by decide) (by decide) with ⟨p, -, hp, rfl⟩ | hv2
    · refine Or.inl ⟨sSt b (upd S (11 + 5 * b) (nI p)), S (11 + 5 * b), ⟨B, T, hW.cg (fun i hi => ?_)⟩, fun m hR => ?_, fun m hR => ?_, fun M hM => ?_⟩
      · unfold wx at hi
        unfold sSt
        rw [upd_n (by omega), upd_n (by omega), upd_n (by omega), upd_n (by omega), upd_n (by omega)]
      · have e0 := (rd_size hR).trans hW.1
        unfold f_X4_faultOfPriority
        simp (disch := omega) only [L0, L1, L2, L3, L4, L5, L6, L7, L8, L9, L10, L11, L12, L13, L14, L15, L16, L17, L18, L19, L20, L21, L22, L23, L24, L25, L26, L27, L28, L29, L30, L31, L32, L47, L48, L50, L51, L57, L59, L90, L97, L100, L120, L122, L127, L179, L187, L199, L200, L487, L974, L1000, L1461, L10000, L18498, L1000000, bd_s, lt_d, gd_n, e0, nI_sbs, y_out_n, if_true]
      · obtain ⟨m1, g1, g2⟩ := y_startVector (Cl_prio (v := nI p) (Cl.rf hR) hb8 rfl) hb8
        refine ⟨m1, ?_, g2⟩
        unfold f_X1_changePriority
        simp (disch := omega) only [L0, L1, L2, L3, L4, L5, L6, L7, L8, L9, L10, L11, L12, L13, L14, L15, L16, L17, L18, L19, L20, L21, L22, L23, L24, L25, L26, L27, L28, L29, L30, L31, L32, L47, L48, L50, L51, L57, L59, L90, L97, L100, L120, L122, L127, L179, L187, L199, L200, L487, L974, L1000, L1461, L10000, L18498, L1000000, nI_add, pk_mul, nI_cl, nI_lts, nI_les, nI_eqs, Ln1, n1_ne, n1_ne', n1_lts, nI_ltn, n1_les, nI_len, bd_s, lt_d, gd_n, g1, rd_prio hR hb8]
      · refine ⟨sR (sR M 128 (upd (M.1 128) 7 (S (11 + 5 * b)))) 129 (sSt b (upd S (11 + 5 * b) (nI p))), ?_, ?_, ?_, fun q h1 h2 h3 => ?_, fun j hj => ?_, rfl⟩
        · unfold f_X12_prioritizes
          rw [x_isBridge_y hbB hB8 (by rw [hM]; exact hW.1)]
          simp (disch := omega) only [L0, L1, L2, L3, L4, L5, L6, L7, L8, L9, L10, L11, L12, L13, L14, L15, L16, L17, L18, L19, L20, L21, L22, L23, L24, L25, L26, L27, L28, L29, L30, L31, L32, L47, L48, L50, L51, L57, L59, L90, L97, L100, L120, L122, L127, L179, L187, L199, L200, L487, L974, L1000, L1461, L10000, L18498, L1000000, nI_add, pk_mul, nI_cl, nI_lts, nI_les, nI_eqs, Ln1, n1_ne, n1_ne', n1_lts, nI_ltn, n1_les, nI_len, bd_s, lt_d, gd_n, wI_sR, sR_get, sR_sR, sR_ne, i10, if_false, x_inn, x_startsAnew, hM, Nat.one_ne_zero]
        · rw [sR_ne (by decide), sR_get, upd_e]
        · rw [sR_get]
        · rw [sR_ne h1, sR_ne h2]
        · rw [sR_ne (by decide), sR_get, upd_n hj]
    · refine Or.inr ⟨2, by decide, by decide, fun m hR => ?_, fun M hM => ?_⟩
      · have e0 := (rd_size hR).trans hW.1
        unfold f_X4_faultOfPriority
        simp (disch := omega) only [L0, L1, L2, L3, L4, L5, L6, L7, L8, L9, L10, L11, L12, L13, L14, L15, L16, L17, L18, L19, L20, L21, L22, L23, L24, L25, L26, L27, L28, L29, L30, L31, L32, L47, L48, L50, L51, L57, L59, L90, L97, L100, L120, L122, L127, L179, L187, L199, L200, L487, L974, L1000, L1461, L10000, L18498, L1000000, bd_s, lt_d, gd_n, e0, nI_sbs, y_out_n, y_out_y hv2, if_true, i10, if_false]
      · unfold f_X12_prioritizes
        rw [x_isBridge_y hbB hB8 (by rw [hM]; exact hW.1)]
        simp (disch := omega) only [L0, L1, L2, L3, L4, L5, L6, L7, L8, L9, L10, L11, L12, L13, L14, L15, L16, L17, L18, L19, L20, L21, L22, L23, L24, L25, L26, L27, L28, L29, L30, L31, L32, L47, L48, L50, L51, L57, L59, L90, L97, L100, L120, L122, L127, L179, L187, L199, L200, L487, L974, L1000, L1461, L10000, L18498, L1000000, bd_s, lt_d, gd_n, i10, if_false, x_in_n hv2, if_true, id]
  · refine Or.inr ⟨1, by decide, by decide, fun m hR => ?_, fun M hM => ?_⟩
    · have e0 := (rd_size hR).trans hW.1
      unfold f_X4_faultOfPriority
      simp (disch := omega) only [L0, L1, L2, L3, L4, L5, L6, L7, L8, L9, L10, L11, L12, L13, L14, L15, L16, L17, L18, L19, L20, L21, L22, L23, L24, L25, L26, L27, L28, L29, L30, L31, L32, L47, L48, L50, L51, L57, L59, L90, L97, L100, L120, L122, L127, L179, L187, L199, L200, L487, L974, L1000, L1461, L10000, L18498, L1000000, bd_s, lt_d, gd_n, e0, nI_sbs, y_out_y hv1, i10, if_false]
    · unfold f_X12_prioritizes
      rw [x_isBridge_n hB hv1 (by rw [hM]; exact hW.1)]
      simp (disch := omega) only [L0, L1, L2, L3, L4, L5, L6, L7, L8, L9, L10, L11, L12, L13, L14, L15, L16, L17, L18, L19, L20, L21, L22, L23, L24, L25, L26, L27, L28, L29, L30, L31, L32, L47, L48, L50, L51, L57, L59, L90, L97, L100, L120, L122, L127, L179, L187, L199, L200, L487, L974, L1000, L1461, L10000, L18498, L1000000, bd_s, lt_d, gd_n, if_true, id]
theorem cmd_move (hF : WF S) (v1 v2 : Int32) : CMD (f_X4_faultOfMove v1 v2) (f_X1_placeHost v1 v2) (f_X12_moves v1 v2) id S := by
  obtain ⟨B, T, hW⟩ := hF
  have hB := hW.2.1
  have hB8 := hW.2.2.1
  by_cases h1 : v1 < nI 0 ∨ nI 7 < v1
  · refine Or.inr ⟨1, by decide, by decide, fun m hR => y_faultOfMove_n hB ((rd_size hR).trans hW.1) (Or.inl h1), fun M hM => ?_⟩
    unfold f_X12_moves
    simp (disch := omega) only [L0, L1, L2, L3, L4, L5, L6, L7, L8, L9, L10, L11, L12, L13, L14, L15, L16, L17, L18, L19, L20, L21, L22, L23, L24, L25, L26, L27, L28, L29, L30, L31, L32, L47, L48, L50, L51, L57, L59, L90, L97, L100, L120, L122, L127, L179, L187, L199, L200, L487, L974, L1000, L1461, L10000, L18498, L1000000, bd_s, lt_d, gd_n, x_isHost_n h1, if_true, id]
  · obtain ⟨k, -, hk, rfl⟩ := (rng v1 0 7 (by decide) (by decide)).resolve_right h1
    rcases rng v2 0 (B - 1) (by omega) (by omega) with ⟨b, -, hb, rfl⟩ | hv2
    · have hbB : b < B := by omega
      have hk8 : k < 8 := by omega
      refine Or.inl ⟨upd S (179 + k) (nI b), S (179 + k), ?_, fun m hR => y_faultOfMove_y hB hB8 ((rd_size hR).trans hW.1) hk hbB, fun m hR => ?_, fun M hM => ?_⟩
      · obtain ⟨g1, g2, g3, g4, g5, g6, g7, g8, g9, g10, g11⟩ := hW
        refine ⟨B, T, by rw [upd_n (by omega)]; exact g1, g2, g3, by rw [upd_n (by omega)]; exact g4, g5, by rw [upd_n (by omega)]; exact g6, by rw [upd_n (by omega)]; exact g7, by rw [upd_n (by omega)]; exact g8, fun h hh => ?_, fun l hl => ?_, fun b h hb hh => ?_⟩
        · by_cases hhk : h = k
          · subst hhk; exact ⟨b, hbB, upd_e⟩
          · rw [upd_n (by omega)]; exact g9 h hh
        · obtain ⟨a, b, k1, k2, k3, k4, k5, k6, k7, k8, k9, k10, k11, k12, k13⟩ := g10 l hl
          refine ⟨a, b, k1, k2, ?_⟩
          rw [upd_n (by omega), upd_n (by omega), upd_n (by omega), upd_n (by omega), upd_n (by omega), upd_n (by omega), upd_n (by omega), upd_n (by omega), upd_n (by omega), upd_n (by omega)]
          exact ⟨k3, k4, k5, k6, k7, k8, k9, k10, k11, k12, fun t ht => by rw [upd_n (by omega)]; exact k13 t ht⟩
        · have g := g11 b h hb hh
          unfold VI at g ⊢
          rw [upd_n (by omega)]
          rcases g with g | g | ⟨l, hl, k1, k2⟩
          · exact Or.inl g
          · exact Or.inr (Or.inl g)
          · exact Or.inr (Or.inr ⟨l, hl, k1, by rw [upd_n (by omega), upd_n (by omega)]; exact k2⟩)
      · unfold f_X1_placeHost
        simp (disch := omega) only [L0, L1, L2, L3, L4, L5, L6, L7, L8, L9, L10, L11, L12, L13, L14, L15, L16, L17, L18, L19, L20, L21, L22, L23, L24, L25, L26, L27, L28, L29, L30, L31, L32, L47, L48, L50, L51, L57, L59, L90, L97, L100, L120, L122, L127, L179, L187, L199, L200, L487, L974, L1000, L1461, L10000, L18498, L1000000, nI_add, pk_mul, nI_cl, nI_lts, nI_les, nI_eqs, Ln1, n1_ne, n1_ne', n1_lts, nI_ltn, n1_les, nI_len, bd_s, lt_d, gd_n, rd_host hR hk8]
        exact ⟨_, rfl, Cl_host (Cl.rf hR) hk8 rfl⟩
      · refine ⟨sR (sR M 128 (upd (M.1 128) 7 (S (179 + k)))) 129 (upd S (179 + k) (nI b)), ?_, ?_, ?_, fun q h1 h2 h3 => ?_, fun j hj => ?_, rfl⟩
        · unfold f_X12_moves
          rw [x_isHost_y hk, bd_s, x_isBridge_y hbB hB8 (by rw [hM]; exact hW.1)]
          simp (disch := omega) only [L0, L1, L2, L3, L4, L5, L6, L7, L8, L9, L10, L11, L12, L13, L14, L15, L16, L17, L18, L19, L20, L21, L22, L23, L24, L25, L26, L27, L28, L29, L30, L31, L32, L47, L48, L50, L51, L57, L59, L90, L97, L100, L120, L122, L127, L179, L187, L199, L200, L487, L974, L1000, L1461, L10000, L18498, L1000000, nI_add, pk_mul, nI_cl, nI_lts, nI_les, nI_eqs, Ln1, n1_ne, n1_ne', n1_lts, nI_ltn, n1_les, nI_len, bd_s, lt_d, gd_n, wI_sR, sR_get, sR_sR, sR_ne, i10, if_false, hM, Nat.one_ne_zero]
        · rw [sR_ne (by decide), sR_get, upd_e]
        · rw [sR_get]
        · rw [sR_ne h1, sR_ne h2]
        · rw [sR_ne (by decide), sR_get, upd_n hj]
    · refine Or.inr ⟨1, by decide, by decide, fun m hR => y_faultOfMove_n hB ((rd_size hR).trans hW.1) (Or.inr hv2), fun M hM => ?_⟩
      unfold f_X12_moves
      rw [x_isHost_y hk, bd_s, x_isBridge_n hB hv2 (by rw [hM]; exact hW.1)]
      simp (disch := omega) only [L0, L1, L2, L3, L4, L5, L6, L7, L8, L9, L10, L11, L12, L13, L14, L15, L16, L17, L18, L19, L20, L21, L22, L23, L24, L25, L26, L27, L28, L29, L30, L31, L32, L47, L48, L50, L51, L57, L59, L90, L97, L100, L120, L122, L127, L179, L187, L199, L200, L487, L974, L1000, L1461, L10000, L18498, L1000000, bd_s, lt_d, gd_n, i10, if_false, if_true, id]
theorem cmd_bid (hF : WF S) (v1 v2 v3 : Int32) : CMD (f_X4_faultOfBid v1 v2 v3) (f_X8_changeBid v1 v2 v3) (f_X12_bids v1 v2 v3) id S := by
  obtain ⟨B, T, hW⟩ := hF
  have w3 := hW.2.2.2.1
  have w4 := hW.2.2.2.2.1
  by_cases h1 : v1 < nI 0 ∨ nI 3 < v1
  · refine Or.inr ⟨1, by decide, by decide, fun m hR => y_faultOfBid_n ((rd_total hR).trans w3) w4 (Or.inl h1), fun M hM => ?_⟩
    unfold f_X12_bids
    simp (disch := omega) only [L0, L1, L2, L3, L4, L5, L6, L7, L8, L9, L10, L11, L12, L13, L14, L15, L16, L17, L18, L19, L20, L21, L22, L23, L24, L25, L26, L27, L28, L29, L30, L31, L32, L47, L48, L50, L51, L57, L59, L90, L97, L100, L120, L122, L127, L179, L187, L199, L200, L487, L974, L1000, L1461, L10000, L18498, L1000000, bd_s, lt_d, gd_n, x_isTenant_n h1, if_true, id]
  · obtain ⟨t, -, ht, rfl⟩ := (rng v1 0 3 (by decide) (by decide)).resolve_right h1
    rcases rngT v2 T (by omega) with ⟨l, hl, rfl⟩ | hv2
    · rcases rng v3 0 1000 (by decide) (by decide) with ⟨d, -, hd, rfl⟩ | hv3
      · have ht4 : t < 4 := by omega
        refine Or.inl ⟨upd S (199 + 18 * l + (14 + t)) (nI d), S (199 + 18 * l + (14 + t)), ⟨B, T, hW.lk hl (fun i h1 h2 => upd_n (by omega)) ?_ (upd_n (by omega)) (upd_n (by omega))⟩, fun m hR => y_faultOfBid_y ((rd_total hR).trans w3) w4 ht hl hd, fun m hR => ?_, fun M hM => ?_⟩
        · obtain ⟨a, b, k1, k2, k3, k4, k5, k6, k7, k8, k9, k10, k11, k12, k13⟩ := hW.2.2.2.2.2.2.2.2.2.1 l hl
          refine ⟨a, b, k1, k2, ?_⟩
          rw [upd_n (by omega), upd_n (by omega), upd_n (by omega), upd_n (by omega), upd_n (by omega), upd_n (by omega), upd_n (by omega), upd_n (by omega), upd_n (by omega), upd_n (by omega)]
          refine ⟨k3, k4, k5, k6, k7, k8, k9, k10, k11, k12, fun u hu => ?_⟩
          by_cases htu : u = t
          · subst htu; exact ⟨d, upd_e, hd⟩
          · rw [upd_n (by omega)]; exact k13 u hu
        · unfold f_X8_changeBid
          have e16 : t * 16 = 16 * t := Nat.mul_comm _ _
          simp (disch := omega) only [L0, L1, L2, L3, L4, L5, L6, L7, L8, L9, L10, L11, L12, L13, L14, L15, L16, L17, L18, L19, L20, L21, L22, L23, L24, L25, L26, L27, L28, L29, L30, L31, L32, L47, L48, L50, L51, L57, L59, L90, L97, L100, L120, L122, L127, L179, L187, L199, L200, L487, L974, L1000, L1461, L10000, L18498, L1000000, nI_add, pk_mul, nI_cl, nI_lts, nI_les, nI_eqs, Ln1, n1_ne, n1_ne', n1_lts, nI_ltn, n1_les, nI_len, bd_s, lt_d, gd_n, e16, rd_bid hR w3 w4 hl ht4]
          exact ⟨_, rfl, Cl_bid (Cl.rf hR) w3 w4 hl ht4 rfl⟩
        · refine ⟨sR (sR M 128 (upd (M.1 128) 7 (S (199 + 18 * l + (14 + t))))) 129 (upd S (199 + 18 * l + (14 + t)) (nI d)), ?_, ?_, ?_, fun q h1 h2 h3 => ?_, fun j hj => ?_, rfl⟩
          · unfold f_X12_bids
            rw [x_isTenant_y ht, bd_s, x_isLink_y hl w4 (by rw [hM]; exact w3)]
            simp (disch := omega) only [L0, L1, L2, L3, L4, L5, L6, L7, L8, L9, L10, L11, L12, L13, L14, L15, L16, L17, L18, L19, L20, L21, L22, L23, L24, L25, L26, L27, L28, L29, L30, L31, L32, L47, L48, L50, L51, L57, L59, L90, L97, L100, L120, L122, L127, L179, L187, L199, L200, L487, L974, L1000, L1461, L10000, L18498, L1000000, nI_add, pk_mul, nI_cl, nI_lts, nI_les, nI_eqs, Ln1, n1_ne, n1_ne', n1_lts, nI_ltn, n1_les, nI_len, bd_s, lt_d, gd_n, wI_sR, sR_get, sR_sR, sR_ne, i10, if_false, x_inn, x_of, x_puts, hM, Nat.one_ne_zero]
          · rw [sR_ne (by decide), sR_get, upd_e]
          · rw [sR_get]
          · rw [sR_ne h1, sR_ne h2]
          · rw [sR_ne (by decide), sR_get, upd_n hj]
      · refine Or.inr ⟨2, by decide, by decide, fun m hR => ?_, fun M hM => ?_⟩
        · have e5 := (rd_total hR).trans w3
          unfold f_X4_faultOfBid
          simp (disch := omega) only [L0, L1, L2, L3, L4, L5, L6, L7, L8, L9, L10, L11, L12, L13, L14, L15, L16, L17, L18, L19, L20, L21, L22, L23, L24, L25, L26, L27, L28, L29, L30, L31, L32, L47, L48, L50, L51, L57, L59, L90, L97, L100, L120, L122, L127, L179, L187, L199, L200, L487, L974, L1000, L1461, L10000, L18498, L1000000, bd_s, lt_d, gd_n, y_out_n, y_out_y hv3, y_has_y hl w4 e5, i10, if_false, if_true]
        · unfold f_X12_bids
          rw [x_isTenant_y ht, bd_s, x_isLink_y hl w4 (by rw [hM]; exact w3)]
          simp (disch := omega) only [L0, L1, L2, L3, L4, L5, L6, L7, L8, L9, L10, L11, L12, L13, L14, L15, L16, L17, L18, L19, L20, L21, L22, L23, L24, L25, L26, L27, L28, L29, L30, L31, L32, L47, L48, L50, L51, L57, L59, L90, L97, L100, L120, L122, L127, L179, L187, L199, L200, L487, L974, L1000, L1461, L10000, L18498, L1000000, bd_s, lt_d, gd_n, i10, if_false, x_in_n hv3, if_true, id]
    · refine Or.inr ⟨1, by decide, by decide, fun m hR => y_faultOfBid_n ((rd_total hR).trans w3) w4 (Or.inr hv2), fun M hM => ?_⟩
      unfold f_X12_bids
      rw [x_isTenant_y ht, bd_s, x_isLink_n w4 hv2 (by rw [hM]; exact w3)]
      simp (disch := omega) only [L0, L1, L2, L3, L4, L5, L6, L7, L8, L9, L10, L11, L12, L13, L14, L15, L16, L17, L18, L19, L20, L21, L22, L23, L24, L25, L26, L27, L28, L29, L30, L31, L32, L47, L48, L50, L51, L57, L59, L90, L97, L100, L120, L122, L127, L179, L187, L199, L200, L487, L974, L1000, L1461, L10000, L18498, L1000000, bd_s, lt_d, gd_n, i10, if_false, if_true, id]
end PK
