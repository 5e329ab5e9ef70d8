/-! A link is added. -/
/-- a cell of the class's network, by the model's place -/
def rP (m : me) (i : Nat) : Int32 := m.1 (1 + (pl i).1) (pl i).2
def wP (m : me) (i : Nat) (v : Int32) : me := wI m (1 + (pl i).1) (pl i).2 v
def jF (x y c f : Nat) : Int32 := if f = 0 then nI x else if f = 1 then nI y else if f = 2 then nI c else if f = 3 then nI c else if f = 4 then nI 1 else if f = 5 then n1 else if f = 8 then nI 2 else if f = 11 then nI 2 else nI 0
def sJ (T x y c : Nat) (S : Nat → Int32) : Nat → Int32 := fun i => if i = 5 then nI (T + 1) else if 199 + 18 * T ≤ i ∧ i < 199 + 18 * T + 18 then jF x y c (i - (199 + 18 * T)) else S i
section PJ
variable {m m0 M : me} {S S' : Nat → Int32} {B T : Nat}
theorem rP_wP {i k : Nat} {v : Int32} (hi : i < 487) (hk : k < 487) : rP (wP m k v) i = upd (rP m) k v i := by
  unfold rP wP upd
  rw [wI_sR]
  by_cases h : i = k
  · subst h; rw [if_pos rfl, sR_get, upd_e]
  · rw [if_neg h]
    have hne : pl i ≠ pl k := fun e => h (pl_inj hi hk e)
    by_cases hr : (pl i).1 = (pl k).1
    · have hc : (pl i).2 ≠ (pl k).2 := fun e => hne (Prod.ext hr e)
      show (sR m (1 + (pl k).1) _).1 (1 + (pl i).1) (pl i).2 = m.1 (1 + (pl i).1) (pl i).2
      rw [hr, sR_get, upd_n hc]
    · rw [sR_ne (by omega)]
theorem fc_wP {a b : me} (h : fc a b) {i : Nat} {v : Int32} (hi : i < 487) : fc a (wP b i v) := h.w (Or.inl (by have := pl_lt i hi; omega))
theorem wP_of {i r j q : Nat} {v : Int32} (hp : pl i = (r, j)) (hq : q = 1 + r) : wI m q j v = wP m i v := by unfold wP; rw [hp, hq]
theorem sJ_5 {x y c : Nat} : sJ T x y c S 5 = nI (T + 1) := if_pos rfl
theorem sJ_in {x y c f : Nat} (hf : f < 18) : sJ T x y c S (199 + 18 * T + f) = jF x y c f := by
  unfold sJ
  rw [if_neg (by omega), if_pos ⟨by omega, by omega⟩, Nat.add_sub_cancel_left]
theorem sJ_out {x y c i : Nat} (h5 : i ≠ 5) (h : ¬ (199 + 18 * T ≤ i ∧ i < 199 + 18 * T + 18)) : sJ T x y c S i = S i := by
  unfold sJ
  rw [if_neg h5, if_neg h]
theorem it_at {o : Nat} {x : Int32} (n i : Nat) : it (fun k S => upd S (o + k) x) n S i = if o ≤ i ∧ i < o + n then x else S i := by
  induction n with
  | zero => rw [if_neg (by omega)]; rfl
  | succ n ih =>
    show upd (it (fun k S => upd S (o + k) x) n S) (o + n) x i = _
    unfold upd at ih ⊢
    by_cases h : i = o + n
    · rw [if_pos h, if_pos (by omega)]
    · rw [if_neg h, ih]
      by_cases h2 : o ≤ i ∧ i < o + n
      · rw [if_pos h2, if_pos (by omega)]
      · rw [if_neg h2, if_neg (by omega)]
theorem sJ_model {x y c : Nat} (hT : T < 16) : upd (upd (upd (upd (upd (upd (upd (upd (it (fun k S => upd S (199 + 18 * T + k) (nI 0)) 18 (upd S 5 (nI (T + 1)))) (199 + 18 * T + 0) (nI x)) (199 + 18 * T + 1) (nI y)) (199 + 18 * T + 2) (nI c)) (199 + 18 * T + 3) (nI c)) (199 + 18 * T + 4) (nI 1)) (199 + 18 * T + 5) n1) (199 + 18 * T + 8) (nI 2)) (199 + 18 * T + 11) (nI 2) = sJ T x y c S := by
  funext i
  by_cases hb : 199 + 18 * T ≤ i ∧ i < 199 + 18 * T + 18
  · obtain ⟨f, rfl⟩ : ∃ f, i = 199 + 18 * T + f := ⟨i - (199 + 18 * T), by omega⟩
    have hf : f < 18 := by omega
    have hz : ∀ f, f < 18 → it (fun k S => upd S (199 + 18 * T + k) (nI 0)) 18 (upd S 5 (nI (T + 1))) (199 + 18 * T + f) = nI 0 := fun f hf => by rw [it_at, if_pos ⟨by omega, by omega⟩]
    rw [sJ_in hf]
    match f, hf with
    | 0, _ => rw [upd_n (by omega), upd_n (by omega), upd_n (by omega), upd_n (by omega), upd_n (by omega), upd_n (by omega), upd_n (by omega), upd_e]; rfl
    | 1, _ => rw [upd_n (by omega), upd_n (by omega), upd_n (by omega), upd_n (by omega), upd_n (by omega), upd_n (by omega), upd_e]; rfl
    | 2, _ => rw [upd_n (by omega), upd_n (by omega), upd_n (by omega), upd_n (by omega), upd_n (by omega), upd_e]; rfl
    | 3, _ => rw [upd_n (by omega), upd_n (by omega), upd_n (by omega), upd_n (by omega), upd_e]; rfl
    | 4, _ => rw [upd_n (by omega), upd_n (by omega), upd_n (by omega), upd_e]; rfl
    | 5, _ => rw [upd_n (by omega), upd_n (by omega), upd_e]; rfl
    | 8, _ => rw [upd_n (by omega), upd_e]; rfl
    | 11, _ => rw [upd_e]; rfl
    | 6, h | 7, h | 9, h | 10, h | 12, h | 13, h | 14, h | 15, h | 16, h | 17, h =>
      rw [upd_n (by omega), upd_n (by omega), upd_n (by omega), upd_n (by omega), upd_n (by omega), upd_n (by omega), upd_n (by omega), upd_n (by omega), hz _ h]; rfl
    | f + 18, h => exact absurd h (by omega)
  · rw [upd_n (by omega), upd_n (by omega), upd_n (by omega), upd_n (by omega), upd_n (by omega), upd_n (by omega), upd_n (by omega), upd_n (by omega), it_at, if_neg hb]
    by_cases h5 : i = 5
    · subst h5; rw [upd_e, sJ_5]
    · rw [upd_n h5, sJ_out h5 hb]
theorem x_joins {a b c : Nat} (hW : WT B T S) (hM : M.1 129 = S) (ha : a < B) (hb : b < B) (hab : a ≠ b) (hc1 : 1 ≤ c) (hc : c ≤ 100) (hT : T < 16) : f_X12_joins (nI a) (nI b) (nI c) M = some (nI 0, sR (sR M 128 (upd (M.1 128) 7 (nI T))) 129 (sJ T (if b ≤ a then b else a) (if b ≤ a then a else b) c S)) := by
  have w3 := hW.2.2.2.1
  have hB8 := hW.2.2.1
  unfold f_X12_joins
  rw [x_isBridge_y ha hB8 (by rw [hM]; exact hW.1), bd_s, L0, ifn (show ¬ nI 1 = nI 0 by decide), x_isBridge_y hb hB8 (by rw [hM]; exact hW.1), bd_s]
  have hl := lo_gen (b := b_X12_joins_71 (nI a) (nI b) (nI c)) (fun k => (nI k, sR (sR M 128 (upd (M.1 128) 7 (nI T))) 129 (it (fun k S => upd S (199 + 18 * T + k) (nI 0)) k (upd S 5 (nI (T + 1)))))) 18 (nI 18, sR (sR M 128 (upd (M.1 128) 7 (nI T))) 129 (it (fun k S => upd S (199 + 18 * T + k) (nI 0)) 18 (upd S 5 (nI (T + 1))))) (fun k hk => by
    unfold b_X12_joins_71
    have : ¬ 18 ≤ k := by omega
    simp (disch := omega) only [L0, L1, L2, L3, L4, L5, L6, L7, L8, L9, L10, L11, L12, L13, L14, L15, L16, L17, L18, L19, L20, L21, L22, L23, L24, L25, L26, L27, L28, L29, L30, L31, L32, L47, L48, L50, L51, L57, L59, L90, L97, L100, L120, L122, L127, L179, L187, L199, L200, L487, L974, L1000, L1461, L10000, L18498, L1000000, nI_add, pk_mul, nI_cl, nI_lts, nI_les, nI_eqs, Ln1, n1_ne, n1_ne', n1_lts, nI_ltn, n1_les, nI_len, bd_s, lt_d, gd_n, wI_sR, sR_get, sR_sR, sR_ne, if_neg this, upd_e, x_puts, it]) (by
    unfold b_X12_joins_71
    simp (disch := omega) only [L0, L1, L2, L3, L4, L5, L6, L7, L8, L9, L10, L11, L12, L13, L14, L15, L16, L17, L18, L19, L20, L21, L22, L23, L24, L25, L26, L27, L28, L29, L30, L31, L32, L47, L48, L50, L51, L57, L59, L90, L97, L100, L120, L122, L127, L179, L187, L199, L200, L487, L974, L1000, L1461, L10000, L18498, L1000000, nI_add, pk_mul, nI_cl, nI_lts, nI_les, nI_eqs, Ln1, n1_ne, n1_ne', n1_lts, nI_ltn, n1_les, nI_len, bd_s, lt_d, gd_n, if_true, Nat.le_refl]) (N := 2048) (by decide)
  have hl2 : lo (b_X12_joins_71 (nI a) (nI b) (nI c)) 2048 (nI 0, sR (sR M 128 (upd (M.1 128) 7 (nI T))) 129 (upd S 5 (nI (T + 1)))) = some (nI 18, sR (sR M 128 (upd (M.1 128) 7 (nI T))) 129 (it (fun k S => upd S (199 + 18 * T + k) (nI 0)) 18 (upd S 5 (nI (T + 1))))) := hl
  have hT16 : ¬ T = 16 := by omega
  rw [← sJ_model hT]
  by_cases hba : b ≤ a
  · simp (disch := omega) only [L0, L1, L2, L3, L4, L5, L6, L7, L8, L9, L10, L11, L12, L13, L14, L15, L16, L17, L18, L19, L20, L21, L22, L23, L24, L25, L26, L27, L28, L29, L30, L31, L32, L47, L48, L50, L51, L57, L59, L90, L97, L100, L120, L122, L127, L179, L187, L199, L200, L487, L974, L1000, L1461, L10000, L18498, L1000000, nI_add, pk_mul, nI_cl, nI_lts, nI_les, nI_eqs, Ln1, n1_ne, n1_ne', n1_lts, nI_ltn, n1_les, nI_len, bd_s, lt_d, gd_n, wI_sR, sR_get, sR_sR, sR_ne, hab, if_false, x_inn, i10, hM, w3, hT16, hl2, if_pos hba, j_X12_joins_111, j_X12_joins_130, x_puts, upd_e, Nat.one_ne_zero]
  · simp (disch := omega) only [L0, L1, L2, L3, L4, L5, L6, L7, L8, L9, L10, L11, L12, L13, L14, L15, L16, L17, L18, L19, L20, L21, L22, L23, L24, L25, L26, L27, L28, L29, L30, L31, L32, L47, L48, L50, L51, L57, L59, L90, L97, L100, L120, L122, L127, L179, L187, L199, L200, L487, L974, L1000, L1461, L10000, L18498, L1000000, nI_add, pk_mul, nI_cl, nI_lts, nI_les, nI_eqs, Ln1, n1_ne, n1_ne', n1_lts, nI_ltn, n1_les, nI_len, bd_s, lt_d, gd_n, wI_sR, sR_get, sR_sR, sR_ne, hab, if_false, x_inn, i10, hM, w3, hT16, hl2, if_neg hba, j_X12_joins_111, j_X12_joins_130, x_puts, upd_e, Nat.one_ne_zero]
theorem WT.join {x y c : Nat} (hW : WT B T S) (hT : T < 16) (hxy : x < y) (hy : y < B) (hc : c ≤ 100) : WT B (T + 1) (sJ T x y c S) := by
  obtain ⟨g1, g2, g3, g4, g5, g6, g7, g8, g9, g10, g11⟩ := hW
  refine ⟨by rw [sJ_out (by omega) (by omega)]; exact g1, g2, g3, sJ_5, by omega, by rw [sJ_out (by omega) (by omega)]; exact g6, by rw [sJ_out (by omega) (by omega)]; exact g7, by rw [sJ_out (by omega) (by omega)]; exact g8, fun h hh => by rw [sJ_out (by omega) (by omega)]; exact g9 h hh, fun l hl => ?_, fun b h hb hh => ?_⟩
  · by_cases hlT : l = T
    · subst hlT
      have e0 : sJ l x y c S (199 + 18 * l) = nI x := sJ_in (f := 0) (by omega)
      refine ⟨x, y, hxy, hy, e0, sJ_in (f := 1) (by omega), ⟨c, sJ_in (f := 2) (by omega), hc⟩, ⟨c, sJ_in (f := 3) (by omega), by omega⟩, Or.inr (sJ_in (f := 4) (by omega)), Or.inl (sJ_in (f := 5) (by omega)), ⟨0, sJ_in (f := 6) (by omega), by omega⟩, ⟨0, sJ_in (f := 7) (by omega), by omega⟩, ⟨0, sJ_in (f := 9) (by omega), by omega⟩, ⟨0, sJ_in (f := 12) (by omega), by omega⟩, fun t ht => ⟨0, ?_, by omega⟩⟩
      rw [sJ_in (f := 14 + t) (by omega)]
      unfold jF
      rw [if_neg (by omega), if_neg (by omega), if_neg (by omega), if_neg (by omega), if_neg (by omega), if_neg (by omega), if_neg (by omega), if_neg (by omega)]
    · obtain ⟨a, b, g⟩ := g10 l (by omega)
      refine ⟨a, b, ?_⟩
      rw [sJ_out (by omega) (by omega), sJ_out (by omega) (by omega), sJ_out (by omega) (by omega), sJ_out (by omega) (by omega), sJ_out (by omega) (by omega), sJ_out (by omega) (by omega), sJ_out (by omega) (by omega), sJ_out (by omega) (by omega), sJ_out (by omega) (by omega), sJ_out (by omega) (by omega)]
      obtain ⟨k1, k2, k3, k4, k5, k6, k7, k8, k9, k10, k11, k12, k13⟩ := g
      exact ⟨k1, k2, k3, k4, k5, k6, k7, k8, k9, k10, k11, k12, fun t ht => by rw [sJ_out (by omega) (by omega)]; exact k13 t ht⟩
  · have g := g11 b h hb hh
    unfold VI at g ⊢
    rw [sJ_out (by omega) (by omega)]
    rcases g with g | g | ⟨l, hl, k1, k2⟩
    · exact Or.inl g
    · exact Or.inr (Or.inl g)
    · exact Or.inr (Or.inr ⟨l, by omega, k1, by rw [sJ_out (by omega) (by omega), sJ_out (by omega) (by omega)]; exact k2⟩)
def mJ (m : me) (T x y c : Nat) : me := wP (wP (wP (wP (wP (wP (wP (wP (wP (wP (wP (wP (wP (wP (wP (m) (5) (nI (T + 1))) (199 + 18 * T) (nI x)) (199 + 18 * T + 1) (nI y)) (199 + 18 * T + 2) (nI c)) (199 + 18 * T + 3) (nI c)) (199 + 18 * T + 4) (nI 1)) (199 + 18 * T + 5) (n1)) (199 + 18 * T + 6) (nI 0)) (199 + 18 * T + 7) (nI 0)) (199 + 18 * T + 8) (nI 2)) (199 + 18 * T + 9) (nI 0)) (199 + 18 * T + 10) (nI 0)) (199 + 18 * T + 11) (nI 2)) (199 + 18 * T + 12) (nI 0)) (199 + 18 * T + 13) (nI 0)
theorem mJ_rP {x y c i : Nat} (hT : T < 16) (hi : i < 487) (h5 : i ≠ 5) (hb : ¬ (199 + 18 * T ≤ i ∧ i < 199 + 18 * T + 14)) : rP (mJ m T x y c) i = rP m i := by
  unfold mJ
  rw [rP_wP hi (by omega), upd_n (by omega), rP_wP hi (by omega), upd_n (by omega), rP_wP hi (by omega), upd_n (by omega), rP_wP hi (by omega), upd_n (by omega), rP_wP hi (by omega), upd_n (by omega), rP_wP hi (by omega), upd_n (by omega), rP_wP hi (by omega), upd_n (by omega), rP_wP hi (by omega), upd_n (by omega), rP_wP hi (by omega), upd_n (by omega), rP_wP hi (by omega), upd_n (by omega), rP_wP hi (by omega), upd_n (by omega), rP_wP hi (by omega), upd_n (by omega), rP_wP hi (by omega), upd_n (by omega), rP_wP hi (by omega), upd_n (by omega), rP_wP hi (by omega), upd_n (by omega)]
theorem mJ_in {x y c f : Nat} (hT : T < 16) (hf : f < 14) : rP (mJ m T x y c) (199 + 18 * T + f) = jF x y c f := by
  unfold mJ
  match f, hf with
  | 0, _ => rw [rP_wP (by omega) (by omega), upd_n (by omega), rP_wP (by omega) (by omega), upd_n (by omega), rP_wP (by omega) (by omega), upd_n (by omega), rP_wP (by omega) (by omega), upd_n (by omega), rP_wP (by omega) (by omega), upd_n (by omega), rP_wP (by omega) (by omega), upd_n (by omega), rP_wP (by omega) (by omega), upd_n (by omega), rP_wP (by omega) (by omega), upd_n (by omega), rP_wP (by omega) (by omega), upd_n (by omega), rP_wP (by omega) (by omega), upd_n (by omega), rP_wP (by omega) (by omega), upd_n (by omega), rP_wP (by omega) (by omega), upd_n (by omega), rP_wP (by omega) (by omega), upd_n (by omega), rP_wP (by omega) (by omega)]; exact upd_e
  | 1, _ => rw [rP_wP (by omega) (by omega), upd_n (by omega), rP_wP (by omega) (by omega), upd_n (by omega), rP_wP (by omega) (by omega), upd_n (by omega), rP_wP (by omega) (by omega), upd_n (by omega), rP_wP (by omega) (by omega), upd_n (by omega), rP_wP (by omega) (by omega), upd_n (by omega), rP_wP (by omega) (by omega), upd_n (by omega), rP_wP (by omega) (by omega), upd_n (by omega), rP_wP (by omega) (by omega), upd_n (by omega), rP_wP (by omega) (by omega), upd_n (by omega), rP_wP (by omega) (by omega), upd_n (by omega), rP_wP (by omega) (by omega), upd_n (by omega), rP_wP (by omega) (by omega), upd_e]; rfl
  | 2, _ => rw [rP_wP (by omega) (by omega), upd_n (by omega), rP_wP (by omega) (by omega), upd_n (by omega), rP_wP (by omega) (by omega), upd_n (by omega), rP_wP (by omega) (by omega), upd_n (by omega), rP_wP (by omega) (by omega), upd_n (by omega), rP_wP (by omega) (by omega), upd_n (by omega), rP_wP (by omega) (by omega), upd_n (by omega), rP_wP (by omega) (by omega), upd_n (by omega), rP_wP (by omega) (by omega), upd_n (by omega), rP_wP (by omega) (by omega), upd_n (by omega), rP_wP (by omega) (by omega), upd_n (by omega), rP_wP (by omega) (by omega), upd_e]; rfl
  | 3, _ => rw [rP_wP (by omega) (by omega), upd_n (by omega), rP_wP (by omega) (by omega), upd_n (by omega), rP_wP (by omega) (by omega), upd_n (by omega), rP_wP (by omega) (by omega), upd_n (by omega), rP_wP (by omega) (by omega), upd_n (by omega), rP_wP (by omega) (by omega), upd_n (by omega), rP_wP (by omega) (by omega), upd_n (by omega), rP_wP (by omega) (by omega), upd_n (by omega), rP_wP (by omega) (by omega), upd_n (by omega), rP_wP (by omega) (by omega), upd_n (by omega), rP_wP (by omega) (by omega), upd_e]; rfl
  | 4, _ => rw [rP_wP (by omega) (by omega), upd_n (by omega), rP_wP (by omega) (by omega), upd_n (by omega), rP_wP (by omega) (by omega), upd_n (by omega), rP_wP (by omega) (by omega), upd_n (by omega), rP_wP (by omega) (by omega), upd_n (by omega), rP_wP (by omega) (by omega), upd_n (by omega), rP_wP (by omega) (by omega), upd_n (by omega), rP_wP (by omega) (by omega), upd_n (by omega), rP_wP (by omega) (by omega), upd_n (by omega), rP_wP (by omega) (by omega), upd_e]; rfl
  | 5, _ => rw [rP_wP (by omega) (by omega), upd_n (by omega), rP_wP (by omega) (by omega), upd_n (by omega), rP_wP (by omega) (by omega), upd_n (by omega), rP_wP (by omega) (by omega), upd_n (by omega), rP_wP (by omega) (by omega), upd_n (by omega), rP_wP (by omega) (by omega), upd_n (by omega), rP_wP (by omega) (by omega), upd_n (by omega), rP_wP (by omega) (by omega), upd_n (by omega), rP_wP (by omega) (by omega), upd_e]; rfl
  | 6, _ => rw [rP_wP (by omega) (by omega), upd_n (by omega), rP_wP (by omega) (by omega), upd_n (by omega), rP_wP (by omega) (by omega), upd_n (by omega), rP_wP (by omega) (by omega), upd_n (by omega), rP_wP (by omega) (by omega), upd_n (by omega), rP_wP (by omega) (by omega), upd_n (by omega), rP_wP (by omega) (by omega), upd_n (by omega), rP_wP (by omega) (by omega), upd_e]; rfl
  | 7, _ => rw [rP_wP (by omega) (by omega), upd_n (by omega), rP_wP (by omega) (by omega), upd_n (by omega), rP_wP (by omega) (by omega), upd_n (by omega), rP_wP (by omega) (by omega), upd_n (by omega), rP_wP (by omega) (by omega), upd_n (by omega), rP_wP (by omega) (by omega), upd_n (by omega), rP_wP (by omega) (by omega), upd_e]; rfl
  | 8, _ => rw [rP_wP (by omega) (by omega), upd_n (by omega), rP_wP (by omega) (by omega), upd_n (by omega), rP_wP (by omega) (by omega), upd_n (by omega), rP_wP (by omega) (by omega), upd_n (by omega), rP_wP (by omega) (by omega), upd_n (by omega), rP_wP (by omega) (by omega), upd_e]; rfl
  | 9, _ => rw [rP_wP (by omega) (by omega), upd_n (by omega), rP_wP (by omega) (by omega), upd_n (by omega), rP_wP (by omega) (by omega), upd_n (by omega), rP_wP (by omega) (by omega), upd_n (by omega), rP_wP (by omega) (by omega), upd_e]; rfl
  | 10, _ => rw [rP_wP (by omega) (by omega), upd_n (by omega), rP_wP (by omega) (by omega), upd_n (by omega), rP_wP (by omega) (by omega), upd_n (by omega), rP_wP (by omega) (by omega), upd_e]; rfl
  | 11, _ => rw [rP_wP (by omega) (by omega), upd_n (by omega), rP_wP (by omega) (by omega), upd_n (by omega), rP_wP (by omega) (by omega), upd_e]; rfl
  | 12, _ => rw [rP_wP (by omega) (by omega), upd_n (by omega), rP_wP (by omega) (by omega), upd_e]; rfl
  | 13, _ => rw [rP_wP (by omega) (by omega), upd_e]; rfl
  | f + 14, h => exact absurd h (by omega)
theorem mJ_5 {x y c : Nat} (hT : T < 16) : rP (mJ m T x y c) 5 = nI (T + 1) := by
  unfold mJ
  rw [rP_wP (by omega) (by omega), upd_n (by omega), rP_wP (by omega) (by omega), upd_n (by omega), rP_wP (by omega) (by omega), upd_n (by omega), rP_wP (by omega) (by omega), upd_n (by omega), rP_wP (by omega) (by omega), upd_n (by omega), rP_wP (by omega) (by omega), upd_n (by omega), rP_wP (by omega) (by omega), upd_n (by omega), rP_wP (by omega) (by omega), upd_n (by omega), rP_wP (by omega) (by omega), upd_n (by omega), rP_wP (by omega) (by omega), upd_n (by omega), rP_wP (by omega) (by omega), upd_n (by omega), rP_wP (by omega) (by omega), upd_n (by omega), rP_wP (by omega) (by omega), upd_n (by omega), rP_wP (by omega) (by omega), upd_n (by omega), rP_wP (by omega) (by omega), upd_e]
theorem mJ_fc {x y c : Nat} (hT : T < 16) : fc m (mJ m T x y c) := by
  unfold mJ
  exact fc_wP (fc_wP (fc_wP (fc_wP (fc_wP (fc_wP (fc_wP (fc_wP (fc_wP (fc_wP (fc_wP (fc_wP (fc_wP (fc_wP (fc_wP (fc.rf m) (by omega)) (by omega)) (by omega)) (by omega)) (by omega)) (by omega)) (by omega)) (by omega)) (by omega)) (by omega)) (by omega)) (by omega)) (by omega)) (by omega)) (by omega)
theorem mJ_27 {x y c : Nat} (hT : T < 16) : (mJ m T x y c).1 27 = m.1 27 := by
  unfold mJ wP
  rw [pl_low T hT, pl_high T hT, pl_base T hT, pl_lcost T hT, pl_up T hT, pl_win T hT, pl_price T hT, pl_strk T hT, pl_rolea T hT, pl_stata T hT, pl_timra T hT, pl_roleb T hT, pl_statb T hT, pl_timrb T hT]
  simp (disch := decide) only [wI_sR, sR_ne, Nat.reduceAdd, show pl 5 = (10, 0) from rfl]
theorem mJ_16 {x y c : Nat} (hT : T < 16) : (mJ m T x y c).1 16 = upd (m.1 16) T (nI 1) := by
  unfold mJ wP
  rw [pl_low T hT, pl_high T hT, pl_base T hT, pl_lcost T hT, pl_up T hT, pl_win T hT, pl_price T hT, pl_strk T hT, pl_rolea T hT, pl_stata T hT, pl_timra T hT, pl_roleb T hT, pl_statb T hT, pl_timrb T hT]
  simp (disch := decide) only [wI_sR, sR_ne, sR_get, Nat.reduceAdd, show pl 5 = (10, 0) from rfl]
theorem Cl_app {x y c : Nat} (hR : RN m 1 S) (w3 : S 5 = nI T) (hT : T < 16) : Cl m (mJ m T x y c) (sJ T x y c S) := by
  have eT : (S 5).toNatClampNeg = T := T_cl w3 (by omega)
  have eT' : (sJ T x y c S 5).toNatClampNeg = T + 1 := by rw [sJ_5]; exact nI_cl (by omega)
  refine ⟨⟨fun i hi hr => ?_, fun t l ht hl hTl => ?_, fun l hl => ?_⟩, mJ_fc hT⟩
  · show rP (mJ m T x y c) i = _
    by_cases h5 : i = 5
    · subst h5; rw [mJ_5 hT, sJ_5]
    · by_cases hb : 199 + 18 * T ≤ i ∧ i < 199 + 18 * T + 18
      · obtain ⟨f, rfl⟩ : ∃ f, i = 199 + 18 * T + f := ⟨i - (199 + 18 * T), by omega⟩
        have hf : f < 18 := by omega
        rw [sJ_in hf]
        by_cases hf14 : f < 14
        · exact mJ_in hT hf14
        · obtain ⟨t, rfl⟩ : ∃ t, f = 14 + t := ⟨f - 14, by omega⟩
          rw [mJ_rP hT hi h5 (by omega)]
          unfold rP
          rw [pl_bid T hT t (by omega)]
          have := hR.2.1 t T (by omega) hT (by rw [eT]; exact Nat.le_refl T)
          show m.1 27 (16 * t + T) = _
          rw [show m.1 27 (16 * t + T) = nI 0 from this]
          unfold jF
          rw [if_neg (by omega), if_neg (by omega), if_neg (by omega), if_neg (by omega), if_neg (by omega), if_neg (by omega), if_neg (by omega), if_neg (by omega)]
      · rw [mJ_rP hT hi h5 (by omega), sJ_out h5 hb]
        refine hR.1 i hi ⟨fun hm => ?_, fun hm => ?_⟩
        · have := hr.1 hm
          rw [sJ_out (by omega) (by omega)] at this
          exact this
        · have := hr.2 hm
          rw [eT'] at this
          rw [eT]
          omega
  · rw [eT'] at hTl
    show (mJ m T x y c).1 27 _ = _
    rw [mJ_27 hT]
    exact hR.2.1 t l ht hl (by rw [eT]; omega)
  · show isB ((mJ m T x y c).1 16 l) = true
    rw [mJ_16 hT]
    unfold upd
    by_cases h : l = T
    · rw [if_pos h]; exact isB1
    · rw [if_neg h]; exact hR.2.2 l hl
theorem y_append {a b c : Nat} (hR : RN m 1 S) (w3 : S 5 = nI T) (hT : T < 16) (ha : a < 8) (hb : b < 8) (hab : a ≠ b) : f_X3_append (nI a) (nI b) (nI c) m = some (nI T, mJ m T (if b ≤ a then b else a) (if b ≤ a then a else b) c) := by
  have e5 := (rd_total hR).trans w3
  unfold f_X3_append
  have hl : ∀ m12 : me, lo (b_X3_append_106 (nI a) (nI b) (nI c) (nI T)) 2048 (nI (2 * T), m12) = some (nI (2 * T + 2), wI (wI (wI (wI (wI (wI m12 20 (2 * T) (nI 2)) 21 (2 * T) (nI 0)) 22 (2 * T) (nI 0)) 20 (2 * T + 1) (nI 2)) 21 (2 * T + 1) (nI 0)) 22 (2 * T + 1) (nI 0)) := by
    intro m12
    have h := lo_gen (b := b_X3_append_106 (nI a) (nI b) (nI c) (nI T)) (fun k => if k = 0 then (nI (2 * T), m12) else if k = 1 then (nI (2 * T + 1), wI (wI (wI m12 20 (2 * T) (nI 2)) 21 (2 * T) (nI 0)) 22 (2 * T) (nI 0)) else (nI (2 * T + 2), wI (wI (wI (wI (wI (wI m12 20 (2 * T) (nI 2)) 21 (2 * T) (nI 0)) 22 (2 * T) (nI 0)) 20 (2 * T + 1) (nI 2)) 21 (2 * T + 1) (nI 0)) 22 (2 * T + 1) (nI 0))) 2 (nI (2 * T + 2), wI (wI (wI (wI (wI (wI m12 20 (2 * T) (nI 2)) 21 (2 * T) (nI 0)) 22 (2 * T) (nI 0)) 20 (2 * T + 1) (nI 2)) 21 (2 * T + 1) (nI 0)) 22 (2 * T + 1) (nI 0)) (fun k hk => by
      have : k = 0 ∨ k = 1 := by omega
      rcases this with rfl | rfl
      · rw [if_pos rfl]
        unfold b_X3_append_106
        have h1 : ¬ 2 * T + 1 < 2 * T := by omega
        simp (disch := omega) only [L0, L1, L2, L3, L4, L5, L6, L7, L8, L9, L10, L11, L12, L13, L14, L15, L16, L17, L18, L19, L20, L21, L22, L23, L24, L25, L26, L27, L28, L29, L30, L31, L32, L47, L48, L50, L51, L57, L59, L90, L97, L100, L120, L122, L127, L179, L187, L199, L200, L487, L974, L1000, L1461, L10000, L18498, L1000000, nI_add, pk_mul, nI_cl, nI_lts, nI_les, nI_eqs, Ln1, n1_ne, n1_ne', n1_lts, nI_ltn, n1_les, nI_len, bd_s, lt_d, gd_n, if_neg h1]
        rfl
      · unfold b_X3_append_106
        have h1 : ¬ 2 * T + 1 < 2 * T + 1 := by omega
        simp (disch := omega) only [L0, L1, L2, L3, L4, L5, L6, L7, L8, L9, L10, L11, L12, L13, L14, L15, L16, L17, L18, L19, L20, L21, L22, L23, L24, L25, L26, L27, L28, L29, L30, L31, L32, L47, L48, L50, L51, L57, L59, L90, L97, L100, L120, L122, L127, L179, L187, L199, L200, L487, L974, L1000, L1461, L10000, L18498, L1000000, nI_add, pk_mul, nI_cl, nI_lts, nI_les, nI_eqs, Ln1, n1_ne, n1_ne', n1_lts, nI_ltn, n1_les, nI_len, bd_s, lt_d, gd_n, reduceIte, if_neg h1, Nat.one_ne_zero]
        rfl) (by
      unfold b_X3_append_106
      have h1 : 2 * T + 1 < 2 * T + 2 := by omega
      simp (disch := omega) only [L0, L1, L2, L3, L4, L5, L6, L7, L8, L9, L10, L11, L12, L13, L14, L15, L16, L17, L18, L19, L20, L21, L22, L23, L24, L25, L26, L27, L28, L29, L30, L31, L32, L47, L48, L50, L51, L57, L59, L90, L97, L100, L120, L122, L127, L179, L187, L199, L200, L487, L974, L1000, L1461, L10000, L18498, L1000000, nI_add, pk_mul, nI_cl, nI_lts, nI_les, nI_eqs, Ln1, n1_ne, n1_ne', n1_lts, nI_ltn, n1_les, nI_len, bd_s, lt_d, gd_n, reduceIte, if_pos h1, Nat.reduceEqDiff, Nat.succ_ne_zero]) (N := 2048) (by decide)
    simp only [reduceIte] at h
    exact h
  have h0 : ¬ nI T < nI 0 := nI_pos (show T < 2 ^ 31 by omega)
  unfold mJ wP
  rw [pl_low T hT, pl_high T hT, pl_base T hT, pl_lcost T hT, pl_up T hT, pl_win T hT, pl_price T hT, pl_strk T hT, pl_rolea T hT, pl_stata T hT, pl_timra T hT, pl_roleb T hT, pl_statb T hT, pl_timrb T hT]
  by_cases hba : b ≤ a
  · have h1 : b < a := by omega
    have h2 : ¬ a < b := by omega
    simp (disch := omega) only [L0, L1, L2, L3, L4, L5, L6, L7, L8, L9, L10, L11, L12, L13, L14, L15, L16, L17, L18, L19, L20, L21, L22, L23, L24, L25, L26, L27, L28, L29, L30, L31, L32, L47, L48, L50, L51, L57, L59, L90, L97, L100, L120, L122, L127, L179, L187, L199, L200, L487, L974, L1000, L1461, L10000, L18498, L1000000, nI_add, pk_mul, nI_cl, nI_lts, nI_les, nI_eqs, Ln1, n1_ne, n1_ne', n1_lts, nI_ltn, n1_les, nI_len, bd_s, lt_d, gd_n, e5, if_neg h0, if_pos hT, if_pos hba, if_pos h1, if_neg h2, hl, Nat.not_lt_zero, if_false]
    rfl
  · have h1 : ¬ b < a := by omega
    have h2 : a < b := by omega
    simp (disch := omega) only [L0, L1, L2, L3, L4, L5, L6, L7, L8, L9, L10, L11, L12, L13, L14, L15, L16, L17, L18, L19, L20, L21, L22, L23, L24, L25, L26, L27, L28, L29, L30, L31, L32, L47, L48, L50, L51, L57, L59, L90, L97, L100, L120, L122, L127, L179, L187, L199, L200, L487, L974, L1000, L1461, L10000, L18498, L1000000, nI_add, pk_mul, nI_cl, nI_lts, nI_les, nI_eqs, Ln1, n1_ne, n1_ne', n1_lts, nI_ltn, n1_les, nI_len, bd_s, lt_d, gd_n, e5, if_neg h0, if_pos hT, if_neg hba, if_neg h1, if_pos h2, hl, Nat.not_lt_zero, if_false]
    rfl
theorem cmd_join (hF : WF S) (v1 v2 v3 : Int32) : CMD (f_X4_faultOfNewLink v1 v2 v3) (f_X3_append v1 v2 v3) (f_X12_joins v1 v2 v3) id S := by
  obtain ⟨B, T, hW⟩ := hF
  have hB := hW.2.1
  have hB8 := hW.2.2.1
  have w3 := hW.2.2.2.1
  have w4 := hW.2.2.2.2.1
  rcases rng v1 0 (B - 1) (by omega) (by omega) with ⟨a, -, ha, rfl⟩ | hv1
  · have haB : a < B := by omega
    rcases rng v2 0 (B - 1) (by omega) (by omega) with ⟨b, -, hb, rfl⟩ | hv2
    · have hbB : b < B := by omega
      by_cases hab : a = b
      · subst hab
        refine Or.inr ⟨2, by decide, by decide, fun m hR => ?_, fun M hM => ?_⟩
        · have e0 := (rd_size hR).trans hW.1
          unfold f_X4_faultOfNewLink
          simp (disch := omega) only [L0, L1, L2, L3, L4, L5, L6, L7, L8, L9, L10, L11, L12, L13, L14, L15, L16, L17, L18, L19, L20, L21, L22, L23, L24, L25, L26, L27, L28, L29, L30, L31, L32, L47, L48, L50, L51, L57, L59, L90, L97, L100, L120, L122, L127, L179, L187, L199, L200, L487, L974, L1000, L1461, L10000, L18498, L1000000, bd_s, lt_d, gd_n, e0, nI_sbs, y_out_n, if_true]
        · unfold f_X12_joins
          rw [x_isBridge_y haB hB8 (by rw [hM]; exact hW.1)]
          simp (disch := omega) only [L0, L1, L2, L3, L4, L5, L6, L7, L8, L9, L10, L11, L12, L13, L14, L15, L16, L17, L18, L19, L20, L21, L22, L23, L24, L25, L26, L27, L28, L29, L30, L31, L32, L47, L48, L50, L51, L57, L59, L90, L97, L100, L120, L122, L127, L179, L187, L199, L200, L487, L974, L1000, L1461, L10000, L18498, L1000000, bd_s, lt_d, gd_n, i10, if_false, if_true, x_isBridge_y haB hB8 (show M.1 129 0 = nI B by rw [hM]; exact hW.1), id]
      · rcases rng v3 1 100 (by decide) (by decide) with ⟨c, hc1, hc, rfl⟩ | hv3
        · by_cases hT : T = 16
          · refine Or.inr ⟨3, by decide, by decide, fun m hR => ?_, fun M hM => ?_⟩
            · have e0 := (rd_size hR).trans hW.1
              have e5 := (rd_total hR).trans w3
              have : ¬ T < 16 := by omega
              unfold f_X4_faultOfNewLink
              simp (disch := omega) only [L0, L1, L2, L3, L4, L5, L6, L7, L8, L9, L10, L11, L12, L13, L14, L15, L16, L17, L18, L19, L20, L21, L22, L23, L24, L25, L26, L27, L28, L29, L30, L31, L32, L47, L48, L50, L51, L57, L59, L90, L97, L100, L120, L122, L127, L179, L187, L199, L200, L487, L974, L1000, L1461, L10000, L18498, L1000000, nI_add, pk_mul, nI_cl, nI_lts, nI_les, nI_eqs, Ln1, n1_ne, n1_ne', n1_lts, nI_ltn, n1_les, nI_len, bd_s, lt_d, gd_n, e0, nI_sbs, y_out_n, if_true, hab, if_false, e5, this]
            · unfold f_X12_joins
              rw [x_isBridge_y haB hB8 (by rw [hM]; exact hW.1)]
              simp (disch := omega) only [L0, L1, L2, L3, L4, L5, L6, L7, L8, L9, L10, L11, L12, L13, L14, L15, L16, L17, L18, L19, L20, L21, L22, L23, L24, L25, L26, L27, L28, L29, L30, L31, L32, L47, L48, L50, L51, L57, L59, L90, L97, L100, L120, L122, L127, L179, L187, L199, L200, L487, L974, L1000, L1461, L10000, L18498, L1000000, nI_add, pk_mul, nI_cl, nI_lts, nI_les, nI_eqs, Ln1, n1_ne, n1_ne', n1_lts, nI_ltn, n1_les, nI_len, bd_s, lt_d, gd_n, i10, if_false, if_true, x_isBridge_y hbB hB8 (show M.1 129 0 = nI B by rw [hM]; exact hW.1), hab, x_inn, hM, w3, hT, id, Nat.one_ne_zero]
          · have hT16 : T < 16 := by omega
            refine Or.inl ⟨sJ T (if b ≤ a then b else a) (if b ≤ a then a else b) c S, nI T, ⟨B, T + 1, hW.join hT16 ?_ ?_ hc⟩, fun m hR => ?_, fun m hR => ⟨_, y_append hR w3 hT16 (by omega) (by omega) hab, Cl_app hR w3 hT16⟩, fun M hM => ⟨_, x_joins hW hM haB hbB hab hc1 hc hT16, ?_, ?_, fun q h1 h2 h3 => ?_, fun j hj => ?_, rfl⟩⟩
            · split <;> omega
            · split <;> omega
            · have e0 := (rd_size hR).trans hW.1
              have e5 := (rd_total hR).trans w3
              unfold f_X4_faultOfNewLink
              simp (disch := omega) only [L0, L1, L2, L3, L4, L5, L6, L7, L8, L9, L10, L11, L12, L13, L14, L15, L16, L17, L18, L19, L20, L21, L22, L23, L24, L25, L26, L27, L28, L29, L30, L31, L32, L47, L48, L50, L51, L57, L59, L90, L97, L100, L120, L122, L127, L179, L187, L199, L200, L487, L974, L1000, L1461, L10000, L18498, L1000000, nI_add, pk_mul, nI_cl, nI_lts, nI_les, nI_eqs, Ln1, n1_ne, n1_ne', n1_lts, nI_ltn, n1_les, nI_len, bd_s, lt_d, gd_n, e0, nI_sbs, y_out_n, if_true, hab, if_false, e5, if_pos hT16]
            · rw [sR_ne (by decide), sR_get, upd_e]
            · rw [sR_get]
            · rw [sR_ne h1, sR_ne h2]
            · rw [sR_ne (by decide), sR_get, upd_n hj]
        · refine Or.inr ⟨2, by decide, by decide, fun m hR => ?_, fun M hM => ?_⟩
          · have e0 := (rd_size hR).trans hW.1
            unfold f_X4_faultOfNewLink
            simp (disch := omega) only [L0, L1, L2, L3, L4, L5, L6, L7, L8, L9, L10, L11, L12, L13, L14, L15, L16, L17, L18, L19, L20, L21, L22, L23, L24, L25, L26, L27, L28, L29, L30, L31, L32, L47, L48, L50, L51, L57, L59, L90, L97, L100, L120, L122, L127, L179, L187, L199, L200, L487, L974, L1000, L1461, L10000, L18498, L1000000, nI_add, pk_mul, nI_cl, nI_lts, nI_les, nI_eqs, Ln1, n1_ne, n1_ne', n1_lts, nI_ltn, n1_les, nI_len, bd_s, lt_d, gd_n, e0, nI_sbs, y_out_n, if_true, y_out_y hv3, hab, if_false, i10, Nat.one_ne_zero]
          · unfold f_X12_joins
            rw [x_isBridge_y haB hB8 (by rw [hM]; exact hW.1)]
            simp (disch := omega) only [L0, L1, L2, L3, L4, L5, L6, L7, L8, L9, L10, L11, L12, L13, L14, L15, L16, L17, L18, L19, L20, L21, L22, L23, L24, L25, L26, L27, L28, L29, L30, L31, L32, L47, L48, L50, L51, L57, L59, L90, L97, L100, L120, L122, L127, L179, L187, L199, L200, L487, L974, L1000, L1461, L10000, L18498, L1000000, nI_add, pk_mul, nI_cl, nI_lts, nI_les, nI_eqs, Ln1, n1_ne, n1_ne', n1_lts, nI_ltn, n1_les, nI_len, bd_s, lt_d, gd_n, i10, if_false, if_true, x_isBridge_y hbB hB8 (show M.1 129 0 = nI B by rw [hM]; exact hW.1), hab, x_in_n hv3, id, Nat.one_ne_zero]
    · refine Or.inr ⟨1, by decide, by decide, fun m hR => ?_, fun M hM => ?_⟩
      · have e0 := (rd_size hR).trans hW.1
        unfold f_X4_faultOfNewLink
        simp (disch := omega) only [L0, L1, L2, L3, L4, L5, L6, L7, L8, L9, L10, L11, L12, L13, L14, L15, L16, L17, L18, L19, L20, L21, L22, L23, L24, L25, L26, L27, L28, L29, L30, L31, L32, L47, L48, L50, L51, L57, L59, L90, L97, L100, L120, L122, L127, L179, L187, L199, L200, L487, L974, L1000, L1461, L10000, L18498, L1000000, bd_s, lt_d, gd_n, e0, nI_sbs, y_out_n, if_true, y_out_y hv2, i10, if_false]
      · unfold f_X12_joins
        rw [x_isBridge_y haB hB8 (by rw [hM]; exact hW.1)]
        simp (disch := omega) only [L0, L1, L2, L3, L4, L5, L6, L7, L8, L9, L10, L11, L12, L13, L14, L15, L16, L17, L18, L19, L20, L21, L22, L23, L24, L25, L26, L27, L28, L29, L30, L31, L32, L47, L48, L50, L51, L57, L59, L90, L97, L100, L120, L122, L127, L179, L187, L199, L200, L487, L974, L1000, L1461, L10000, L18498, L1000000, bd_s, lt_d, gd_n, i10, if_false, if_true, x_isBridge_n hB hv2 (show M.1 129 0 = nI B by rw [hM]; exact hW.1), id]
  · refine Or.inr ⟨1, by decide, by decide, fun m hR => ?_, fun M hM => ?_⟩
    · have e0 := (rd_size hR).trans hW.1
      unfold f_X4_faultOfNewLink
      simp (disch := omega) only [L0, L1, L2, L3, L4, L5, L6, L7, L8, L9, L10, L11, L12, L13, L14, L15, L16, L17, L18, L19, L20, L21, L22, L23, L24, L25, L26, L27, L28, L29, L30, L31, L32, L47, L48, L50, L51, L57, L59, L90, L97, L100, L120, L122, L127, L179, L187, L199, L200, L487, L974, L1000, L1461, L10000, L18498, L1000000, bd_s, lt_d, gd_n, e0, nI_sbs, y_out_y hv1, i10, if_false]
    · unfold f_X12_joins
      rw [x_isBridge_n hB hv1 (by rw [hM]; exact hW.1)]
      simp (disch := omega) only [L0, L1, L2, L3, L4, L5, L6, L7, L8, L9, L10, L11, L12, L13, L14, L15, L16, L17, L18, L19, L20, L21, L22, L23, L24, L25, L26, L27, L28, L29, L30, L31, L32, L47, L48, L50, L51, L57, L59, L90, L97, L100, L120, L122, L127, L179, L187, L199, L200, L487, L974, L1000, L1461, L10000, L18498, L1000000, bd_s, lt_d, gd_n, if_true, id]
end PJ
