/-! The digest. -/
def mh (f : Nat → Int32) (n : Nat) (h : Int64) : Int64 := it (fun k h => 31 * h + (f k).toInt64) n h
def hB (S : Nat → Int32) (b : Nat) (h : Int64) : Int64 := mh (ev1 S b) 8 (mh (bv S b) 6 h)
def hL (S : Nat → Int32) (l : Nat) (h : Int64) : Int64 := mh (fun k => S (199 + 18 * l + (8 + k))) 10 (mh (lv S l) 9 h)
def hBs (S : Nat → Int32) (n : Nat) (h : Int64) : Int64 := it (fun b h => hB S b h) n h
def hLs (S : Nat → Int32) (n : Nat) (h : Int64) : Int64 := it (fun l h => hL S l h) n h
def hTs (S : Nat → Int32) (T n : Nat) (h : Int64) : Int64 := it (fun t h => mh (tv S T t) 4 h) n h
def hAll (c : Int64) (S : Nat → Int32) (B T : Nat) (a b : Int32) : Int64 := 31 * mh (cv S B T) 7 (hTs S T 4 (hLs S T (31 * mh (fun k => S (179 + k)) 8 (hBs S B (mh S 5 (31 * (31 * c + a.toInt64) + b.toInt64))) + (S 5).toInt64))) + (bI (fS S T)).toInt64
section PD
variable {m m0 M : me} {S : Nat → Int32} {B T : Nat} {h h' : Int64}
theorem mh_s (f : Nat → Int32) (n : Nat) (h : Int64) : mh f (n + 1) h = 31 * mh f n h + (f n).toInt64 := id rfl
theorem mh_0 (f : Nat → Int32) (h : Int64) : mh f 0 h = h := id rfl
theorem mh_add (f : Nat → Int32) (a : Nat) : ∀ b (h : Int64), mh f (a + b) h = mh (fun k => f (a + k)) b (mh f a h)
  | 0, _ => rfl
  | b + 1, h => by
    show mh f (a + b + 1) h = _
    rw [mh_s, mh_s, mh_add f a b h]
theorem mh_cg {f g : Nat → Int32} : ∀ n (h : Int64), (∀ k, k < n → f k = g k) → mh f n h = mh g n h
  | 0, _, _ => by rw [mh_0, mh_0]
  | n + 1, h, e => by rw [mh_s, mh_s, mh_cg n h (fun k hk => e k (by omega)), e n (by omega)]
theorem hBs_s (n : Nat) (h : Int64) : hBs S (n + 1) h = hB S n (hBs S n h) := id rfl
theorem hLs_s (n : Nat) (h : Int64) : hLs S (n + 1) h = hL S n (hLs S n h) := id rfl
theorem hTs_s (n : Nat) (h : Int64) : hTs S T (n + 1) h = mh (tv S T n) 4 (hTs S T n h) := id rfl
theorem hBs_0 (h : Int64) : hBs S 0 h = h := id rfl
theorem hLs_0 (h : Int64) : hLs S 0 h = h := id rfl
theorem hTs_0 (h : Int64) : hTs S T 0 h = h := id rfl
theorem bdS {α β : Type} {x : α} {k : α → Option β} : bd (some x) k = k x := id rfl
theorem wJ1 {o j : Nat} {x : Int64} : (wJ M o j x).1 = M.1 := id rfl
theorem wJ_wJ {o j : Nat} {x y : Int64} : wJ (wJ M o j x) o j y = wJ M o j y := by
  unfold wJ
  refine Prod.ext rfl (Prod.ext ?_ rfl)
  show w2 (w2 M.2.1 o (vp_updL (M.2.1 o) j x)) o (vp_updL (w2 M.2.1 o (vp_updL (M.2.1 o) j x) o) j y) = w2 M.2.1 o (vp_updL (M.2.1 o) j y)
  funext q
  by_cases hq : q = o
  · subst hq
    rw [w2_self, w2_self, w2_self]
    funext i
    unfold vp_updL
    by_cases hi : i = j
    · rw [if_pos hi, if_pos hi]
    · rw [if_neg hi, if_neg hi, if_neg hi]
  · rw [w2_ne hq, w2_ne hq, w2_ne hq]
theorem x_mix {v : Int32} : f_X12_mix v (wJ M 128 14 h) = some (wJ M 128 14 (31 * h + v.toInt64)) := by
  unfold f_X12_mix
  rw [lt_d, wJ_get, wJ_wJ]
theorem y_mix {v : Int64} : f_X11_mix h v m = some (31 * h + v, m) := id rfl
/-- the model's loops that mix -/
theorem x_mixB {b : Nat} (hb : b < 8) : f_X12_mixBridge (nI b) (wJ M 128 14 h) = some (wJ M 128 14 (hB (M.1 129) b h)) := by
  have h1 := fun h => lo_gen (b := b_X12_mixBridge_2 (nI b)) (fun k => (nI k, wJ M 128 14 (mh (bv (M.1 129) b) k h))) 6 (nI 6, wJ M 128 14 (mh (bv (M.1 129) b) 6 h)) (fun k hk => by
    unfold b_X12_mixBridge_2
    have : ¬ 6 ≤ k := by omega
    simp (disch := omega) only [L0, L1, L2, L3, L4, L5, L6, L7, L8, L9, L10, L11, L12, L13, L14, L15, L16, L17, L18, L19, L20, L21, L22, L23, L24, L25, L26, L27, L28, L29, L30, L31, L32, L47, L48, L50, L51, L57, L59, L90, L97, L100, L120, L122, L127, L179, L187, L199, L200, L487, L974, L1000, L1461, L10000, L18498, L1000000, nI_add, pk_mul, nI_cl, nI_lts, nI_les, nI_eqs, Ln1, n1_ne, n1_ne', n1_lts, nI_ltn, n1_les, nI_len, bd_s, lt_d, gd_n, if_neg this, x_bridgeValue, wJ_1, x_mix, mh_s]) (by
    unfold b_X12_mixBridge_2
    simp (disch := omega) only [L0, L1, L2, L3, L4, L5, L6, L7, L8, L9, L10, L11, L12, L13, L14, L15, L16, L17, L18, L19, L20, L21, L22, L23, L24, L25, L26, L27, L28, L29, L30, L31, L32, L47, L48, L50, L51, L57, L59, L90, L97, L100, L120, L122, L127, L179, L187, L199, L200, L487, L974, L1000, L1461, L10000, L18498, L1000000, nI_add, pk_mul, nI_cl, nI_lts, nI_les, nI_eqs, Ln1, n1_ne, n1_ne', n1_lts, nI_ltn, n1_les, nI_len, bd_s, lt_d, gd_n, if_true, Nat.le_refl]) (N := 2048) (by decide)
  have h2 := fun h => lo_gen (b := b_X12_mixBridge_26 (nI b)) (fun k => (nI k, wJ M 128 14 (mh (ev1 (M.1 129) b) k h))) 8 (nI 8, wJ M 128 14 (mh (ev1 (M.1 129) b) 8 h)) (fun k hk => by
    unfold b_X12_mixBridge_26
    have : ¬ 8 ≤ k := by omega
    simp (disch := omega) only [L0, L1, L2, L3, L4, L5, L6, L7, L8, L9, L10, L11, L12, L13, L14, L15, L16, L17, L18, L19, L20, L21, L22, L23, L24, L25, L26, L27, L28, L29, L30, L31, L32, L47, L48, L50, L51, L57, L59, L90, L97, L100, L120, L122, L127, L179, L187, L199, L200, L487, L974, L1000, L1461, L10000, L18498, L1000000, nI_add, pk_mul, nI_cl, nI_lts, nI_les, nI_eqs, Ln1, n1_ne, n1_ne', n1_lts, nI_ltn, n1_les, nI_len, bd_s, lt_d, gd_n, if_neg this, x_entryOf, wJ_1, x_mix, mh_s]) (by
    unfold b_X12_mixBridge_26
    simp (disch := omega) only [L0, L1, L2, L3, L4, L5, L6, L7, L8, L9, L10, L11, L12, L13, L14, L15, L16, L17, L18, L19, L20, L21, L22, L23, L24, L25, L26, L27, L28, L29, L30, L31, L32, L47, L48, L50, L51, L57, L59, L90, L97, L100, L120, L122, L127, L179, L187, L199, L200, L487, L974, L1000, L1461, L10000, L18498, L1000000, nI_add, pk_mul, nI_cl, nI_lts, nI_les, nI_eqs, Ln1, n1_ne, n1_ne', n1_lts, nI_ltn, n1_les, nI_len, bd_s, lt_d, gd_n, if_true, Nat.le_refl]) (N := 2048) (by decide)
  simp only [mh_0] at h1 h2
  unfold f_X12_mixBridge hB
  simp only [L0, h1, h2, bd_s]
theorem x_mixL {l : Nat} (hl : l < 16) : f_X12_mixLink (nI l) (wJ M 128 14 h) = some (wJ M 128 14 (hL (M.1 129) l h)) := by
  have h1 := fun h => lo_gen (b := b_X12_mixLink_2 (nI l)) (fun k => (nI k, wJ M 128 14 (mh (lv (M.1 129) l) k h))) 9 (nI 9, wJ M 128 14 (mh (lv (M.1 129) l) 9 h)) (fun k hk => by
    unfold b_X12_mixLink_2
    have : ¬ 9 ≤ k := by omega
    simp (disch := omega) only [L0, L1, L2, L3, L4, L5, L6, L7, L8, L9, L10, L11, L12, L13, L14, L15, L16, L17, L18, L19, L20, L21, L22, L23, L24, L25, L26, L27, L28, L29, L30, L31, L32, L47, L48, L50, L51, L57, L59, L90, L97, L100, L120, L122, L127, L179, L187, L199, L200, L487, L974, L1000, L1461, L10000, L18498, L1000000, nI_add, pk_mul, nI_cl, nI_lts, nI_les, nI_eqs, Ln1, n1_ne, n1_ne', n1_lts, nI_ltn, n1_les, nI_len, bd_s, lt_d, gd_n, if_neg this, x_linkValue, wJ_1, x_mix, mh_s]) (by
    unfold b_X12_mixLink_2
    simp (disch := omega) only [L0, L1, L2, L3, L4, L5, L6, L7, L8, L9, L10, L11, L12, L13, L14, L15, L16, L17, L18, L19, L20, L21, L22, L23, L24, L25, L26, L27, L28, L29, L30, L31, L32, L47, L48, L50, L51, L57, L59, L90, L97, L100, L120, L122, L127, L179, L187, L199, L200, L487, L974, L1000, L1461, L10000, L18498, L1000000, nI_add, pk_mul, nI_cl, nI_lts, nI_les, nI_eqs, Ln1, n1_ne, n1_ne', n1_lts, nI_ltn, n1_les, nI_len, bd_s, lt_d, gd_n, if_true, Nat.le_refl]) (N := 2048) (by decide)
  have h2 := fun h => lo_gen (b := b_X12_mixLink_27 (nI l)) (fun k => (nI (8 + k), wJ M 128 14 (mh (fun k => M.1 129 (199 + 18 * l + (8 + k))) k h))) 10 (nI 18, wJ M 128 14 (mh (fun k => M.1 129 (199 + 18 * l + (8 + k))) 10 h)) (fun k hk => by
    unfold b_X12_mixLink_27
    have : ¬ 18 ≤ 8 + k := by omega
    simp (disch := omega) only [L0, L1, L2, L3, L4, L5, L6, L7, L8, L9, L10, L11, L12, L13, L14, L15, L16, L17, L18, L19, L20, L21, L22, L23, L24, L25, L26, L27, L28, L29, L30, L31, L32, L47, L48, L50, L51, L57, L59, L90, L97, L100, L120, L122, L127, L179, L187, L199, L200, L487, L974, L1000, L1461, L10000, L18498, L1000000, nI_add, pk_mul, nI_cl, nI_lts, nI_les, nI_eqs, Ln1, n1_ne, n1_ne', n1_lts, nI_ltn, n1_les, nI_len, bd_s, lt_d, gd_n, if_neg this, x_of, wJ_1, x_mix, mh_s]
    rfl) (by
    unfold b_X12_mixLink_27
    simp (disch := omega) only [L0, L1, L2, L3, L4, L5, L6, L7, L8, L9, L10, L11, L12, L13, L14, L15, L16, L17, L18, L19, L20, L21, L22, L23, L24, L25, L26, L27, L28, L29, L30, L31, L32, L47, L48, L50, L51, L57, L59, L90, L97, L100, L120, L122, L127, L179, L187, L199, L200, L487, L974, L1000, L1461, L10000, L18498, L1000000, nI_add, pk_mul, nI_cl, nI_lts, nI_les, nI_eqs, Ln1, n1_ne, n1_ne', n1_lts, nI_ltn, n1_les, nI_len, bd_s, lt_d, gd_n, if_true, Nat.le_refl, Nat.reduceAdd]) (N := 2048) (by decide)
  simp only [mh_0, Nat.add_zero] at h1 h2
  unfold f_X12_mixLink hL
  simp only [L0, L8, h1, h2, bd_s]
theorem hTs_16 : hTs S T 4 h = mh (fun k => tv S T (k / 4) (k % 4)) 16 h := by
  have e : ∀ t, t < 4 → ∀ h, mh (tv S T t) 4 h = mh (fun k => tv S T ((4 * t + k) / 4) ((4 * t + k) % 4)) 4 h := fun t ht h => mh_cg 4 h (fun k hk => by
    rw [show (4 * t + k) / 4 = t by omega, show (4 * t + k) % 4 = k by omega])
  show mh (tv S T 3) 4 (mh (tv S T 2) 4 (mh (tv S T 1) 4 (mh (tv S T 0) 4 h))) = _
  rw [e 3 (by decide), e 2 (by decide), e 1 (by decide), e 0 (by decide)]
  rw [show (16 : Nat) = 4 + (4 + (4 + 4)) from rfl, mh_add, mh_add, mh_add]
  simp only [← Nat.add_assoc, Nat.reduceMul, Nat.reduceAdd, Nat.zero_add]
theorem x_digK {K : me} {c : Int64} {a b : Int32} (hW : WT B T (K.1 129)) (ka : K.1 128 3 = a) (kb : K.1 128 5 = b) : bd (f_X12_mix (K.1 128 3) (wJ K 128 14 c)) (fun r3 =>
    bd (f_X12_mix (r3.1 128 5) r3) (fun r4 =>
    bd (lo (b_X12_digest_30) 2048 (nI 0, r4)) (fun s8 =>
    bd (lo (b_X12_digest_53) 2048 (nI 0, s8.2)) (fun s12 =>
    bd (lo (b_X12_digest_76) 2048 (nI 0, s12.2)) (fun s16 =>
    bd (f_X12_mix (s16.2.1 129 5) s16.2) (fun r17 =>
    bd (lo (b_X12_digest_114) 2048 (nI 0, r17)) (fun s21 =>
    bd (lo (b_X12_digest_137) 2048 (nI 0, s21.2)) (fun s26 =>
    bd (lo (b_X12_digest_165) 2048 (nI 0, s26.2)) (fun s31 =>
    bd (f_X12_isWithoutCycle s31.2) (fun r32 =>
    if r32.1 = nI 0 then
      j_X12_digest_199 (nI 0) r32.2
    else
      j_X12_digest_199 (nI 1) r32.2)))))))))) = some (hAll c (K.1 129) B T a b, wJ K 128 14 (hAll c (K.1 129) B T a b)) := by
  have w0 := hW.1
  have w3 := hW.2.2.2.1
  have hB8 := hW.2.2.1
  have w4 := hW.2.2.2.2.1
  have hWK : ∀ x, WT B T ((wJ K 128 14 x).1 129) := fun x => by rw [wJ1]; exact hW
  have k1 := fun h => lo_gen (b := b_X12_digest_30) (fun k => (nI k, wJ K 128 14 (mh (K.1 129) k h))) 5 (nI 5, wJ K 128 14 (mh (K.1 129) 5 h)) (fun k hk => by
    unfold b_X12_digest_30
    have : ¬ 5 ≤ k := by omega
    simp (disch := omega) only [L0, L1, L2, L3, L4, L5, L6, L7, L8, L9, L10, L11, L12, L13, L14, L15, L16, L17, L18, L19, L20, L21, L22, L23, L24, L25, L26, L27, L28, L29, L30, L31, L32, L47, L48, L50, L51, L57, L59, L90, L97, L100, L120, L122, L127, L179, L187, L199, L200, L487, L974, L1000, L1461, L10000, L18498, L1000000, nI_add, pk_mul, nI_cl, nI_lts, nI_les, nI_eqs, Ln1, n1_ne, n1_ne', n1_lts, nI_ltn, n1_les, nI_len, bdS, lt_d, gd_n, if_neg this, wJ1, x_mix, mh_s]) (by
    unfold b_X12_digest_30
    simp (disch := omega) only [L0, L1, L2, L3, L4, L5, L6, L7, L8, L9, L10, L11, L12, L13, L14, L15, L16, L17, L18, L19, L20, L21, L22, L23, L24, L25, L26, L27, L28, L29, L30, L31, L32, L47, L48, L50, L51, L57, L59, L90, L97, L100, L120, L122, L127, L179, L187, L199, L200, L487, L974, L1000, L1461, L10000, L18498, L1000000, nI_add, pk_mul, nI_cl, nI_lts, nI_les, nI_eqs, Ln1, n1_ne, n1_ne', n1_lts, nI_ltn, n1_les, nI_len, bdS, lt_d, gd_n, if_true, Nat.le_refl]) (N := 2048) (by decide)
  have k2 := fun h => lo_gen (b := b_X12_digest_53) (fun k => (nI k, wJ K 128 14 (hBs (K.1 129) k h))) B (nI B, wJ K 128 14 (hBs (K.1 129) B h)) (fun k hk => by
    unfold b_X12_digest_53
    have : ¬ B ≤ k := by omega
    simp (disch := omega) only [L0, L1, L2, L3, L4, L5, L6, L7, L8, L9, L10, L11, L12, L13, L14, L15, L16, L17, L18, L19, L20, L21, L22, L23, L24, L25, L26, L27, L28, L29, L30, L31, L32, L47, L48, L50, L51, L57, L59, L90, L97, L100, L120, L122, L127, L179, L187, L199, L200, L487, L974, L1000, L1461, L10000, L18498, L1000000, nI_add, pk_mul, nI_cl, nI_lts, nI_les, nI_eqs, Ln1, n1_ne, n1_ne', n1_lts, nI_ltn, n1_les, nI_len, bdS, lt_d, gd_n, wJ1, w0, if_neg this, x_mixB, hBs_s]) (by
    unfold b_X12_digest_53
    simp (disch := omega) only [L0, L1, L2, L3, L4, L5, L6, L7, L8, L9, L10, L11, L12, L13, L14, L15, L16, L17, L18, L19, L20, L21, L22, L23, L24, L25, L26, L27, L28, L29, L30, L31, L32, L47, L48, L50, L51, L57, L59, L90, L97, L100, L120, L122, L127, L179, L187, L199, L200, L487, L974, L1000, L1461, L10000, L18498, L1000000, nI_add, pk_mul, nI_cl, nI_lts, nI_les, nI_eqs, Ln1, n1_ne, n1_ne', n1_lts, nI_ltn, n1_les, nI_len, bdS, lt_d, gd_n, wJ1, w0, if_true, Nat.le_refl]) (N := 2048) (by omega)
  have k3 := fun h => lo_gen (b := b_X12_digest_76) (fun k => (nI k, wJ K 128 14 (mh (fun k => K.1 129 (179 + k)) k h))) 8 (nI 8, wJ K 128 14 (mh (fun k => K.1 129 (179 + k)) 8 h)) (fun k hk => by
    unfold b_X12_digest_76
    have : ¬ 8 ≤ k := by omega
    simp (disch := omega) only [L0, L1, L2, L3, L4, L5, L6, L7, L8, L9, L10, L11, L12, L13, L14, L15, L16, L17, L18, L19, L20, L21, L22, L23, L24, L25, L26, L27, L28, L29, L30, L31, L32, L47, L48, L50, L51, L57, L59, L90, L97, L100, L120, L122, L127, L179, L187, L199, L200, L487, L974, L1000, L1461, L10000, L18498, L1000000, nI_add, pk_mul, nI_cl, nI_lts, nI_les, nI_eqs, Ln1, n1_ne, n1_ne', n1_lts, nI_ltn, n1_les, nI_len, bdS, lt_d, gd_n, if_neg this, wJ1, x_mix, mh_s]) (by
    unfold b_X12_digest_76
    simp (disch := omega) only [L0, L1, L2, L3, L4, L5, L6, L7, L8, L9, L10, L11, L12, L13, L14, L15, L16, L17, L18, L19, L20, L21, L22, L23, L24, L25, L26, L27, L28, L29, L30, L31, L32, L47, L48, L50, L51, L57, L59, L90, L97, L100, L120, L122, L127, L179, L187, L199, L200, L487, L974, L1000, L1461, L10000, L18498, L1000000, nI_add, pk_mul, nI_cl, nI_lts, nI_les, nI_eqs, Ln1, n1_ne, n1_ne', n1_lts, nI_ltn, n1_les, nI_len, bdS, lt_d, gd_n, if_true, Nat.le_refl]) (N := 2048) (by decide)
  have k4 := fun h => lo_gen (b := b_X12_digest_114) (fun k => (nI k, wJ K 128 14 (hLs (K.1 129) k h))) T (nI T, wJ K 128 14 (hLs (K.1 129) T h)) (fun k hk => by
    unfold b_X12_digest_114
    have : ¬ T ≤ k := by omega
    simp (disch := omega) only [L0, L1, L2, L3, L4, L5, L6, L7, L8, L9, L10, L11, L12, L13, L14, L15, L16, L17, L18, L19, L20, L21, L22, L23, L24, L25, L26, L27, L28, L29, L30, L31, L32, L47, L48, L50, L51, L57, L59, L90, L97, L100, L120, L122, L127, L179, L187, L199, L200, L487, L974, L1000, L1461, L10000, L18498, L1000000, nI_add, pk_mul, nI_cl, nI_lts, nI_les, nI_eqs, Ln1, n1_ne, n1_ne', n1_lts, nI_ltn, n1_les, nI_len, bdS, lt_d, gd_n, wJ1, w3, if_neg this, x_mixL, hLs_s]) (by
    unfold b_X12_digest_114
    simp (disch := omega) only [L0, L1, L2, L3, L4, L5, L6, L7, L8, L9, L10, L11, L12, L13, L14, L15, L16, L17, L18, L19, L20, L21, L22, L23, L24, L25, L26, L27, L28, L29, L30, L31, L32, L47, L48, L50, L51, L57, L59, L90, L97, L100, L120, L122, L127, L179, L187, L199, L200, L487, L974, L1000, L1461, L10000, L18498, L1000000, nI_add, pk_mul, nI_cl, nI_lts, nI_les, nI_eqs, Ln1, n1_ne, n1_ne', n1_lts, nI_ltn, n1_les, nI_len, bdS, lt_d, gd_n, wJ1, w3, if_true, Nat.le_refl]) (N := 2048) (by omega)
  have k5 := fun h => lo_gen (b := b_X12_digest_137) (fun k => (nI k, wJ K 128 14 (mh (fun k => tv (K.1 129) T (k / 4) (k % 4)) k h))) 16 (nI 16, wJ K 128 14 (hTs (K.1 129) T 4 h)) (fun k hk => by
    have : ¬ 16 ≤ k := by omega
    have hd : nI k / nI 4 = nI (k / 4) := nI_dvs (by omega) (by decide) (by decide)
    have hm : nI k - nI (k / 4 * 4) = nI (k % 4) := by
      rw [← pk_mul, ← hd]
      exact pk_rem (show k < 2 ^ 31 by omega) (by decide) (by decide)
    have ht := x_tenantValue (m := wJ K 128 14 (mh (fun k => tv (K.1 129) T (k / 4) (k % 4)) k h)) (t := k / 4) (w := k % 4) (T := T) (by omega) (by omega) w4 (by rw [wJ1]; exact w3)
    rw [wJ1] at ht
    unfold b_X12_digest_137
    simp (disch := omega) only [L0, L1, L2, L3, L4, L5, L6, L7, L8, L9, L10, L11, L12, L13, L14, L15, L16, L17, L18, L19, L20, L21, L22, L23, L24, L25, L26, L27, L28, L29, L30, L31, L32, L47, L48, L50, L51, L57, L59, L90, L97, L100, L120, L122, L127, L179, L187, L199, L200, L487, L974, L1000, L1461, L10000, L18498, L1000000, nI_add, pk_mul, nI_cl, nI_lts, nI_les, nI_eqs, Ln1, n1_ne, n1_ne', n1_lts, nI_ltn, n1_les, nI_len, bdS, lt_d, gd_n, if_neg this, hd, hm, ht, x_mix, mh_s]) (by
    unfold b_X12_digest_137
    simp (disch := omega) only [L0, L1, L2, L3, L4, L5, L6, L7, L8, L9, L10, L11, L12, L13, L14, L15, L16, L17, L18, L19, L20, L21, L22, L23, L24, L25, L26, L27, L28, L29, L30, L31, L32, L47, L48, L50, L51, L57, L59, L90, L97, L100, L120, L122, L127, L179, L187, L199, L200, L487, L974, L1000, L1461, L10000, L18498, L1000000, nI_add, pk_mul, nI_cl, nI_lts, nI_les, nI_eqs, Ln1, n1_ne, n1_ne', n1_lts, nI_ltn, n1_les, nI_len, bdS, lt_d, gd_n, if_true, Nat.le_refl, hTs_16]) (N := 2048) (by decide)
  have k6 := fun h => lo_gen (b := b_X12_digest_165) (fun k => (nI k, wJ K 128 14 (mh (cv (K.1 129) B T) k h))) 7 (nI 7, wJ K 128 14 (mh (cv (K.1 129) B T) 7 h)) (fun k hk => by
    have : ¬ 7 ≤ k := by omega
    have hc := x_counted (hWK (mh (cv (K.1 129) B T) k h)) (show k ≤ 6 by omega)
    rw [wJ1] at hc
    unfold b_X12_digest_165
    simp (disch := omega) only [L0, L1, L2, L3, L4, L5, L6, L7, L8, L9, L10, L11, L12, L13, L14, L15, L16, L17, L18, L19, L20, L21, L22, L23, L24, L25, L26, L27, L28, L29, L30, L31, L32, L47, L48, L50, L51, L57, L59, L90, L97, L100, L120, L122, L127, L179, L187, L199, L200, L487, L974, L1000, L1461, L10000, L18498, L1000000, nI_add, pk_mul, nI_cl, nI_lts, nI_les, nI_eqs, Ln1, n1_ne, n1_ne', n1_lts, nI_ltn, n1_les, nI_len, bdS, lt_d, gd_n, if_neg this, hc, x_mix, mh_s]) (by
    unfold b_X12_digest_165
    simp (disch := omega) only [L0, L1, L2, L3, L4, L5, L6, L7, L8, L9, L10, L11, L12, L13, L14, L15, L16, L17, L18, L19, L20, L21, L22, L23, L24, L25, L26, L27, L28, L29, L30, L31, L32, L47, L48, L50, L51, L57, L59, L90, L97, L100, L120, L122, L127, L179, L187, L199, L200, L487, L974, L1000, L1461, L10000, L18498, L1000000, nI_add, pk_mul, nI_cl, nI_lts, nI_les, nI_eqs, Ln1, n1_ne, n1_ne', n1_lts, nI_ltn, n1_les, nI_len, bdS, lt_d, gd_n, if_true, Nat.le_refl]) (N := 2048) (by decide)
  have k7 := fun h => x_forest (hWK h)
  simp only [mh_0] at k1 k3 k5 k6
  simp only [hBs_0, hLs_0] at k2 k4
  simp only [wJ1] at k7
  simp only [x_mix, bdS, wJ1, ka, kb, k1, k2, k3, k4, k5, k6, k7]
  unfold j_X12_digest_199 hAll
  by_cases hf : fS (K.1 129) T = true
  · rw [hf, bI_t, ifn (show ¬ nI 1 = nI 0 by decide)]
    simp only [x_mix, bdS, wJ_get]
  · rw [bf_of hf, bI_f, ifp (show nI 0 = nI 0 from rfl)]
    simp only [x_mix, bdS, wJ_get]
theorem x_digest {a b : Int32} (hW : WT B T (M.1 129)) (ha : M.1 128 3 = a) (hb : M.1 128 5 = b) : f_X12_digest M = some (hAll 18498 (M.1 129) B T a b, wJ (sR M 128 (upd (M.1 128) 6 (nI 0))) 128 14 (hAll 18498 (M.1 129) B T a b)) := by
  unfold f_X12_digest
  generalize (18498 : Int64) = c
  have := x_digK (K := sR M 128 (upd (M.1 128) 6 (nI 0))) (B := B) (T := T) (c := c) (a := a) (b := b) (by rw [sR_ne (by decide)]; exact hW) (by rw [sR_get, upd_n (by decide)]; exact ha) (by rw [sR_get, upd_n (by decide)]; exact hb)
  rw [sR_ne (show 129 ≠ 128 by decide)] at this
  rw [L0, L1, lt_d, lt_d]
  exact this
theorem y_bridgeV {b w : Nat} (hW : WT B T S) (hR : RN m 1 S) (hb : b < B) (hw : w ≤ 5) : f_X11_bridge (nI b) (nI w) m = some (.inl (bv S b w), m) := by
  have e0 := (rd_size hR).trans hW.1
  have hB8 := hW.2.2.1
  unfold f_X11_bridge
  simp (disch := omega) only [L0, L1, L2, L3, L4, L5, L6, L7, L8, L9, L10, L11, L12, L13, L14, L15, L16, L17, L18, L19, L20, L21, L22, L23, L24, L25, L26, L27, L28, L29, L30, L31, L32, L47, L48, L50, L51, L57, L59, L90, L97, L100, L120, L122, L127, L179, L187, L199, L200, L487, L974, L1000, L1461, L10000, L18498, L1000000, bd_s, lt_d, gd_n, e0, nI_sbs, y_out_n, y_bvalue hR (show b < 8 by omega) hw, if_true]
theorem y_entryV {b k : Nat} (hW : WT B T S) (hR : RN m 1 S) (hb : b < B) (hk : k < 8) : f_X11_entry (nI b) (nI k) m = some (.inl (ev1 S b k), m) := by
  have hB8 := hW.2.2.1
  unfold f_X11_entry
  rw [y_faultOfMove_y hW.2.1 hB8 ((rd_size hR).trans hW.1) (show k ≤ 7 by omega) hb]
  simp only [bd_s, y_throw0, trl, rd_clock hR, y_entryOf hR (show b < 8 by omega) hk]
theorem y_linkV {l w : Nat} (hW : WT B T S) (hR : RN m 1 S) (hl : l < T) (hw : w ≤ 8) : f_X11_link (nI l) (nI w) m = some (.inl (lv S l w), m) := by
  unfold f_X11_link
  rw [y_has_y hl hW.2.2.2.2.1 ((rd_total hR).trans hW.2.2.2.1)]
  simp (disch := omega) only [L0, L1, L2, L3, L4, L5, L6, L7, L8, L9, L10, L11, L12, L13, L14, L15, L16, L17, L18, L19, L20, L21, L22, L23, L24, L25, L26, L27, L28, L29, L30, L31, L32, L47, L48, L50, L51, L57, L59, L90, L97, L100, L120, L122, L127, L179, L187, L199, L200, L487, L974, L1000, L1461, L10000, L18498, L1000000, bd_s, lt_d, gd_n, y_out_n, y_lvalue hW hR hl hw, if_true, i10, if_false]
theorem y_portV {l w e : Nat} (hW : WT B T S) (hR : RN m 1 S) (hl : l < T) (hw : w ≤ 2) (he : e < 2) : f_X11_port (nI l) (nI e) (nI w) m = some (.inl (S (199 + 18 * l + (8 + 3 * e + w))), m) := by
  have w3 := hW.2.2.2.1
  have w4 := hW.2.2.2.2.1
  unfold f_X11_port
  rw [y_has_y hl w4 ((rd_total hR).trans w3)]
  have h1 : e = 0 ∨ e = 1 := by omega
  have h2 : w = 0 ∨ w = 1 ∨ w = 2 := by omega
  rcases h1 with rfl | rfl <;> rcases h2 with rfl | rfl | rfl <;> simp (disch := omega) only [L0, L1, L2, L3, L4, L5, L6, L7, L8, L9, L10, L11, L12, L13, L14, L15, L16, L17, L18, L19, L20, L21, L22, L23, L24, L25, L26, L27, L28, L29, L30, L31, L32, L47, L48, L50, L51, L57, L59, L90, L97, L100, L120, L122, L127, L179, L187, L199, L200, L487, L974, L1000, L1461, L10000, L18498, L1000000, nI_add, pk_mul, nI_cl, nI_lts, nI_les, nI_eqs, Ln1, n1_ne, n1_ne', n1_lts, nI_ltn, n1_les, nI_len, bd_s, lt_d, gd_n, y_out_n, if_true, i10, if_false, reduceIte, Nat.reduceEqDiff, Nat.one_ne_zero, Nat.succ_ne_self, j_X11_port_58, rd_rolea hR w3 w4 hl, rd_stata hR w3 w4 hl, rd_timra hR w3 w4 hl, rd_roleb hR w3 w4 hl, rd_statb hR w3 w4 hl, rd_timrb hR w3 w4 hl, Nat.reduceAdd, Nat.reduceMul, Nat.succ_ne_zero]
theorem y_bidV {l t : Nat} (hW : WT B T S) (hR : RN m 1 S) (hl : l < T) (ht : t < 4) : f_X11_bidOf (nI t) (nI l) m = some (.inl (S (199 + 18 * l + (14 + t))), m) := by
  have w3 := hW.2.2.2.1
  have w4 := hW.2.2.2.2.1
  unfold f_X11_bidOf
  rw [L0, y_faultOfBid_y ((rd_total hR).trans w3) w4 (show t ≤ 3 by omega) hl (Nat.zero_le _)]
  have e16 : t * 16 = 16 * t := Nat.mul_comm _ _
  simp (disch := omega) only [L0, L1, L2, L3, L4, L5, L6, L7, L8, L9, L10, L11, L12, L13, L14, L15, L16, L17, L18, L19, L20, L21, L22, L23, L24, L25, L26, L27, L28, L29, L30, L31, L32, L47, L48, L50, L51, L57, L59, L90, L97, L100, L120, L122, L127, L179, L187, L199, L200, L487, L974, L1000, L1461, L10000, L18498, L1000000, nI_add, pk_mul, nI_cl, nI_lts, nI_les, nI_eqs, Ln1, n1_ne, n1_ne', n1_lts, nI_ltn, n1_les, nI_len, bd_s, lt_d, gd_n, y_throw0, trl, e16, rd_bid hR w3 w4 hl ht]
theorem y_tenantV {t w : Nat} (hW : WT B T S) (hR : RN m 1 S) (ht : t < 4) (hw : w ≤ 3) : f_X11_tenant (nI t) (nI w) m = some (.inl (tv S T t w), m) := by
  have w3 := hW.2.2.2.1
  have w4 := hW.2.2.2.2.1
  unfold f_X11_tenant tv
  have : w = 0 ∨ w = 1 ∨ w = 2 ∨ w = 3 := by omega
  rcases this with rfl | rfl | rfl | rfl <;> simp (disch := omega) only [L0, L1, L2, L3, L4, L5, L6, L7, L8, L9, L10, L11, L12, L13, L14, L15, L16, L17, L18, L19, L20, L21, L22, L23, L24, L25, L26, L27, L28, L29, L30, L31, L32, L47, L48, L50, L51, L57, L59, L90, L97, L100, L120, L122, L127, L179, L187, L199, L200, L487, L974, L1000, L1461, L10000, L18498, L1000000, nI_add, pk_mul, nI_cl, nI_lts, nI_les, nI_eqs, Ln1, n1_ne, n1_ne', n1_lts, nI_ltn, n1_les, nI_len, bd_s, lt_d, gd_n, y_out_n, if_true, y_won hR w4 w3, rd_cred hR ht, rd_paid hR ht, rd_rfd hR ht, reduceIte, Nat.reduceEqDiff, Nat.succ_ne_zero, Nat.add_zero, Nat.one_ne_zero, Nat.succ_ne_self, Nat.zero_ne_one, Nat.reduceSub]
theorem smL {α β γ : Type} {s : α} {k : α → Option γ} {kx : β → Option γ} : sm (.inl s) k kx = k s := id rfl
theorem y_mixBridges (hW : WT B T S) (hR : RN m 1 S) : f_X11_mixBridges h m = some (.inl (mh (fun k => S (179 + k)) 8 (hBs S B h)), m) := by
  have hB8 := hW.2.2.1
  have e0 := (rd_size hR).trans hW.1
  have k1 := fun b (hb : b < B) (h' : Int64) => lo_gen (b := b_X11_mixBridges_20 h (nI b)) (fun k => (mh (bv S b) k h', nI k, m)) 6 (.inl (mh (bv S b) 6 h', nI 6, m)) (fun k hk => by
    unfold b_X11_mixBridges_20
    have : ¬ 6 ≤ k := by omega
    simp (disch := omega) only [L0, L1, L2, L3, L4, L5, L6, L7, L8, L9, L10, L11, L12, L13, L14, L15, L16, L17, L18, L19, L20, L21, L22, L23, L24, L25, L26, L27, L28, L29, L30, L31, L32, L47, L48, L50, L51, L57, L59, L90, L97, L100, L120, L122, L127, L179, L187, L199, L200, L487, L974, L1000, L1461, L10000, L18498, L1000000, nI_add, pk_mul, nI_cl, nI_lts, nI_les, nI_eqs, Ln1, n1_ne, n1_ne', n1_lts, nI_ltn, n1_les, nI_len, bd_s, lt_d, gd_n, if_neg this, y_bridgeV hW hR hb (show k ≤ 5 by omega), trl, y_mix, mh_s]) (by
    unfold b_X11_mixBridges_20
    simp (disch := omega) only [L0, L1, L2, L3, L4, L5, L6, L7, L8, L9, L10, L11, L12, L13, L14, L15, L16, L17, L18, L19, L20, L21, L22, L23, L24, L25, L26, L27, L28, L29, L30, L31, L32, L47, L48, L50, L51, L57, L59, L90, L97, L100, L120, L122, L127, L179, L187, L199, L200, L487, L974, L1000, L1461, L10000, L18498, L1000000, nI_add, pk_mul, nI_cl, nI_lts, nI_les, nI_eqs, Ln1, n1_ne, n1_ne', n1_lts, nI_ltn, n1_les, nI_len, bd_s, lt_d, gd_n, if_true, Nat.le_refl]) (N := 2048) (by decide)
  have k2 := fun b (hb : b < B) (h' : Int64) => lo_gen (b := b_X11_mixBridges_50 h (nI b)) (fun k => (mh (ev1 S b) k h', nI k, m)) 8 (.inl (mh (ev1 S b) 8 h', nI 8, m)) (fun k hk => by
    unfold b_X11_mixBridges_50
    have : ¬ 8 ≤ k := by omega
    simp (disch := omega) only [L0, L1, L2, L3, L4, L5, L6, L7, L8, L9, L10, L11, L12, L13, L14, L15, L16, L17, L18, L19, L20, L21, L22, L23, L24, L25, L26, L27, L28, L29, L30, L31, L32, L47, L48, L50, L51, L57, L59, L90, L97, L100, L120, L122, L127, L179, L187, L199, L200, L487, L974, L1000, L1461, L10000, L18498, L1000000, nI_add, pk_mul, nI_cl, nI_lts, nI_les, nI_eqs, Ln1, n1_ne, n1_ne', n1_lts, nI_ltn, n1_les, nI_len, bd_s, lt_d, gd_n, if_neg this, y_entryV hW hR hb hk, trl, y_mix, mh_s]) (by
    unfold b_X11_mixBridges_50
    simp (disch := omega) only [L0, L1, L2, L3, L4, L5, L6, L7, L8, L9, L10, L11, L12, L13, L14, L15, L16, L17, L18, L19, L20, L21, L22, L23, L24, L25, L26, L27, L28, L29, L30, L31, L32, L47, L48, L50, L51, L57, L59, L90, L97, L100, L120, L122, L127, L179, L187, L199, L200, L487, L974, L1000, L1461, L10000, L18498, L1000000, nI_add, pk_mul, nI_cl, nI_lts, nI_les, nI_eqs, Ln1, n1_ne, n1_ne', n1_lts, nI_ltn, n1_les, nI_len, bd_s, lt_d, gd_n, if_true, Nat.le_refl]) (N := 2048) (by decide)
  simp only [mh_0] at k1 k2
  have k3 := lo_gen (b := b_X11_mixBridges_5 h) (fun k => (hBs S k h, nI k, m)) B (.inl (hBs S B h, nI B, m)) (fun k hk => by
    unfold b_X11_mixBridges_5
    have : ¬ B ≤ k := by omega
    simp (disch := omega) only [L0, L1, L2, L3, L4, L5, L6, L7, L8, L9, L10, L11, L12, L13, L14, L15, L16, L17, L18, L19, L20, L21, L22, L23, L24, L25, L26, L27, L28, L29, L30, L31, L32, L47, L48, L50, L51, L57, L59, L90, L97, L100, L120, L122, L127, L179, L187, L199, L200, L487, L974, L1000, L1461, L10000, L18498, L1000000, nI_add, pk_mul, nI_cl, nI_lts, nI_les, nI_eqs, Ln1, n1_ne, n1_ne', n1_lts, nI_ltn, n1_les, nI_len, bd_s, lt_d, gd_n, e0, if_neg this, k1 k hk, k2 k hk, smL, hBs_s, hB]) (by
    unfold b_X11_mixBridges_5
    simp (disch := omega) only [L0, L1, L2, L3, L4, L5, L6, L7, L8, L9, L10, L11, L12, L13, L14, L15, L16, L17, L18, L19, L20, L21, L22, L23, L24, L25, L26, L27, L28, L29, L30, L31, L32, L47, L48, L50, L51, L57, L59, L90, L97, L100, L120, L122, L127, L179, L187, L199, L200, L487, L974, L1000, L1461, L10000, L18498, L1000000, nI_add, pk_mul, nI_cl, nI_lts, nI_les, nI_eqs, Ln1, n1_ne, n1_ne', n1_lts, nI_ltn, n1_les, nI_len, bd_s, lt_d, gd_n, e0, if_true, Nat.le_refl]) (N := 2048) (by omega)
  have k4 := fun (h' : Int64) => lo_gen (b := b_X11_mixBridges_86 h) (fun k => (mh (fun k => S (179 + k)) k h', nI k, m)) 8 (mh (fun k => S (179 + k)) 8 h', nI 8, m) (fun k hk => by
    unfold b_X11_mixBridges_86
    have : ¬ 8 ≤ k := by omega
    simp (disch := omega) only [L0, L1, L2, L3, L4, L5, L6, L7, L8, L9, L10, L11, L12, L13, L14, L15, L16, L17, L18, L19, L20, L21, L22, L23, L24, L25, L26, L27, L28, L29, L30, L31, L32, L47, L48, L50, L51, L57, L59, L90, L97, L100, L120, L122, L127, L179, L187, L199, L200, L487, L974, L1000, L1461, L10000, L18498, L1000000, nI_add, pk_mul, nI_cl, nI_lts, nI_les, nI_eqs, Ln1, n1_ne, n1_ne', n1_lts, nI_ltn, n1_les, nI_len, bd_s, lt_d, gd_n, if_neg this, rd_host hR hk, y_mix, mh_s]) (by
    unfold b_X11_mixBridges_86
    simp (disch := omega) only [L0, L1, L2, L3, L4, L5, L6, L7, L8, L9, L10, L11, L12, L13, L14, L15, L16, L17, L18, L19, L20, L21, L22, L23, L24, L25, L26, L27, L28, L29, L30, L31, L32, L47, L48, L50, L51, L57, L59, L90, L97, L100, L120, L122, L127, L179, L187, L199, L200, L487, L974, L1000, L1461, L10000, L18498, L1000000, nI_add, pk_mul, nI_cl, nI_lts, nI_les, nI_eqs, Ln1, n1_ne, n1_ne', n1_lts, nI_ltn, n1_les, nI_len, bd_s, lt_d, gd_n, if_true, Nat.le_refl]) (N := 2048) (by decide)
  simp only [mh_0] at k4
  simp only [hBs_0] at k3
  unfold f_X11_mixBridges
  simp only [L0, k3, bd_s, smL, k4]
theorem y_mixLinks (hW : WT B T S) (hR : RN m 1 S) : f_X11_mixLinks h m = some (.inl (hLs S T (31 * h + (S 5).toInt64)), m) := by
  have w3 := hW.2.2.2.1
  have w4 := hW.2.2.2.2.1
  have e5 := (rd_total hR).trans w3
  have k1 := fun l (hl : l < T) (h' : Int64) => lo_gen (b := b_X11_mixLinks_37 h (nI l)) (fun k => (mh (lv S l) k h', nI k, m)) 9 (.inl (mh (lv S l) 9 h', nI 9, m)) (fun k hk => by
    unfold b_X11_mixLinks_37
    have : ¬ 9 ≤ k := by omega
    simp (disch := omega) only [L0, L1, L2, L3, L4, L5, L6, L7, L8, L9, L10, L11, L12, L13, L14, L15, L16, L17, L18, L19, L20, L21, L22, L23, L24, L25, L26, L27, L28, L29, L30, L31, L32, L47, L48, L50, L51, L57, L59, L90, L97, L100, L120, L122, L127, L179, L187, L199, L200, L487, L974, L1000, L1461, L10000, L18498, L1000000, nI_add, pk_mul, nI_cl, nI_lts, nI_les, nI_eqs, Ln1, n1_ne, n1_ne', n1_lts, nI_ltn, n1_les, nI_len, bdS, lt_d, gd_n, if_neg this, y_linkV hW hR hl (show k ≤ 8 by omega), trl, y_mix, mh_s]) (by
    unfold b_X11_mixLinks_37
    simp (disch := omega) only [L0, L1, L2, L3, L4, L5, L6, L7, L8, L9, L10, L11, L12, L13, L14, L15, L16, L17, L18, L19, L20, L21, L22, L23, L24, L25, L26, L27, L28, L29, L30, L31, L32, L47, L48, L50, L51, L57, L59, L90, L97, L100, L120, L122, L127, L179, L187, L199, L200, L487, L974, L1000, L1461, L10000, L18498, L1000000, nI_add, pk_mul, nI_cl, nI_lts, nI_les, nI_eqs, Ln1, n1_ne, n1_ne', n1_lts, nI_ltn, n1_les, nI_len, bdS, lt_d, gd_n, if_true, Nat.le_refl]) (N := 2048) (by decide)
  have k2 := fun l (hl : l < T) (h' : Int64) => lo_gen (b := b_X11_mixLinks_67 h (nI l)) (fun k => (mh (fun k => S (199 + 18 * l + (8 + 3 * 0 + k))) k h', nI k, m)) 3 (.inl (mh (fun k => S (199 + 18 * l + (8 + 3 * 0 + k))) 3 h', nI 3, m)) (fun k hk => by
    unfold b_X11_mixLinks_67
    have : ¬ 3 ≤ k := by omega
    simp (disch := omega) only [L0, L1, L2, L3, L4, L5, L6, L7, L8, L9, L10, L11, L12, L13, L14, L15, L16, L17, L18, L19, L20, L21, L22, L23, L24, L25, L26, L27, L28, L29, L30, L31, L32, L47, L48, L50, L51, L57, L59, L90, L97, L100, L120, L122, L127, L179, L187, L199, L200, L487, L974, L1000, L1461, L10000, L18498, L1000000, nI_add, pk_mul, nI_cl, nI_lts, nI_les, nI_eqs, Ln1, n1_ne, n1_ne', n1_lts, nI_ltn, n1_les, nI_len, bdS, lt_d, gd_n, if_neg this, y_portV hW hR hl (show k ≤ 2 by omega) (show 0 < 2 by decide), trl, y_mix, mh_s]) (by
    unfold b_X11_mixLinks_67
    simp (disch := omega) only [L0, L1, L2, L3, L4, L5, L6, L7, L8, L9, L10, L11, L12, L13, L14, L15, L16, L17, L18, L19, L20, L21, L22, L23, L24, L25, L26, L27, L28, L29, L30, L31, L32, L47, L48, L50, L51, L57, L59, L90, L97, L100, L120, L122, L127, L179, L187, L199, L200, L487, L974, L1000, L1461, L10000, L18498, L1000000, nI_add, pk_mul, nI_cl, nI_lts, nI_les, nI_eqs, Ln1, n1_ne, n1_ne', n1_lts, nI_ltn, n1_les, nI_len, bdS, lt_d, gd_n, if_true, Nat.le_refl]) (N := 2048) (by decide)
  have k3 := fun l (hl : l < T) (h' : Int64) => lo_gen (b := b_X11_mixLinks_97 h (nI l)) (fun k => (mh (fun k => S (199 + 18 * l + (8 + 3 * 1 + k))) k h', nI k, m)) 3 (.inl (mh (fun k => S (199 + 18 * l + (8 + 3 * 1 + k))) 3 h', nI 3, m)) (fun k hk => by
    unfold b_X11_mixLinks_97
    have : ¬ 3 ≤ k := by omega
    simp (disch := omega) only [L0, L1, L2, L3, L4, L5, L6, L7, L8, L9, L10, L11, L12, L13, L14, L15, L16, L17, L18, L19, L20, L21, L22, L23, L24, L25, L26, L27, L28, L29, L30, L31, L32, L47, L48, L50, L51, L57, L59, L90, L97, L100, L120, L122, L127, L179, L187, L199, L200, L487, L974, L1000, L1461, L10000, L18498, L1000000, nI_add, pk_mul, nI_cl, nI_lts, nI_les, nI_eqs, Ln1, n1_ne, n1_ne', n1_lts, nI_ltn, n1_les, nI_len, bdS, lt_d, gd_n, if_neg this, y_portV hW hR hl (show k ≤ 2 by omega) (show 1 < 2 by decide), trl, y_mix, mh_s]) (by
    unfold b_X11_mixLinks_97
    simp (disch := omega) only [L0, L1, L2, L3, L4, L5, L6, L7, L8, L9, L10, L11, L12, L13, L14, L15, L16, L17, L18, L19, L20, L21, L22, L23, L24, L25, L26, L27, L28, L29, L30, L31, L32, L47, L48, L50, L51, L57, L59, L90, L97, L100, L120, L122, L127, L179, L187, L199, L200, L487, L974, L1000, L1461, L10000, L18498, L1000000, nI_add, pk_mul, nI_cl, nI_lts, nI_les, nI_eqs, Ln1, n1_ne, n1_ne', n1_lts, nI_ltn, n1_les, nI_len, bdS, lt_d, gd_n, if_true, Nat.le_refl]) (N := 2048) (by decide)
  have k4 := fun l (hl : l < T) (h' : Int64) => lo_gen (b := b_X11_mixLinks_127 h (nI l)) (fun k => (mh (fun k => S (199 + 18 * l + (14 + k))) k h', nI k, m)) 4 (.inl (mh (fun k => S (199 + 18 * l + (14 + k))) 4 h', nI 4, m)) (fun k hk => by
    unfold b_X11_mixLinks_127
    have : ¬ 4 ≤ k := by omega
    simp (disch := omega) only [L0, L1, L2, L3, L4, L5, L6, L7, L8, L9, L10, L11, L12, L13, L14, L15, L16, L17, L18, L19, L20, L21, L22, L23, L24, L25, L26, L27, L28, L29, L30, L31, L32, L47, L48, L50, L51, L57, L59, L90, L97, L100, L120, L122, L127, L179, L187, L199, L200, L487, L974, L1000, L1461, L10000, L18498, L1000000, nI_add, pk_mul, nI_cl, nI_lts, nI_les, nI_eqs, Ln1, n1_ne, n1_ne', n1_lts, nI_ltn, n1_les, nI_len, bdS, lt_d, gd_n, if_neg this, y_bidV hW hR hl hk, trl, y_mix, mh_s]) (by
    unfold b_X11_mixLinks_127
    simp (disch := omega) only [L0, L1, L2, L3, L4, L5, L6, L7, L8, L9, L10, L11, L12, L13, L14, L15, L16, L17, L18, L19, L20, L21, L22, L23, L24, L25, L26, L27, L28, L29, L30, L31, L32, L47, L48, L50, L51, L57, L59, L90, L97, L100, L120, L122, L127, L179, L187, L199, L200, L487, L974, L1000, L1461, L10000, L18498, L1000000, nI_add, pk_mul, nI_cl, nI_lts, nI_les, nI_eqs, Ln1, n1_ne, n1_ne', n1_lts, nI_ltn, n1_les, nI_len, bdS, lt_d, gd_n, if_true, Nat.le_refl]) (N := 2048) (by decide)
  simp only [mh_0] at k1 k2 k3 k4
  have e10 : ∀ l (h' : Int64), mh (fun k => S (199 + 18 * l + (14 + k))) 4 (mh (fun k => S (199 + 18 * l + (8 + 3 * 1 + k))) 3 (mh (fun k => S (199 + 18 * l + (8 + 3 * 0 + k))) 3 h')) = mh (fun k => S (199 + 18 * l + (8 + k))) 10 h' := fun l h' => by
    have r : mh (fun k => S (199 + 18 * l + (8 + k))) 10 h' = mh (fun k => S (199 + 18 * l + (8 + (3 + (3 + k))))) 4 (mh (fun k => S (199 + 18 * l + (8 + (3 + k)))) 3 (mh (fun k => S (199 + 18 * l + (8 + k))) 3 h')) := by rw [show (10 : Nat) = 3 + (3 + 4) from rfl, mh_add, mh_add]
    have q1 : ∀ x, mh (fun k => S (199 + 18 * l + (8 + 3 * 0 + k))) 3 x = mh (fun k => S (199 + 18 * l + (8 + k))) 3 x := fun x => mh_cg 3 x (fun k hk => by rw [show 8 + 3 * 0 + k = 8 + k by omega])
    have q2 : ∀ x, mh (fun k => S (199 + 18 * l + (8 + 3 * 1 + k))) 3 x = mh (fun k => S (199 + 18 * l + (8 + (3 + k)))) 3 x := fun x => mh_cg 3 x (fun k hk => by rw [show 8 + 3 * 1 + k = 8 + (3 + k) by omega])
    have q3 : ∀ x, mh (fun k => S (199 + 18 * l + (14 + k))) 4 x = mh (fun k => S (199 + 18 * l + (8 + (3 + (3 + k))))) 4 x := fun x => mh_cg 4 x (fun k hk => by rw [show 14 + k = 8 + (3 + (3 + k)) by omega])
    rw [r, q1, q2, q3]
  have k5 := fun (h' : Int64) => lo_gen (b := b_X11_mixLinks_19 h) (fun k => (hLs S k h', nI k, m)) T (.inl (hLs S T h', nI T, m)) (fun k hk => by
    unfold b_X11_mixLinks_19
    have : ¬ T ≤ k := by omega
    simp (disch := omega) only [L0, L1, L2, L3, L4, L5, L6, L7, L8, L9, L10, L11, L12, L13, L14, L15, L16, L17, L18, L19, L20, L21, L22, L23, L24, L25, L26, L27, L28, L29, L30, L31, L32, L47, L48, L50, L51, L57, L59, L90, L97, L100, L120, L122, L127, L179, L187, L199, L200, L487, L974, L1000, L1461, L10000, L18498, L1000000, nI_add, pk_mul, nI_cl, nI_lts, nI_les, nI_eqs, Ln1, n1_ne, n1_ne', n1_lts, nI_ltn, n1_les, nI_len, bdS, lt_d, gd_n, e5, if_neg this, k1 k hk, k2 k hk, k3 k hk, k4 k hk, smL, e10, hLs_s, hL]) (by
    unfold b_X11_mixLinks_19
    simp (disch := omega) only [L0, L1, L2, L3, L4, L5, L6, L7, L8, L9, L10, L11, L12, L13, L14, L15, L16, L17, L18, L19, L20, L21, L22, L23, L24, L25, L26, L27, L28, L29, L30, L31, L32, L47, L48, L50, L51, L57, L59, L90, L97, L100, L120, L122, L127, L179, L187, L199, L200, L487, L974, L1000, L1461, L10000, L18498, L1000000, nI_add, pk_mul, nI_cl, nI_lts, nI_les, nI_eqs, Ln1, n1_ne, n1_ne', n1_lts, nI_ltn, n1_les, nI_len, bdS, lt_d, gd_n, e5, if_true, Nat.le_refl]) (N := 2048) (by omega)
  simp only [hLs_0] at k5
  unfold f_X11_mixLinks
  simp only [L0, y_mix, rd_total hR, bdS, k5, smL]
theorem y_digest {a b : Int32} (hW : WT B T S) (hR : RN m 1 S) (ha : m.1 28 1 = a) (hb : m.1 111 0 = b) : ∃ f, f_X11_digest m = some (.inl (hAll 18498 S B T a b), sR m 127 f) := by
  unfold f_X11_digest j_X11_digest_186
  generalize (18498 : Int64) = c
  have k1 := fun t (ht : t < 4) (h' : Int64) => lo_gen (b := b_X11_digest_117 (nI t)) (fun k => (mh (tv S T t) k h', nI k, m)) 4 (.inl (mh (tv S T t) 4 h', nI 4, m)) (fun k hk => by
    unfold b_X11_digest_117
    have : ¬ 4 ≤ k := by omega
    simp (disch := omega) only [L0, L1, L2, L3, L4, L5, L6, L7, L8, L9, L10, L11, L12, L13, L14, L15, L16, L17, L18, L19, L20, L21, L22, L23, L24, L25, L26, L27, L28, L29, L30, L31, L32, L47, L48, L50, L51, L57, L59, L90, L97, L100, L120, L122, L127, L179, L187, L199, L200, L487, L974, L1000, L1461, L10000, L18498, L1000000, nI_add, pk_mul, nI_cl, nI_lts, nI_les, nI_eqs, Ln1, n1_ne, n1_ne', n1_lts, nI_ltn, n1_les, nI_len, bd_s, lt_d, gd_n, if_neg this, y_tenantV hW hR ht (show k ≤ 3 by omega), trl, y_mix, mh_s]) (by
    unfold b_X11_digest_117
    simp (disch := omega) only [L0, L1, L2, L3, L4, L5, L6, L7, L8, L9, L10, L11, L12, L13, L14, L15, L16, L17, L18, L19, L20, L21, L22, L23, L24, L25, L26, L27, L28, L29, L30, L31, L32, L47, L48, L50, L51, L57, L59, L90, L97, L100, L120, L122, L127, L179, L187, L199, L200, L487, L974, L1000, L1461, L10000, L18498, L1000000, nI_add, pk_mul, nI_cl, nI_lts, nI_les, nI_eqs, Ln1, n1_ne, n1_ne', n1_lts, nI_ltn, n1_les, nI_len, bd_s, lt_d, gd_n, if_true, Nat.le_refl]) (N := 2048) (by decide)
  simp only [mh_0] at k1
  have k2 := fun (h' : Int64) => lo_gen (b := b_X11_digest_109) (fun k => (hTs S T k h', nI k, m)) 4 (.inl (hTs S T 4 h', nI 4, m)) (fun k hk => by
    unfold b_X11_digest_109
    have : ¬ 4 ≤ k := by omega
    simp (disch := omega) only [L0, L1, L2, L3, L4, L5, L6, L7, L8, L9, L10, L11, L12, L13, L14, L15, L16, L17, L18, L19, L20, L21, L22, L23, L24, L25, L26, L27, L28, L29, L30, L31, L32, L47, L48, L50, L51, L57, L59, L90, L97, L100, L120, L122, L127, L179, L187, L199, L200, L487, L974, L1000, L1461, L10000, L18498, L1000000, nI_add, pk_mul, nI_cl, nI_lts, nI_les, nI_eqs, Ln1, n1_ne, n1_ne', n1_lts, nI_ltn, n1_les, nI_len, bd_s, lt_d, gd_n, if_neg this, k1 k hk, smL, hTs_s]) (by
    unfold b_X11_digest_109
    simp (disch := omega) only [L0, L1, L2, L3, L4, L5, L6, L7, L8, L9, L10, L11, L12, L13, L14, L15, L16, L17, L18, L19, L20, L21, L22, L23, L24, L25, L26, L27, L28, L29, L30, L31, L32, L47, L48, L50, L51, L57, L59, L90, L97, L100, L120, L122, L127, L179, L187, L199, L200, L487, L974, L1000, L1461, L10000, L18498, L1000000, nI_add, pk_mul, nI_cl, nI_lts, nI_les, nI_eqs, Ln1, n1_ne, n1_ne', n1_lts, nI_ltn, n1_les, nI_len, bd_s, lt_d, gd_n, if_true, Nat.le_refl]) (N := 2048) (by decide)
  simp only [hTs_0] at k2
  have k3 : ∀ h' : Int64, ∃ f, lo b_X11_digest_150 2048 (h', nI 0, m) = some (.inl (mh (cv S B T) 7 h', nI 7, sR m 127 f)) := by
    intro h'
    obtain ⟨t, ht, f, kk⟩ := lo_rel (b := b_X11_digest_150) (s0 := (h', nI 0, m)) (N := 2048) (n := 7)
      (P := fun k s => ∃ f, s = (mh (cv S B T) k h', nI k, sR m 127 f))
      (Q := fun t => ∃ f, t = .inl (mh (cv S B T) 7 h', nI 7, sR m 127 f))
      ⟨m.1 127, by rw [sR_self]; rfl⟩ (fun k s hk hP => by
        obtain ⟨f, rfl⟩ := hP
        have : ¬ 7 ≤ k := by omega
        obtain ⟨f2, c1⟩ := y_count (m := sR m 127 f) hW (hR.scr (by omega)) (show k ≤ 6 by omega)
        rw [sR_sR] at c1
        refine ⟨(mh (cv S B T) (k + 1) h', nI (k + 1), sR m 127 f2), ?_, f2, rfl⟩
        unfold b_X11_digest_150
        simp (disch := omega) only [L0, L1, L2, L3, L4, L5, L6, L7, L8, L9, L10, L11, L12, L13, L14, L15, L16, L17, L18, L19, L20, L21, L22, L23, L24, L25, L26, L27, L28, L29, L30, L31, L32, L47, L48, L50, L51, L57, L59, L90, L97, L100, L120, L122, L127, L179, L187, L199, L200, L487, L974, L1000, L1461, L10000, L18498, L1000000, nI_add, pk_mul, nI_cl, nI_lts, nI_les, nI_eqs, Ln1, n1_ne, n1_ne', n1_lts, nI_ltn, n1_les, nI_len, bd_s, lt_d, gd_n, if_neg this, c1, trl, y_mix, mh_s]) (fun s hP => by
        obtain ⟨f, rfl⟩ := hP
        refine ⟨_, ?_, f, rfl⟩
        unfold b_X11_digest_150
        simp (disch := omega) only [L0, L1, L2, L3, L4, L5, L6, L7, L8, L9, L10, L11, L12, L13, L14, L15, L16, L17, L18, L19, L20, L21, L22, L23, L24, L25, L26, L27, L28, L29, L30, L31, L32, L47, L48, L50, L51, L57, L59, L90, L97, L100, L120, L122, L127, L179, L187, L199, L200, L487, L974, L1000, L1461, L10000, L18498, L1000000, nI_add, pk_mul, nI_cl, nI_lts, nI_les, nI_eqs, Ln1, n1_ne, n1_ne', n1_lts, nI_ltn, n1_les, nI_len, bd_s, lt_d, gd_n, if_true, Nat.le_refl]) (by decide)
    exact ⟨f, by rw [ht, kk]⟩
  have em : mh S 5 (31 * (31 * c + a.toInt64) + b.toInt64) = 31 * (31 * (31 * (31 * (31 * (31 * (31 * c + a.toInt64) + b.toInt64) + (S 0).toInt64) + (S 1).toInt64) + (S 2).toInt64) + (S 3).toInt64) + (S 4).toInt64 := rfl
  unfold hAll
  obtain ⟨f, c1⟩ := k3 (hTs S T 4 (hLs S T (31 * mh (fun k => S (179 + k)) 8 (hBs S B (mh S 5 (31 * (31 * c + a.toInt64) + b.toInt64))) + (S 5).toInt64)))
  obtain ⟨f2, d1, -⟩ := y_findGroups (m := sR m 127 f) hW (hR.scr (by omega))
  rw [sR_sR] at d1
  refine ⟨f2, ?_⟩
  have hfor : f_X11_isForest (sR m 127 f) = some (bI (fS S T), sR m 127 f2) := by
    unfold f_X11_isForest
    simp only [d1, bd_s, isB_bI, gd_tt]
  rw [em] at c1 ⊢
  simp only [L0, y_mix, ha, hb, bd_s, rd_size hR, rd_clock hR, rd_delay hR, rd_intv hR, rd_hyst hR, y_mixBridges hW hR, trl, y_mixLinks hW hR, k2, smL, c1, hfor]
  by_cases hf : fS S T = true
  · rw [hf, bI_t, ifn (show ¬ nI 1 = nI 0 by decide)]
    rfl
  · rw [bf_of hf, bI_f, ifp (show nI 0 = nI 0 from rfl)]
    rfl
theorem Inv.dig (hI : Inv m) {x : Int64} : Inv (wJ m 128 14 x) := hI.cg (fun q _ => rfl) rfl rfl rfl rfl rfl rfl rfl
theorem op_digest (hI : Inv m) : ∃ v m1 m2, f_X11_digest m = some (.inl v, m1) ∧ f_X12_digest m1 = some (v, m2) ∧ Inv m2 := by
  obtain ⟨⟨B, T, hW⟩, hR, ⟨k, hk, hU⟩, n, b1, b2, b3, b4⟩ := id hI
  obtain ⟨f, a1⟩ := y_digest (a := nI k) (b := nI n) hW hR hU.2.1 b2
  have a2 := x_digest (M := sR m 127 f) (B := B) (T := T) (a := nI k) (b := nI n) (by rw [sR_ne (by decide)]; exact hW) (by rw [sR_ne (by decide)]; exact hk) (by rw [sR_ne (by decide)]; exact b3)
  rw [sR_ne (show 129 ≠ 127 by decide), sR_ne (show 128 ≠ 127 by decide)] at a2
  exact ⟨_, _, _, a1, a2, by
    have := (hI.s127 (f := f)).thr (v := nI 0)
    rw [sR_ne (show 128 ≠ 127 by decide)] at this
    exact this.dig⟩
end PD
