/-! THE PURE PART. Base: the combinators, numbers, rows, loops. -/
section PB
variable {α β σ τ : Type}
theorem bd_s {x : α} {k : α → Option β} : bd (some x) k = k x := rfl
theorem gd_t {c : Bool} {k : Option α} (h : c = true) : gd c k = k := by unfold gd; rw [if_pos h]
theorem ifp {c : Prop} {d : Decidable c} (hc : c) {a b : α} : @ite α c d a b = a := if_pos hc
theorem ifn {c : Prop} {d : Decidable c} (hc : ¬ c) {a b : α} : @ite α c d a b = b := if_neg hc
theorem lt_d {a : α} {f : α → β} : lt a f = f a := rfl
theorem inR_n {a n : Nat} (h : a < n) (hn : a < 2147483648) : inR (nI a) n = true := by
  unfold inR
  rw [nI_clamp (show a < 2 ^ 31 from hn), decide_eq_true (nI_pos' (show a < 2 ^ 31 from hn)), decide_eq_true h]
  rfl
theorem gd_n {a n : Nat} {k : Option α} (h : a < n) (hn : a < 2147483648) : gd (inR (nI a) n) k = k := gd_t (inR_n h hn)
theorem nI_cl {n : Nat} (h : n < 2147483648) : (nI n).toNatClampNeg = n := nI_clamp h
theorem nI_lts {a b : Nat} (ha : a < 2147483648) (hb : b < 2147483648) : (nI a < nI b) = (a < b) := propext (nI_ltI ha hb)
theorem nI_les {a b : Nat} (ha : a < 2147483648) (hb : b < 2147483648) : (nI a ≤ nI b) = (a ≤ b) := propext (nI_leI ha hb)
theorem nI_eqs {a b : Nat} (ha : a < 2147483648) (hb : b < 2147483648) : (nI a = nI b) = (a = b) := propext (nI_eq ha hb)
theorem nI_dvs {a d : Nat} (ha : a < 2147483648) (h0 : 0 < d) (hd : d < 2147483648) : nI a / nI d = nI (a / d) := pk_div ha h0 hd
theorem nI_sbs {a b : Nat} (h : b ≤ a) : nI a - nI b = nI (a - b) := by
  have : nI a = nI (a - b) + nI b := by rw [nI_add, Nat.sub_add_cancel h]
  rw [this, Int32.add_sub_cancel]
def n1 : Int32 := -1
theorem Ln1 : -nI 1 = n1 := rfl
theorem n1_lt : n1 < nI 0 := by decide
theorem n1_ne {a : Nat} (ha : a < 2147483648) : (n1 = nI a) = False := by
  refine propext ⟨fun h => ?_, False.elim⟩
  have h1 := n1_lt
  rw [h] at h1
  exact absurd h1 (nI_nlt (Nat.zero_le _) ha)
theorem n1_ne' {a : Nat} (ha : a < 2147483648) : (nI a = n1) = False := by
  rw [← n1_ne ha]
  exact propext eq_comm
theorem n1_lts {a : Nat} (ha : a < 2147483648) : (n1 < nI a) = True := by
  refine propext ⟨fun _ => trivial, fun _ => ?_⟩
  rw [Int32.lt_iff_toInt_lt, nI_toInt ha]
  show (-1 : Int) < _
  omega
theorem nI_ltn {a : Nat} (ha : a < 2147483648) : (nI a < n1) = False := by
  refine propext ⟨fun h => ?_, False.elim⟩
  rw [Int32.lt_iff_toInt_lt, nI_toInt ha] at h
  change (a : Int) < -1 at h
  omega
theorem n1_les {a : Nat} (ha : a < 2147483648) : (nI a ≤ n1) = False := by
  refine propext ⟨fun h => ?_, False.elim⟩
  rw [Int32.le_iff_toInt_le, nI_toInt ha] at h
  change (a : Int) ≤ -1 at h
  omega
theorem nI_len {a : Nat} (ha : a < 2147483648) : (n1 ≤ nI a) = True := by
  refine propext ⟨fun _ => trivial, fun _ => ?_⟩
  rw [Int32.le_iff_toInt_le, nI_toInt ha]
  show (-1 : Int) ≤ _
  omega
/-- n steps -/
def it (f : Nat → σ → σ) : Nat → σ → σ
  | 0, s => s
  | n + 1, s => f n (it f n s)
theorem lo_gen {b : σ → Option (σ ⊕ τ)} (g : Nat → σ) (n : Nat) (t : τ) (hs : ∀ k, k < n → b (g k) = some (.inl (g (k + 1)))) (he : b (g n) = some (.inr t)) {N : Nat} (hn : n < N) : lo b N (g 0) = some t := by
  have key : ∀ (d k M : Nat), k + d = n → d < M → lo b M (g k) = some t := by
    intro d
    induction d with
    | zero =>
      intro k M hk hM
      obtain ⟨M, rfl⟩ : ∃ z, M = z + 1 := ⟨M - 1, by omega⟩
      unfold lo
      rw [show k = n by omega, he]
    | succ d ih =>
      intro k M hk hM
      obtain ⟨M, rfl⟩ : ∃ z, M = z + 1 := ⟨M - 1, by omega⟩
      unfold lo
      rw [hs k (by omega)]
      exact ih (k + 1) M (by omega) (by omega)
  exact key n 0 N (by omega) hn
/-- a row is put -/
def sR (m : me) (o : Nat) (f : Nat → Int32) : me := (w2 m.1 o f, m.2)
theorem wI_sR (m : me) (o j : Nat) (x : Int32) : wI m o j x = sR m o (upd (m.1 o) j x) := rfl
theorem w2_self {μ : Nat → Nat → α} {o : Nat} {f : Nat → α} : w2 μ o f o = f := by unfold w2; rw [if_pos rfl]
theorem sR_get {m : me} {o : Nat} {f : Nat → Int32} : (sR m o f).1 o = f := w2_self
theorem sR_ne {m : me} {o q : Nat} {f : Nat → Int32} (h : q ≠ o) : (sR m o f).1 q = m.1 q := w2_ne h
theorem sR_2 {m : me} {o : Nat} {f : Nat → Int32} : (sR m o f).2 = m.2 := rfl
theorem sR_21 {m : me} {o : Nat} {f : Nat → Int32} : (sR m o f).2.1 = m.2.1 := rfl
theorem sR_22 {m : me} {o : Nat} {f : Nat → Int32} : (sR m o f).2.2 = m.2.2 := rfl
theorem sR_sR {m : me} {o : Nat} {f g : Nat → Int32} : sR (sR m o f) o g = sR m o g := by
  unfold sR
  refine Prod.ext ?_ rfl
  funext q
  by_cases h : q = o
  · subst h; show w2 _ q g q = w2 _ q g q; rw [w2_self, w2_self]
  · show w2 _ o g q = w2 _ o g q; rw [w2_ne h, w2_ne h]; exact w2_ne h
theorem sR_cm {m : me} {o q : Nat} {f g : Nat → Int32} (h : o ≠ q) : sR (sR m o f) q g = sR (sR m q g) o f := by
  unfold sR
  refine Prod.ext ?_ rfl
  funext r
  show w2 (w2 m.1 o f) q g r = w2 (w2 m.1 q g) o f r
  by_cases h1 : r = o
  · subst h1; rw [w2_ne h, w2_self, w2_self]
  · by_cases h2 : r = q
    · subst h2; rw [w2_self, w2_ne h1, w2_self]
    · rw [w2_ne h2, w2_ne h1, w2_ne h1, w2_ne h2]
theorem sR_self (m : me) (o : Nat) : sR m o (m.1 o) = m := by
  unfold sR
  refine Prod.ext ?_ rfl
  funext q
  by_cases h : q = o
  · subst h; exact w2_self
  · exact w2_ne h
theorem upd_e {f : Nat → Int32} {k : Nat} {x : Int32} : upd f k x k = x := by unfold upd; rw [if_pos rfl]
theorem upd_n {f : Nat → Int32} {k j : Nat} {x : Int32} (h : j ≠ k) : upd f k x j = f j := by unfold upd; rw [if_neg h]
/-- the first k of f, then those of g -/
def mx (k : Nat) (f g : Nat → Int32) : Nat → Int32 := fun j => if j < k then f j else g j
theorem mx_0 (f g : Nat → Int32) : mx 0 f g = g := by funext j; exact if_neg (Nat.not_lt_zero j)
theorem mx_s (k : Nat) (f g : Nat → Int32) : upd (mx k f g) k (f k) = mx (k + 1) f g := by
  funext j
  unfold upd mx
  by_cases h : j = k
  · subst h; rw [if_pos rfl, if_pos (by omega)]
  · rw [if_neg h]
    by_cases h2 : j < k
    · rw [if_pos h2, if_pos (by omega)]
    · rw [if_neg h2, if_neg (by omega)]
end PB
theorem L0 : (0 : Int32) = nI 0 := id rfl
theorem L1 : (1 : Int32) = nI 1 := id rfl
theorem L2 : (2 : Int32) = nI 2 := id rfl
theorem L3 : (3 : Int32) = nI 3 := id rfl
theorem L4 : (4 : Int32) = nI 4 := id rfl
theorem L5 : (5 : Int32) = nI 5 := id rfl
theorem L6 : (6 : Int32) = nI 6 := id rfl
theorem L7 : (7 : Int32) = nI 7 := id rfl
theorem L8 : (8 : Int32) = nI 8 := id rfl
theorem L9 : (9 : Int32) = nI 9 := id rfl
theorem L10 : (10 : Int32) = nI 10 := id rfl
theorem L11 : (11 : Int32) = nI 11 := id rfl
theorem L12 : (12 : Int32) = nI 12 := id rfl
theorem L13 : (13 : Int32) = nI 13 := id rfl
theorem L14 : (14 : Int32) = nI 14 := id rfl
theorem L15 : (15 : Int32) = nI 15 := id rfl
theorem L16 : (16 : Int32) = nI 16 := id rfl
theorem L17 : (17 : Int32) = nI 17 := id rfl
theorem L18 : (18 : Int32) = nI 18 := id rfl
theorem L19 : (19 : Int32) = nI 19 := id rfl
theorem L20 : (20 : Int32) = nI 20 := id rfl
theorem L21 : (21 : Int32) = nI 21 := id rfl
theorem L22 : (22 : Int32) = nI 22 := id rfl
theorem L23 : (23 : Int32) = nI 23 := id rfl
theorem L24 : (24 : Int32) = nI 24 := id rfl
theorem L25 : (25 : Int32) = nI 25 := id rfl
theorem L26 : (26 : Int32) = nI 26 := id rfl
theorem L27 : (27 : Int32) = nI 27 := id rfl
theorem L28 : (28 : Int32) = nI 28 := id rfl
theorem L29 : (29 : Int32) = nI 29 := id rfl
theorem L30 : (30 : Int32) = nI 30 := id rfl
theorem L31 : (31 : Int32) = nI 31 := id rfl
theorem L32 : (32 : Int32) = nI 32 := id rfl
theorem L47 : (47 : Int32) = nI 47 := id rfl
theorem L48 : (48 : Int32) = nI 48 := id rfl
theorem L50 : (50 : Int32) = nI 50 := id rfl
theorem L51 : (51 : Int32) = nI 51 := id rfl
theorem L57 : (57 : Int32) = nI 57 := id rfl
theorem L59 : (59 : Int32) = nI 59 := id rfl
theorem L90 : (90 : Int32) = nI 90 := id rfl
theorem L97 : (97 : Int32) = nI 97 := id rfl
theorem L100 : (100 : Int32) = nI 100 := id rfl
theorem L120 : (120 : Int32) = nI 120 := id rfl
theorem L122 : (122 : Int32) = nI 122 := id rfl
theorem L127 : (127 : Int32) = nI 127 := id rfl
theorem L179 : (179 : Int32) = nI 179 := id rfl
theorem L187 : (187 : Int32) = nI 187 := id rfl
theorem L199 : (199 : Int32) = nI 199 := id rfl
theorem L200 : (200 : Int32) = nI 200 := id rfl
theorem L487 : (487 : Int32) = nI 487 := id rfl
theorem L974 : (974 : Int32) = nI 974 := id rfl
theorem L1000 : (1000 : Int32) = nI 1000 := id rfl
theorem L1461 : (1461 : Int32) = nI 1461 := id rfl
theorem L10000 : (10000 : Int32) = nI 10000 := id rfl
theorem L18498 : (18498 : Int32) = nI 18498 := id rfl
theorem L1000000 : (1000000 : Int32) = nI 1000000 := id rfl
