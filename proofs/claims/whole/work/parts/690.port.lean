/-! Ports. -/
def rlS (S : Nat → Int32) (l b o : Nat) : Int32 := if S (199 + 18 * l + 4) = nI 0 then nI 2 else if S (11 + 5 * b + 4) = nI l then nI 0 else if bet (S (11 + 5 * b + 1)) (S (11 + 5 * b + 2)) (idS S b) (S (11 + 5 * o + 1)) (S (11 + 5 * o + 2)) (idS S o) = true then nI 1 else nI 2
def pB (S : Nat → Int32) (l e : Nat) : Nat := if e = 0 then lx S l else ly S l
def pO (S : Nat → Int32) (l e : Nat) : Nat := if e = 0 then ly S l else lx S l
def nSt (r was tm : Int32) : Int32 := if r = nI 2 then nI 0 else if was = nI 0 then nI 1 else if was = nI 3 then nI 3 else if tm - nI 1 = nI 0 then was + nI 1 else was
def nTm (r was tm dl : Int32) : Int32 := if r = nI 2 then nI 0 else if was = nI 0 then dl else if was = nI 3 then tm else if tm - nI 1 = nI 0 then (if was = nI 1 then dl else nI 0) else tm - nI 1
def rr (S : Nat → Int32) (l e : Nat) : Int32 := rlS S l (pB S l e) (pO S l e)
def nsP (S : Nat → Int32) (l e : Nat) : Int32 := nSt (rr S l e) (S (199 + 18 * l + 8 + 3 * e + 1)) (S (199 + 18 * l + 8 + 3 * e + 2))
def ntP (S : Nat → Int32) (l e : Nat) : Int32 := nTm (rr S l e) (S (199 + 18 * l + 8 + 3 * e + 1)) (S (199 + 18 * l + 8 + 3 * e + 2)) (S 2)
def sPt (l e : Nat) (S : Nat → Int32) : Nat → Int32 := upd (upd (upd S (199 + 18 * l + 8 + 3 * e) (rr S l e)) (199 + 18 * l + 8 + 3 * e + 1) (nsP S l e)) (199 + 18 * l + 8 + 3 * e + 2) (ntP S l e)
def chP (S : Nat → Int32) (l e : Nat) : Bool := decide (S (199 + 18 * l + 8 + 3 * e + 1) = nI 3) != decide (nsP S l e = nI 3)
def sPc (l e : Nat) (S : Nat → Int32) : Nat → Int32 := if chP S l e = true then upd (sPt l e S) 7 (S 7 + nI 1) else sPt l e S
def pPc (S : Nat → Int32) (l e : Nat) (p : Nat → Bool) : Nat → Bool := if chP S l e = true then (fun b => p b || decide (b = pB S l e)) else p
def pst (n : Nat) (S : Nat → Int32) : (Nat → Int32) × (Nat → Bool) := it (fun k sp => (sPc (k / 2) (k % 2) sp.1, pPc sp.1 (k / 2) (k % 2) sp.2)) n (S, fun _ => false)
section PP
variable {m m0 M : me} {S : Nat → Int32} {B T : Nat}
theorem pl_pr : ∀ l, l < 16 → ∀ e, e < 2 → ∀ j, j < 3 → pl (199 + 18 * l + 8 + 3 * e + j) = (19 + j, 2 * l + e) := by decide +kernel
theorem rd_p {l e j : Nat} (h : RN m 1 S) (h5 : S 5 = nI T) (hT : T ≤ 16) (hx : l < T) (he : e < 2) (hj : j < 3) : m.1 (20 + j) (2 * l + e) = S (199 + 18 * l + 8 + 3 * e + j) := by
  have := h.1 (199 + 18 * l + 8 + 3 * e + j) (by omega) ⟨fun hm => by omega, fun hm => by rw [T_cl h5 hT]; omega⟩
  rw [pl_pr l (by omega) e he j hj] at this
  rw [show 20 + j = 1 + (19 + j) by omega]
  exact this
theorem Cl_p {l e j : Nat} {v v' : Int32} (h : Cl m0 m S) (h5 : S 5 = nI T) (hT : T ≤ 16) (hx : l < T) (he : e < 2) (hj : j < 3) (ev : v = v') : Cl m0 (wI m (20 + j) (2 * l + e) v) (upd S (199 + 18 * l + 8 + 3 * e + j) v') :=
  Cl_w h (by omega) (pl_pr l (by omega) e he j hj) (by omega) (by omega) (by omega) (by omega) (fun hm => by rw [T_cl h5 hT]; omega) ev (fun h9 => by omega)
theorem WT.pstate {l e : Nat} (hW : WT B T S) (hl : l < T) (he : e < 2) : ∃ d, S (199 + 18 * l + 8 + 3 * e + 1) = nI d ∧ d ≤ 3 := by
  obtain ⟨a, b, k1, k2, k3, k4, k5, k6, k7, k8, k9, k10, k11, k12, k13⟩ := hW.2.2.2.2.2.2.2.2.2.1 l hl
  have : e = 0 ∨ e = 1 := by omega
  rcases this with rfl | rfl
  · rw [show 199 + 18 * l + 8 + 3 * 0 + 1 = 199 + 18 * l + 9 by omega]; exact k11
  · rw [show 199 + 18 * l + 8 + 3 * 1 + 1 = 199 + 18 * l + 12 by omega]; exact k12
theorem nsP_le {l e : Nat} (hW : WT B T S) (hl : l < T) (he : e < 2) : ∃ d, nsP S l e = nI d ∧ d ≤ 3 := by
  obtain ⟨d, h1, h2⟩ := hW.pstate hl he
  unfold nsP nSt
  rw [h1]
  have : d = 0 ∨ d = 1 ∨ d = 2 ∨ d = 3 := by omega
  by_cases hr : rr S l e = nI 2
  · exact ⟨0, if_pos hr, by omega⟩
  · rw [if_neg hr]
    rcases this with rfl | rfl | rfl | rfl
    · exact ⟨1, if_pos rfl, by omega⟩
    · rw [if_neg (by decide), if_neg (by decide)]
      split
      · exact ⟨2, rfl, by omega⟩
      · exact ⟨1, rfl, by omega⟩
    · rw [if_neg (by decide), if_neg (by decide)]
      split
      · exact ⟨3, rfl, by omega⟩
      · exact ⟨2, rfl, by omega⟩
    · rw [if_neg (by decide), if_pos rfl]
      exact ⟨3, rfl, by omega⟩
theorem sPt_at {l e i : Nat} (h : ¬ (199 + 18 * l + 8 + 3 * e ≤ i ∧ i < 199 + 18 * l + 8 + 3 * e + 3)) : sPt l e S i = S i := by
  unfold sPt
  rw [upd_n (by omega), upd_n (by omega), upd_n (by omega)]
theorem sPc_at {l e i : Nat} (h : ¬ (199 + 18 * l + 8 + 3 * e ≤ i ∧ i < 199 + 18 * l + 8 + 3 * e + 3)) (h7 : i ≠ 7) : sPc l e S i = S i := by
  unfold sPc
  split
  · rw [upd_n h7, sPt_at h]
  · exact sPt_at h
theorem sPc_1 {l e : Nat} : sPc l e S (199 + 18 * l + 8 + 3 * e + 1) = nsP S l e := by
  unfold sPc
  split
  · rw [upd_n (by omega)]; unfold sPt; rw [upd_n (by omega), upd_e]
  · unfold sPt; rw [upd_n (by omega), upd_e]
theorem WT.port {l e : Nat} (hW : WT B T S) (hl : l < T) (he : e < 2) : WT B T (sPc l e S) := by
  refine hW.lk hl (fun i h1 h2 => sPc_at (by omega) (by unfold wx at h1; omega)) ?_ (sPc_at (by omega) (by omega)) (sPc_at (by omega) (by omega))
  obtain ⟨a, b, k1, k2, k3, k4, k5, k6, k7, k8, k9, k10, k11, k12, k13⟩ := hW.2.2.2.2.2.2.2.2.2.1 l hl
  have hn := nsP_le hW hl he
  have h01 : e = 0 ∨ e = 1 := by omega
  refine ⟨a, b, k1, k2, ?_, ?_, ?_, ?_, ?_, ?_, ?_, ?_, ?_, ?_, fun t ht => ?_⟩
  · rw [sPc_at (by omega) (by omega)]; exact k3
  · rw [sPc_at (by omega) (by omega)]; exact k4
  · rw [sPc_at (by omega) (by omega)]; exact k5
  · rw [sPc_at (by omega) (by omega)]; exact k6
  · rw [sPc_at (by omega) (by omega)]; exact k7
  · rw [sPc_at (by omega) (by omega)]; exact k8
  · rw [sPc_at (by omega) (by omega)]; exact k9
  · rw [sPc_at (by omega) (by omega)]; exact k10
  · rcases h01 with rfl | rfl
    · rw [show 199 + 18 * l + 9 = 199 + 18 * l + 8 + 3 * 0 + 1 by omega, sPc_1]; exact hn
    · rw [sPc_at (by omega) (by omega)]; exact k11
  · rcases h01 with rfl | rfl
    · rw [sPc_at (by omega) (by omega)]; exact k12
    · rw [show 199 + 18 * l + 12 = 199 + 18 * l + 8 + 3 * 1 + 1 by omega, sPc_1]; exact hn
  · rw [sPc_at (by omega) (by omega)]; exact k13 t ht
theorem pst_s (n : Nat) : pst (n + 1) S = (sPc (n / 2) (n % 2) (pst n S).1, pPc (pst n S).1 (n / 2) (n % 2) (pst n S).2) := rfl
theorem WT.psts (hW : WT B T S) : ∀ n, n ≤ 2 * T → WT B T (pst n S).1
  | 0, _ => hW
  | n + 1, h => by
    rw [pst_s]
    exact (WT.psts hW n (by omega)).port (by omega) (by omega)
theorem sPt_7 {l e : Nat} : sPt l e S 7 = S 7 := sPt_at (by omega)
theorem pst_7 (n : Nat) : ∃ c, c ≤ n ∧ (pst n S).1 7 = S 7 + nI c ∧ (c = 0 → ∀ b, (pst n S).2 b = false) := by
  induction n with
  | zero => exact ⟨0, by omega, by show S 7 = S 7 + 0; rw [Int32.add_zero], fun _ _ => rfl⟩
  | succ n ih =>
    obtain ⟨c, h1, h2, h3⟩ := ih
    rw [pst_s]
    show ∃ c, c ≤ n + 1 ∧ sPc (n / 2) (n % 2) (pst n S).1 7 = S 7 + nI c ∧ (c = 0 → ∀ b, pPc (pst n S).1 (n / 2) (n % 2) (pst n S).2 b = false)
    unfold sPc pPc
    by_cases hc : chP (pst n S).1 (n / 2) (n % 2) = true
    · refine ⟨c + 1, by omega, ?_, fun h => by omega⟩
      rw [if_pos hc, upd_e, h2, Int32.add_assoc, nI_add]
    · refine ⟨c, by omega, ?_, ?_⟩
      · rw [if_neg hc, sPt_7, h2]
      · rw [if_neg hc]; exact h3
theorem pB_8 {l e : Nat} (hW : WT B T S) (hl : l < T) : pB S l e < 8 ∧ pO S l e < 8 ∧ pB S l e < B := by
  obtain ⟨g5, g6⟩ := hW.end8 l hl
  obtain ⟨g7, g8⟩ := hW.endB l hl
  unfold pB pO
  split <;> omega
theorem y_before {b o : Nat} (hR : RN m 1 S) (hb : b < 8) (ho : o < 8) : f_X6_comesBefore (nI b) (nI o) m = some (bI (bet (S (11 + 5 * b + 1)) (S (11 + 5 * b + 2)) (idS S b) (S (11 + 5 * o + 1)) (S (11 + 5 * o + 2)) (idS S o)), m) := by
  have eb : nI 10 * S (11 + 5 * b) + nI b = idS S b := rfl
  have eo : nI 10 * S (11 + 5 * o) + nI o = idS S o := rfl
  unfold f_X6_comesBefore bet
  simp (disch := omega) only [L0, L1, L2, L3, L4, L5, L6, L7, L8, L9, L10, L11, L12, L13, L14, L15, L16, L17, L18, L19, L20, L21, L22, L23, L24, L25, L26, L27, L28, L29, L30, L31, L32, L47, L48, L50, L51, L57, L59, L90, L97, L100, L120, L122, L127, L179, L187, L199, L200, L487, L974, L1000, L1461, L10000, L18498, L1000000, nI_add, pk_mul, nI_cl, nI_lts, nI_les, nI_eqs, Ln1, n1_ne, n1_ne', n1_lts, nI_ltn, n1_les, nI_len, bd_s, lt_d, gd_n, rd_root hR hb, rd_root hR ho, rd_cost hR hb, rd_cost hR ho, y_idOf hR hb, y_idOf hR ho, eb, eo]
  by_cases k1 : S (11 + 5 * b + 1) = S (11 + 5 * o + 1)
  · rw [ifp k1, if_pos k1]
    by_cases k2 : S (11 + 5 * b + 2) = S (11 + 5 * o + 2)
    · rw [ifp k2, if_pos k2]
      by_cases k3 : idS S o ≤ idS S b
      · rw [ifp k3, decide_eq_false (Int32.not_lt.mpr k3)]; rfl
      · rw [ifn k3, decide_eq_true (Int32.not_le.mp k3)]; rfl
    · rw [ifn k2, if_neg k2]
      by_cases k3 : S (11 + 5 * o + 2) ≤ S (11 + 5 * b + 2)
      · rw [ifp k3, decide_eq_false (Int32.not_lt.mpr k3)]; rfl
      · rw [ifn k3, decide_eq_true (Int32.not_le.mp k3)]; rfl
  · rw [ifn k1, if_neg k1]
    by_cases k3 : S (11 + 5 * o + 1) ≤ S (11 + 5 * b + 1)
    · rw [ifp k3, decide_eq_false (Int32.not_lt.mpr k3)]; rfl
    · rw [ifn k3, decide_eq_true (Int32.not_le.mp k3)]; rfl
theorem x_ahead {b o : Nat} (hb : b < 8) (ho : o < 8) : f_X12_isAhead (nI b) (nI o) M = some (bI (bet (M.1 129 (11 + 5 * b + 1)) (M.1 129 (11 + 5 * b + 2)) (idS (M.1 129) b) (M.1 129 (11 + 5 * o + 1)) (M.1 129 (11 + 5 * o + 2)) (idS (M.1 129) o)), M) := by
  have eb : nI 10 * M.1 129 (11 + 5 * b) + nI b = idS (M.1 129) b := rfl
  have eo : nI 10 * M.1 129 (11 + 5 * o) + nI o = idS (M.1 129) o := rfl
  unfold f_X12_isAhead bet
  simp (disch := omega) only [L0, L1, L2, L3, L4, L5, L6, L7, L8, L9, L10, L11, L12, L13, L14, L15, L16, L17, L18, L19, L20, L21, L22, L23, L24, L25, L26, L27, L28, L29, L30, L31, L32, L47, L48, L50, L51, L57, L59, L90, L97, L100, L120, L122, L127, L179, L187, L199, L200, L487, L974, L1000, L1461, L10000, L18498, L1000000, nI_add, pk_mul, nI_cl, nI_lts, nI_les, nI_eqs, Ln1, n1_ne, n1_ne', n1_lts, nI_ltn, n1_les, nI_len, bd_s, lt_d, gd_n, x_idOf, eb, eo]
  by_cases k1 : M.1 129 (11 + 5 * b + 1) = M.1 129 (11 + 5 * o + 1)
  · rw [ifp k1, if_pos k1]
    by_cases k2 : M.1 129 (11 + 5 * b + 2) = M.1 129 (11 + 5 * o + 2)
    · rw [ifp k2, if_pos k2]
      by_cases k3 : idS (M.1 129) o ≤ idS (M.1 129) b
      · rw [ifp k3, decide_eq_false (Int32.not_lt.mpr k3)]; rfl
      · rw [ifn k3, decide_eq_true (Int32.not_le.mp k3)]; rfl
    · rw [ifn k2, if_neg k2]
      by_cases k3 : M.1 129 (11 + 5 * o + 2) ≤ M.1 129 (11 + 5 * b + 2)
      · rw [ifp k3, decide_eq_false (Int32.not_lt.mpr k3)]; rfl
      · rw [ifn k3, decide_eq_true (Int32.not_le.mp k3)]; rfl
  · rw [ifn k1, if_neg k1]
    by_cases k3 : M.1 129 (11 + 5 * o + 1) ≤ M.1 129 (11 + 5 * b + 1)
    · rw [ifp k3, decide_eq_false (Int32.not_lt.mpr k3)]; rfl
    · rw [ifn k3, decide_eq_true (Int32.not_le.mp k3)]; rfl
theorem y_role {l b o : Nat} (hR : RN m 1 S) (w3 : S 5 = nI T) (w4 : T ≤ 16) (hl : l < T) (hb : b < 8) (ho : o < 8) : f_X6_roleOf (nI l) (nI b) (nI o) m = some (rlS S l b o, m) := by
  have hl16 : l < 16 := by omega
  unfold f_X6_roleOf rlS
  simp (disch := omega) only [L0, L1, L2, L3, L4, L5, L6, L7, L8, L9, L10, L11, L12, L13, L14, L15, L16, L17, L18, L19, L20, L21, L22, L23, L24, L25, L26, L27, L28, L29, L30, L31, L32, L47, L48, L50, L51, L57, L59, L90, L97, L100, L120, L122, L127, L179, L187, L199, L200, L487, L974, L1000, L1461, L10000, L18498, L1000000, nI_add, pk_mul, nI_cl, nI_lts, nI_les, nI_eqs, Ln1, n1_ne, n1_ne', n1_lts, nI_ltn, n1_les, nI_len, bd_s, lt_d, gd_n, rd_up hR w3 w4 hl, rd_rlk hR hb, y_before hR hb ho]
  by_cases h1 : S (199 + 18 * l + 4) = nI 0
  · rw [ifp h1, if_pos h1]
  · rw [ifn h1, if_neg h1]
    by_cases h2 : S (11 + 5 * b + 4) = nI l
    · rw [ifp h2, if_pos h2]
    · rw [ifn h2, if_neg h2]
      cases bet (S (11 + 5 * b + 1)) (S (11 + 5 * b + 2)) (idS S b) (S (11 + 5 * o + 1)) (S (11 + 5 * o + 2)) (idS S o)
      · rfl
      · rfl
theorem x_role {l e : Nat} (hW : WT B T (M.1 129)) (hl : l < T) (he : e < 2) : f_X12_roleOf (nI l) (nI (pB (M.1 129) l e)) M = some (rr (M.1 129) l e, M) := by
  have w4 := hW.2.2.2.2.1
  have hl16 : l < 16 := by omega
  obtain ⟨h8, h9, -⟩ := pB_8 (e := e) hW hl
  obtain ⟨-, -, g3, -⟩ := hW.ends hl
  have ho : f_X12_other (nI l) (nI (pB (M.1 129) l e)) M = some (nI (pO (M.1 129) l e), M) := by
    rw [x_other hW hl h8]
    refine congrArg (fun z => some (nI z, M)) ?_
    have : e = 0 ∨ e = 1 := by omega
    unfold pB pO
    rcases this with rfl | rfl
    · rw [if_pos rfl, if_pos rfl, if_pos rfl]
    · simp only [Nat.one_ne_zero, if_false]
      rw [if_neg (by omega)]
  unfold f_X12_roleOf rr rlS
  simp (disch := omega) only [L0, L1, L2, L3, L4, L5, L6, L7, L8, L9, L10, L11, L12, L13, L14, L15, L16, L17, L18, L19, L20, L21, L22, L23, L24, L25, L26, L27, L28, L29, L30, L31, L32, L47, L48, L50, L51, L57, L59, L90, L97, L100, L120, L122, L127, L179, L187, L199, L200, L487, L974, L1000, L1461, L10000, L18498, L1000000, nI_add, pk_mul, nI_cl, nI_lts, nI_les, nI_eqs, Ln1, n1_ne, n1_ne', n1_lts, nI_ltn, n1_les, nI_len, bd_s, lt_d, gd_n, x_of, ho, x_ahead h8 h9]
  by_cases h1 : M.1 129 (199 + 18 * l + 4) = nI 0
  · rw [ifp h1, if_pos h1]
  · rw [ifn h1, if_neg h1]
    by_cases h2 : M.1 129 (11 + 5 * pB (M.1 129) l e + 4) = nI l
    · rw [ifp h2, if_pos h2]
    · rw [ifn h2, if_neg h2]
      cases bet (M.1 129 (11 + 5 * pB (M.1 129) l e + 1)) (M.1 129 (11 + 5 * pB (M.1 129) l e + 2)) (idS (M.1 129) (pB (M.1 129) l e)) (M.1 129 (11 + 5 * pO (M.1 129) l e + 1)) (M.1 129 (11 + 5 * pO (M.1 129) l e + 2)) (idS (M.1 129) (pO (M.1 129) l e))
      · rfl
      · rfl
/-- a port's state moves -/
theorem y_move {l e : Nat} {r : Int32} {d : Nat} (hC : Cl m0 m S) (w3 : S 5 = nI T) (w4 : T ≤ 16) (hl : l < T) (he : e < 2) (hr : S (199 + 18 * l + 8 + 3 * e) = r) (hd : S (199 + 18 * l + 8 + 3 * e + 1) = nI d) (hd3 : d ≤ 3) (dl : Int32) : ∃ m1, f_X6_moveState (nI (2 * l + e)) dl m = some m1 ∧ Cl m0 m1 (upd (upd S (199 + 18 * l + 8 + 3 * e + 1) (nSt r (nI d) (S (199 + 18 * l + 8 + 3 * e + 2)))) (199 + 18 * l + 8 + 3 * e + 2) (nTm r (nI d) (S (199 + 18 * l + 8 + 3 * e + 2)) dl)) ∧ fs m m1 := by
  have hR := hC.1
  have hl16 : l < 16 := by omega
  have r0 : m.1 20 (2 * l + e) = r := (rd_p (j := 0) hR w3 w4 hl he (by decide)).trans hr
  have r1 : m.1 21 (2 * l + e) = nI d := (rd_p (j := 1) hR w3 w4 hl he (by decide)).trans hd
  have r2 : m.1 22 (2 * l + e) = S (199 + 18 * l + 8 + 3 * e + 2) := rd_p (j := 2) hR w3 w4 hl he (by decide)
  have s1 : ∀ x y : Int32, Cl m0 (wI (wI m 21 (2 * l + e) x) 22 (2 * l + e) y) (upd (upd S (199 + 18 * l + 8 + 3 * e + 1) x) (199 + 18 * l + 8 + 3 * e + 2) y) := fun x y =>
    Cl_p (j := 2) (Cl_p (j := 1) hC w3 w4 hl he (by decide) rfl) (by rw [upd_n (by omega)]; exact w3) w4 hl he (by decide) rfl
  have s2 : ∀ z : Int32, Cl m0 (wI m 22 (2 * l + e) z) (upd (upd S (199 + 18 * l + 8 + 3 * e + 1) (nI d)) (199 + 18 * l + 8 + 3 * e + 2) z) := fun z => by
    rw [upd_self hd]
    exact Cl_p (j := 2) hC w3 w4 hl he (by decide) rfl
  have s3 : ∀ z x : Int32, Cl m0 (wI (wI m 22 (2 * l + e) z) 21 (2 * l + e) x) (upd (upd S (199 + 18 * l + 8 + 3 * e + 1) x) (199 + 18 * l + 8 + 3 * e + 2) z) := fun z x => by
    have := Cl_p (j := 1) (v := x) (Cl_p (j := 2) (v := z) hC w3 w4 hl he (by decide) rfl) (T := T) (by rw [upd_n (by omega)]; exact w3) w4 hl he (by decide) rfl
    rw [upd_cm (by omega)] at this
    exact this
  have s4 : ∀ z x y : Int32, Cl m0 (wI (wI (wI m 22 (2 * l + e) z) 21 (2 * l + e) x) 22 (2 * l + e) y) (upd (upd S (199 + 18 * l + 8 + 3 * e + 1) x) (199 + 18 * l + 8 + 3 * e + 2) y) := fun z x y => by
    have := Cl_p (j := 2) (v := y) (s3 z x) (T := T) (by rw [upd_n (by omega), upd_n (by omega)]; exact w3) w4 hl he (by decide) rfl
    rw [upd_upd] at this
    exact this
  unfold nSt nTm
  generalize htm : S (199 + 18 * l + 8 + 3 * e + 2) = tm at *
  by_cases h2 : r = nI 2
  · rw [if_pos h2, if_pos h2]
    refine ⟨_, ?_, s1 (nI 0) (nI 0), ((fs.rf m).w (by omega)).w (by omega)⟩
    unfold f_X6_moveState
    simp (disch := omega) only [L0, L1, L2, L3, L4, L5, L6, L7, L8, L9, L10, L11, L12, L13, L14, L15, L16, L17, L18, L19, L20, L21, L22, L23, L24, L25, L26, L27, L28, L29, L30, L31, L32, L47, L48, L50, L51, L57, L59, L90, L97, L100, L120, L122, L127, L179, L187, L199, L200, L487, L974, L1000, L1461, L10000, L18498, L1000000, nI_add, pk_mul, nI_cl, nI_lts, nI_les, nI_eqs, Ln1, n1_ne, n1_ne', n1_lts, nI_ltn, n1_les, nI_len, bd_s, lt_d, gd_n, r0, h2, if_true]
  · rw [if_neg h2, if_neg h2]
    have : d = 0 ∨ d = 3 ∨ d = 1 ∨ d = 2 := by omega
    rcases this with rfl | rfl | hd12
    · rw [if_pos rfl, if_pos rfl]
      refine ⟨_, ?_, s1 (nI 1) dl, ((fs.rf m).w (by omega)).w (by omega)⟩
      unfold f_X6_moveState
      simp (disch := omega) only [L0, L1, L2, L3, L4, L5, L6, L7, L8, L9, L10, L11, L12, L13, L14, L15, L16, L17, L18, L19, L20, L21, L22, L23, L24, L25, L26, L27, L28, L29, L30, L31, L32, L47, L48, L50, L51, L57, L59, L90, L97, L100, L120, L122, L127, L179, L187, L199, L200, L487, L974, L1000, L1461, L10000, L18498, L1000000, nI_add, pk_mul, nI_cl, nI_lts, nI_les, nI_eqs, Ln1, n1_ne, n1_ne', n1_lts, nI_ltn, n1_les, nI_len, bd_s, lt_d, gd_n, r0, r1, h2, if_true, if_false]
    · rw [if_neg (by decide), if_pos rfl, if_neg (by decide), if_pos rfl, upd_self hd, upd_self htm]
      refine ⟨m, ?_, hC, fs.rf m⟩
      unfold f_X6_moveState
      simp (disch := omega) only [L0, L1, L2, L3, L4, L5, L6, L7, L8, L9, L10, L11, L12, L13, L14, L15, L16, L17, L18, L19, L20, L21, L22, L23, L24, L25, L26, L27, L28, L29, L30, L31, L32, L47, L48, L50, L51, L57, L59, L90, L97, L100, L120, L122, L127, L179, L187, L199, L200, L487, L974, L1000, L1461, L10000, L18498, L1000000, nI_add, pk_mul, nI_cl, nI_lts, nI_les, nI_eqs, Ln1, n1_ne, n1_ne', n1_lts, nI_ltn, n1_les, nI_len, bd_s, lt_d, gd_n, r0, r1, h2, if_true, if_false, Nat.reduceEqDiff, Nat.succ_ne_zero]
    · have hd0 : ¬ nI d = nI 0 := by rw [nI_eqs (by omega) (by omega)]; omega
      have hd3' : ¬ nI d = nI 3 := by rw [nI_eqs (by omega) (by omega)]; omega
      have nd0 : ¬ d = 0 := by omega
      have nd3 : ¬ d = 3 := by omega
      rw [if_neg hd0, if_neg hd3', if_neg hd0, if_neg hd3']
      have e22 : ∀ z, (wI m 22 (2 * l + e) z).1 22 (2 * l + e) = z := fun z => by rw [wI_sR, sR_get, upd_e]
      have e21 : ∀ z, (wI m 22 (2 * l + e) z).1 21 (2 * l + e) = nI d := fun z => by rw [wI_sR, sR_ne (by decide)]; exact r1
      by_cases hz : tm - nI 1 = nI 0
      · rw [if_pos hz, if_pos hz]
        by_cases h1 : d = 1
        · subst h1
          rw [if_pos rfl, nI_add]
          refine ⟨_, ?_, s4 (nI 0) (nI 2) dl, (((fs.rf m).w (by omega)).w (by omega)).w (by omega)⟩
          unfold f_X6_moveState
          simp (disch := omega) only [L0, L1, L2, L3, L4, L5, L6, L7, L8, L9, L10, L11, L12, L13, L14, L15, L16, L17, L18, L19, L20, L21, L22, L23, L24, L25, L26, L27, L28, L29, L30, L31, L32, L47, L48, L50, L51, L57, L59, L90, L97, L100, L120, L122, L127, L179, L187, L199, L200, L487, L974, L1000, L1461, L10000, L18498, L1000000, nI_add, pk_mul, nI_cl, nI_lts, nI_les, nI_eqs, Ln1, n1_ne, n1_ne', n1_lts, nI_ltn, n1_les, nI_len, bd_s, lt_d, gd_n, r0, r1, r2, h2, if_true, if_false, hz, e22, e21, if_neg nd0, if_neg nd3]
        · have hd2 : d = 2 := by omega
          subst hd2
          rw [if_neg (by decide), nI_add]
          refine ⟨_, ?_, s3 (nI 0) (nI 3), ((fs.rf m).w (by omega)).w (by omega)⟩
          unfold f_X6_moveState j_X6_moveState_106
          simp (disch := omega) only [L0, L1, L2, L3, L4, L5, L6, L7, L8, L9, L10, L11, L12, L13, L14, L15, L16, L17, L18, L19, L20, L21, L22, L23, L24, L25, L26, L27, L28, L29, L30, L31, L32, L47, L48, L50, L51, L57, L59, L90, L97, L100, L120, L122, L127, L179, L187, L199, L200, L487, L974, L1000, L1461, L10000, L18498, L1000000, nI_add, pk_mul, nI_cl, nI_lts, nI_les, nI_eqs, Ln1, n1_ne, n1_ne', n1_lts, nI_ltn, n1_les, nI_len, bd_s, lt_d, gd_n, r0, r1, r2, h2, if_true, if_false, hz, e22, e21, if_neg nd0, if_neg nd3, if_neg h1]
      · rw [if_neg hz, if_neg hz]
        refine ⟨_, ?_, s2 (tm - nI 1), (fs.rf m).w (by omega)⟩
        unfold f_X6_moveState j_X6_moveState_106
        simp (disch := omega) only [L0, L1, L2, L3, L4, L5, L6, L7, L8, L9, L10, L11, L12, L13, L14, L15, L16, L17, L18, L19, L20, L21, L22, L23, L24, L25, L26, L27, L28, L29, L30, L31, L32, L47, L48, L50, L51, L57, L59, L90, L97, L100, L120, L122, L127, L179, L187, L199, L200, L487, L974, L1000, L1461, L10000, L18498, L1000000, nI_add, pk_mul, nI_cl, nI_lts, nI_les, nI_eqs, Ln1, n1_ne, n1_ne', n1_lts, nI_ltn, n1_les, nI_len, bd_s, lt_d, gd_n, r0, r1, r2, h2, if_true, if_false, hz, e22, e21, if_neg nd0, if_neg nd3]
theorem dec_ne {a b : Prop} [Decidable a] [Decidable b] (h : (decide a != decide b) = false) : a ↔ b := by
  by_cases ha : a
  · by_cases hb : b
    · exact ⟨fun _ => hb, fun _ => ha⟩
    · rw [decide_eq_true ha, decide_eq_false hb] at h; exact absurd h (by decide)
  · by_cases hb : b
    · rw [decide_eq_false ha, decide_eq_true hb] at h; exact absurd h (by decide)
    · exact ⟨fun h => absurd h ha, fun h => absurd h hb⟩
theorem y_port {l e : Nat} (hW : WT B T S) (hC : Cl m0 m S) (hl : l < T) (he : e < 2) : ∃ m1, j_X6_renewPort_23 (nI l) (nI (pB S l e)) (nI (pO S l e)) (nI (2 * l + e)) m = some m1 ∧ Cl m0 m1 (sPc l e S) ∧ ∀ x, m1.1 121 x = if chP S l e = true ∧ x = pB S l e then nI 1 else m.1 121 x := by
  have hR := hC.1
  have w3 := hW.2.2.2.1
  have w4 := hW.2.2.2.2.1
  have hl16 : l < 16 := by omega
  obtain ⟨h8, h9, -⟩ := pB_8 (e := e) hW hl
  obtain ⟨d, hd, hd3⟩ := hW.pstate hl he
  have r1 : m.1 21 (2 * l + e) = nI d := (rd_p (j := 1) hR w3 w4 hl he (by decide)).trans hd
  have c1 : Cl m0 (wI m 20 (2 * l + e) (rr S l e)) (upd S (199 + 18 * l + 8 + 3 * e) (rr S l e)) := Cl_p (j := 0) hC w3 w4 hl he (by decide) rfl
  have e5 : upd S (199 + 18 * l + 8 + 3 * e) (rr S l e) 5 = nI T := by rw [upd_n (by omega)]; exact w3
  obtain ⟨m1, k1, k2, k3⟩ := y_move (r := rr S l e) (d := d) c1 e5 w4 hl he upd_e (by rw [upd_n (by omega)]; exact hd) hd3 (S 2)
  rw [upd_n (show 199 + 18 * l + 8 + 3 * e + 2 ≠ 199 + 18 * l + 8 + 3 * e by omega)] at k2
  have ens : nSt (rr S l e) (nI d) (S (199 + 18 * l + 8 + 3 * e + 2)) = nsP S l e := by unfold nsP; rw [hd]
  have ent : nTm (rr S l e) (nI d) (S (199 + 18 * l + 8 + 3 * e + 2)) (S 2) = ntP S l e := by unfold ntP; rw [hd]
  rw [ens, ent] at k2
  have k2' : Cl m0 m1 (sPt l e S) := k2
  have e121 : m1.1 121 = m.1 121 := by rw [k3.1 121 (by omega), wI_sR, sR_ne (by decide)]
  have e2 : (wI m 20 (2 * l + e) (rr S l e)).1 1 2 = S 2 := by rw [wI_sR, sR_ne (by decide)]; exact rd_delay hR
  have w3t : sPt l e S 5 = nI T := by rw [sPt_at (by omega)]; exact w3
  have r21 : m1.1 21 (2 * l + e) = nsP S l e := by
    have := rd_p (j := 1) k2'.1 w3t w4 hl he (by decide)
    rw [show sPt l e S (199 + 18 * l + 8 + 3 * e + 1) = nsP S l e by unfold sPt; rw [upd_n (by omega), upd_e]] at this
    exact this
  have r7 : m1.1 1 6 = S 7 := (rd_chng k2'.1).trans sPt_7
  obtain ⟨d', hd', hd3'⟩ := nsP_le hW hl he
  have c7 := Cl_chng (v := S 7 + nI 1) k2' rfl
  have hrole := y_role hR w3 w4 hl h8 h9
  have erl : rlS S l (pB S l e) (pO S l e) = rr S l e := rfl
  unfold sPc
  by_cases hch : chP S l e = true
  · rw [if_pos hch]
    refine ⟨wI (wI m1 1 6 (S 7 + nI 1)) 121 (pB S l e) (nI 1), ?_, ⟨c7.1.scr (by omega), c7.2.w (Or.inr (by omega))⟩, fun x => ?_⟩
    · unfold j_X6_renewPort_23 j_X6_renewPort_42 j_X6_renewPort_95
      unfold chP at hch
      rw [hd, hd'] at hch
      by_cases q1 : nI d = nI 3
      · have q2 : ¬ nI d' = nI 3 := fun g => by rw [decide_eq_true q1, decide_eq_true g] at hch; exact absurd hch (by decide)
        have p1 : d = 3 := by rw [nI_eqs (by omega) (by omega)] at q1; exact q1
        have p2 : ¬ d' = 3 := by rw [nI_eqs (by omega) (by omega)] at q2; exact q2
        simp (disch := omega) only [L0, L1, L2, L3, L4, L5, L6, L7, L8, L9, L10, L11, L12, L13, L14, L15, L16, L17, L18, L19, L20, L21, L22, L23, L24, L25, L26, L27, L28, L29, L30, L31, L32, L47, L48, L50, L51, L57, L59, L90, L97, L100, L120, L122, L127, L179, L187, L199, L200, L487, L974, L1000, L1461, L10000, L18498, L1000000, nI_add, pk_mul, nI_cl, nI_lts, nI_les, nI_eqs, Ln1, n1_ne, n1_ne', n1_lts, nI_ltn, n1_les, nI_len, bd_s, lt_d, gd_n, r1, if_pos p1, hrole, erl, e2, k1, r21, hd', if_neg p2, i10, if_false, r7, Nat.one_ne_zero]
      · have q2 : nI d' = nI 3 := by
          refine Classical.byContradiction (fun g => ?_)
          rw [decide_eq_false q1, decide_eq_false g] at hch; exact absurd hch (by decide)
        have p1 : ¬ d = 3 := by rw [nI_eqs (by omega) (by omega)] at q1; exact q1
        have p2 : d' = 3 := by rw [nI_eqs (by omega) (by omega)] at q2; exact q2
        simp (disch := omega) only [L0, L1, L2, L3, L4, L5, L6, L7, L8, L9, L10, L11, L12, L13, L14, L15, L16, L17, L18, L19, L20, L21, L22, L23, L24, L25, L26, L27, L28, L29, L30, L31, L32, L47, L48, L50, L51, L57, L59, L90, L97, L100, L120, L122, L127, L179, L187, L199, L200, L487, L974, L1000, L1461, L10000, L18498, L1000000, nI_add, pk_mul, nI_cl, nI_lts, nI_les, nI_eqs, Ln1, n1_ne, n1_ne', n1_lts, nI_ltn, n1_les, nI_len, bd_s, lt_d, gd_n, r1, if_neg p1, hrole, erl, e2, k1, r21, hd', if_pos p2, if_false, r7, Nat.zero_ne_one]
    · rw [wI_sR, sR_get, wI_sR, sR_ne (by decide), e121]
      unfold upd
      by_cases hx : x = pB S l e
      · rw [if_pos hx, if_pos ⟨hch, hx⟩]
      · rw [if_neg hx, if_neg (fun h => hx h.2)]
  · rw [if_neg hch]
    refine ⟨m1, ?_, k2', fun x => by rw [if_neg (fun h => hch h.1), e121]⟩
    have hch' : chP S l e = false := by revert hch; cases chP S l e <;> simp
    unfold chP at hch'
    have hiff := dec_ne hch'
    rw [hd, hd'] at hiff
    unfold j_X6_renewPort_23 j_X6_renewPort_42 j_X6_renewPort_95
    by_cases q1 : nI d = nI 3
    · have q2 := hiff.mp q1
      have p1 : d = 3 := by rw [nI_eqs (by omega) (by omega)] at q1; exact q1
      have p2 : d' = 3 := by rw [nI_eqs (by omega) (by omega)] at q2; exact q2
      simp (disch := omega) only [L0, L1, L2, L3, L4, L5, L6, L7, L8, L9, L10, L11, L12, L13, L14, L15, L16, L17, L18, L19, L20, L21, L22, L23, L24, L25, L26, L27, L28, L29, L30, L31, L32, L47, L48, L50, L51, L57, L59, L90, L97, L100, L120, L122, L127, L179, L187, L199, L200, L487, L974, L1000, L1461, L10000, L18498, L1000000, nI_add, pk_mul, nI_cl, nI_lts, nI_les, nI_eqs, Ln1, n1_ne, n1_ne', n1_lts, nI_ltn, n1_les, nI_len, bd_s, lt_d, gd_n, r1, if_pos p1, hrole, erl, e2, k1, r21, hd', if_pos p2, if_true]
    · have q2 : ¬ nI d' = nI 3 := fun g => q1 (hiff.mpr g)
      have p1 : ¬ d = 3 := by rw [nI_eqs (by omega) (by omega)] at q1; exact q1
      have p2 : ¬ d' = 3 := by rw [nI_eqs (by omega) (by omega)] at q2; exact q2
      simp (disch := omega) only [L0, L1, L2, L3, L4, L5, L6, L7, L8, L9, L10, L11, L12, L13, L14, L15, L16, L17, L18, L19, L20, L21, L22, L23, L24, L25, L26, L27, L28, L29, L30, L31, L32, L47, L48, L50, L51, L57, L59, L90, L97, L100, L120, L122, L127, L179, L187, L199, L200, L487, L974, L1000, L1461, L10000, L18498, L1000000, nI_add, pk_mul, nI_cl, nI_lts, nI_les, nI_eqs, Ln1, n1_ne, n1_ne', n1_lts, nI_ltn, n1_les, nI_len, bd_s, lt_d, gd_n, r1, if_neg p1, hrole, erl, e2, k1, r21, hd', if_neg p2, if_true]
end PP
