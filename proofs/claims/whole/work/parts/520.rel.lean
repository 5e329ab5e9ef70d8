/-! The relation between the class's rows and the model's row. -/
def pl (i : Nat) : Nat × Nat :=
  if i < 5 then (0, i) else if i = 5 then (10, 0) else if i < 11 then (0, i - 1)
  else if i < 51 then (2 + (i - 11) % 5, (i - 11) / 5)
  else if i < 179 then (8 + (i - 51) % 2, (i - 51) / 2)
  else if i < 187 then (7, i - 179)
  else if i < 199 then (23 + (i - 187) % 3, (i - 187) / 3)
  else if (i - 199) % 18 < 8 then (11 + (i - 199) % 18, (i - 199) / 18)
  else if (i - 199) % 18 < 14 then (19 + ((i - 199) % 18 - 8) % 3, 2 * ((i - 199) / 18) + ((i - 199) % 18 - 8) / 3)
  else (26, 16 * ((i - 199) % 18 - 14) + (i - 199) / 18)
def ip (q : Nat × Nat) : Nat :=
  if q.1 = 0 then (if q.2 < 5 then q.2 else q.2 + 1) else if q.1 = 10 then 5 else if q.1 < 7 then 11 + 5 * q.2 + (q.1 - 2) else if q.1 = 7 then 179 + q.2
  else if q.1 < 10 then 51 + 2 * q.2 + (q.1 - 8) else if q.1 < 19 then 199 + 18 * q.2 + (q.1 - 11) else if q.1 < 22 then 199 + 18 * (q.2 / 2) + 8 + 3 * (q.2 % 2) + (q.1 - 19)
  else if q.1 < 26 then 187 + 3 * q.2 + (q.1 - 23) else 199 + 18 * (q.2 % 16) + 14 + q.2 / 16
theorem ip_pl : ∀ i, i < 487 → ip (pl i) = i := by decide +kernel
theorem pl_lt : ∀ i, i < 487 → (pl i).1 < 27 := by decide +kernel
theorem pl_inj {i j : Nat} (hi : i < 487) (hj : j < 487) (h : pl i = pl j) : i = j := by rw [← ip_pl i hi, ← ip_pl j hj, h]
theorem pl_26 : ∀ i, i < 487 → (pl i).1 = 26 → 199 ≤ i ∧ (pl i).2 % 16 = (i - 199) / 18 := by decide +kernel
/-- the places of the row that count -/
def rl (S : Nat → Int32) (i : Nat) : Prop := (51 ≤ i ∧ i < 179 ∧ i % 2 = 0 → S (i - 1) ≠ n1) ∧ (199 ≤ i → (i - 199) / 18 < (S 5).toNatClampNeg)
def RN (m : me) (o : Nat) (S : Nat → Int32) : Prop := (∀ i, i < 487 → rl S i → m.1 (o + (pl i).1) (pl i).2 = S i) ∧ (∀ t l, t < 4 → l < 16 → (S 5).toNatClampNeg ≤ l → m.1 (o + 26) (16 * t + l) = nI 0) ∧ ∀ l, l < 16 → isB (m.1 (o + 15) l) = true
section PR
variable {m m' : me} {o o' q r i j T : Nat} {S S' : Nat → Int32} {v v' : Int32}
theorem RN.cg (h : RN m o S) (he : ∀ r, r < 27 → m'.1 (o + r) = m.1 (o + r)) : RN m' o S :=
  ⟨fun i hi hr => by rw [he _ (pl_lt i hi)]; exact h.1 i hi hr, fun t l ht hl hT => by rw [he 26 (by decide)]; exact h.2.1 t l ht hl hT, fun l hl => by rw [he 15 (by decide)]; exact h.2.2 l hl⟩
theorem RN.eqv (h : RN m o S) (he : ∀ i, i < 487 → S' i = S i) : RN m o S' := by
  refine ⟨fun i hi hr => ?_, fun t l ht hl hT => ?_, h.2.2⟩
  · rw [he i hi]
    refine h.1 i hi ⟨fun hm => ?_, fun hl => ?_⟩
    · have := hr.1 hm
      rw [he (i - 1) (by omega)] at this
      exact this
    · have := hr.2 hl
      rw [he 5 (by decide)] at this
      exact this
  · rw [he 5 (by decide)] at hT
    exact h.2.1 t l ht hl hT
theorem RN_w (h : RN m o S) (hi : i < 487) (hp : pl i = (r, j)) (hq : q = o + r) (h5 : i ≠ 5) (hv : ¬ (51 ≤ i ∧ i < 179)) (hT : 199 ≤ i → (i - 199) / 18 < (S 5).toNatClampNeg) (e : v = v') (hub : r = 15 → isB v = true) : RN (wI m q j v) o (upd S i v') := by
  subst hq e
  have e5 : (upd S i v) 5 = S 5 := upd_n (Ne.symm h5)
  have hrr : (pl i).1 = r := by rw [hp]
  have hrj : (pl i).2 = j := by rw [hp]
  refine ⟨fun k hk hr => ?_, fun t l ht hl hTl => ?_, fun l hl => ?_⟩
  · rw [wI_sR]
    by_cases hki : k = i
    · subst hki
      rw [hrr, hrj, sR_get, upd_e, upd_e]
    · have hne : pl k ≠ pl i := fun e => hki (pl_inj hk hi e)
      have hval : S k = upd S i v k := (upd_n hki).symm
      rw [← hval]
      have hr' : rl S k := by
        refine ⟨fun hm => ?_, fun hl => ?_⟩
        · have := hr.1 hm
          rw [upd_n (by omega)] at this
          exact this
        · have := hr.2 hl
          rw [e5] at this
          exact this
      by_cases hrow : (pl k).1 = r
      · have hcol : (pl k).2 ≠ j := fun e => hne (by rw [hp]; exact Prod.ext hrow e)
        rw [hrow, sR_get, upd_n hcol, ← hrow]
        exact h.1 k hk hr'
      · rw [sR_ne (by omega)]
        exact h.1 k hk hr'
  · rw [e5] at hTl
    rw [wI_sR]
    by_cases hrow : r = 26
    · subst hrow
      obtain ⟨g1, g2⟩ := pl_26 i hi hrr
      have := hT g1
      have hc : 16 * t + l ≠ j := fun e => by
        rw [hrj, ← e] at g2
        omega
      rw [sR_get, upd_n hc]
      exact h.2.1 t l ht hl hTl
    · rw [sR_ne (by omega)]
      exact h.2.1 t l ht hl hTl
  · rw [wI_sR]
    by_cases hrow : r = 15
    · subst hrow
      rw [sR_get]
      unfold upd
      by_cases hc : l = j
      · rw [if_pos hc]; exact hub rfl
      · rw [if_neg hc]; exact h.2.2 l hl
    · rw [sR_ne (by omega)]
      exact h.2.2 l hl
end PR
/-- the class's state: related, and nothing else changed -/
def fc (m0 m : me) : Prop := (∀ o, ¬ (1 ≤ o ∧ o < 28) → ¬ (114 ≤ o ∧ o < 128) → m.1 o = m0.1 o) ∧ m.2 = m0.2
def Cl (m0 m : me) (S : Nat → Int32) : Prop := RN m 1 S ∧ fc m0 m
theorem fc.rf (m : me) : fc m m := ⟨fun _ _ _ => rfl, rfl⟩
theorem fc.tr {a b c : me} (h : fc a b) (k : fc b c) : fc a c := ⟨fun o h1 h2 => (k.1 o h1 h2).trans (h.1 o h1 h2), k.2.trans h.2⟩
theorem fc.w {a b : me} (h : fc a b) {q j : Nat} {v : Int32} (hq : (1 ≤ q ∧ q < 28) ∨ (114 ≤ q ∧ q < 128)) : fc a (wI b q j v) := by
  refine ⟨fun o h1 h2 => ?_, h.2⟩
  rw [wI_sR, sR_ne (by omega)]
  exact h.1 o h1 h2
theorem RN.scr {m : me} {S : Nat → Int32} (h : RN m 1 S) {q : Nat} {f : Nat → Int32} (hq : 28 ≤ q) : RN (sR m q f) 1 S := h.cg (fun r hr => sR_ne (by omega))
section PC
variable {m0 m : me} {T : Nat} {S : Nat → Int32} {v v' : Int32}
theorem Cl_w {q r i j : Nat} (h : Cl m0 m S) (hi : i < 487) (hp : pl i = (r, j)) (hq : q = 1 + r) (hr : r < 27) (h5 : i ≠ 5) (hv : ¬ (51 ≤ i ∧ i < 179)) (hT : 199 ≤ i → (i - 199) / 18 < (S 5).toNatClampNeg) (e : v = v') (hub : r = 15 → isB v = true) : Cl m0 (wI m q j v) (upd S i v') :=
  ⟨RN_w h.1 hi hp hq h5 hv hT e hub, h.2.w (Or.inl (by omega))⟩
theorem T_cl {T : Nat} (h5 : S 5 = nI T) (hT : T ≤ 16) : (S 5).toNatClampNeg = T := by rw [h5]; exact nI_cl (by omega)
theorem pl_prio : ∀ b, b < 8 → pl (11 + 5 * b) = (2, b) := by decide +kernel
theorem rd_prio {b : Nat} (hR : RN m 1 S) (hx : b < 8) : m.1 3 b = S (11 + 5 * b) := by
  have := hR.1 (11 + 5 * b) (by omega) ⟨fun hm => by omega, fun hm => by omega⟩
  rw [pl_prio b hx] at this
  exact this
theorem Cl_prio {b : Nat} (hC : Cl m0 m S) (hx : b < 8) (e : v = v') : Cl m0 (wI m 3 b v) (upd S (11 + 5 * b) v') := Cl_w hC (by omega) (pl_prio b hx) rfl (by decide) (by omega) (by omega) (fun hm => by omega) e (fun h9 => by omega)
theorem pl_root : ∀ b, b < 8 → pl (11 + 5 * b + 1) = (3, b) := by decide +kernel
theorem rd_root {b : Nat} (hR : RN m 1 S) (hx : b < 8) : m.1 4 b = S (11 + 5 * b + 1) := by
  have := hR.1 (11 + 5 * b + 1) (by omega) ⟨fun hm => by omega, fun hm => by omega⟩
  rw [pl_root b hx] at this
  exact this
theorem Cl_root {b : Nat} (hC : Cl m0 m S) (hx : b < 8) (e : v = v') : Cl m0 (wI m 4 b v) (upd S (11 + 5 * b + 1) v') := Cl_w hC (by omega) (pl_root b hx) rfl (by decide) (by omega) (by omega) (fun hm => by omega) e (fun h9 => by omega)
theorem pl_cost : ∀ b, b < 8 → pl (11 + 5 * b + 2) = (4, b) := by decide +kernel
theorem rd_cost {b : Nat} (hR : RN m 1 S) (hx : b < 8) : m.1 5 b = S (11 + 5 * b + 2) := by
  have := hR.1 (11 + 5 * b + 2) (by omega) ⟨fun hm => by omega, fun hm => by omega⟩
  rw [pl_cost b hx] at this
  exact this
theorem Cl_cost {b : Nat} (hC : Cl m0 m S) (hx : b < 8) (e : v = v') : Cl m0 (wI m 5 b v) (upd S (11 + 5 * b + 2) v') := Cl_w hC (by omega) (pl_cost b hx) rfl (by decide) (by omega) (by omega) (fun hm => by omega) e (fun h9 => by omega)
theorem pl_age : ∀ b, b < 8 → pl (11 + 5 * b + 3) = (5, b) := by decide +kernel
theorem rd_age {b : Nat} (hR : RN m 1 S) (hx : b < 8) : m.1 6 b = S (11 + 5 * b + 3) := by
  have := hR.1 (11 + 5 * b + 3) (by omega) ⟨fun hm => by omega, fun hm => by omega⟩
  rw [pl_age b hx] at this
  exact this
theorem Cl_age {b : Nat} (hC : Cl m0 m S) (hx : b < 8) (e : v = v') : Cl m0 (wI m 6 b v) (upd S (11 + 5 * b + 3) v') := Cl_w hC (by omega) (pl_age b hx) rfl (by decide) (by omega) (by omega) (fun hm => by omega) e (fun h9 => by omega)
theorem pl_rlk : ∀ b, b < 8 → pl (11 + 5 * b + 4) = (6, b) := by decide +kernel
theorem rd_rlk {b : Nat} (hR : RN m 1 S) (hx : b < 8) : m.1 7 b = S (11 + 5 * b + 4) := by
  have := hR.1 (11 + 5 * b + 4) (by omega) ⟨fun hm => by omega, fun hm => by omega⟩
  rw [pl_rlk b hx] at this
  exact this
theorem Cl_rlk {b : Nat} (hC : Cl m0 m S) (hx : b < 8) (e : v = v') : Cl m0 (wI m 7 b v) (upd S (11 + 5 * b + 4) v') := Cl_w hC (by omega) (pl_rlk b hx) rfl (by decide) (by omega) (by omega) (fun hm => by omega) e (fun h9 => by omega)
theorem pl_host : ∀ h, h < 8 → pl (179 + h) = (7, h) := by decide +kernel
theorem rd_host {h : Nat} (hR : RN m 1 S) (hx : h < 8) : m.1 8 h = S (179 + h) := by
  have := hR.1 (179 + h) (by omega) ⟨fun hm => by omega, fun hm => by omega⟩
  rw [pl_host h hx] at this
  exact this
theorem Cl_host {h : Nat} (hC : Cl m0 m S) (hx : h < 8) (e : v = v') : Cl m0 (wI m 8 h v) (upd S (179 + h) v') := Cl_w hC (by omega) (pl_host h hx) rfl (by decide) (by omega) (by omega) (fun hm => by omega) e (fun h9 => by omega)
theorem pl_cred : ∀ t, t < 4 → pl (187 + 3 * t) = (23, t) := by decide +kernel
theorem rd_cred {t : Nat} (hR : RN m 1 S) (hx : t < 4) : m.1 24 t = S (187 + 3 * t) := by
  have := hR.1 (187 + 3 * t) (by omega) ⟨fun hm => by omega, fun hm => by omega⟩
  rw [pl_cred t hx] at this
  exact this
theorem Cl_cred {t : Nat} (hC : Cl m0 m S) (hx : t < 4) (e : v = v') : Cl m0 (wI m 24 t v) (upd S (187 + 3 * t) v') := Cl_w hC (by omega) (pl_cred t hx) rfl (by decide) (by omega) (by omega) (fun hm => by omega) e (fun h9 => by omega)
theorem pl_paid : ∀ t, t < 4 → pl (187 + 3 * t + 1) = (24, t) := by decide +kernel
theorem rd_paid {t : Nat} (hR : RN m 1 S) (hx : t < 4) : m.1 25 t = S (187 + 3 * t + 1) := by
  have := hR.1 (187 + 3 * t + 1) (by omega) ⟨fun hm => by omega, fun hm => by omega⟩
  rw [pl_paid t hx] at this
  exact this
theorem Cl_paid {t : Nat} (hC : Cl m0 m S) (hx : t < 4) (e : v = v') : Cl m0 (wI m 25 t v) (upd S (187 + 3 * t + 1) v') := Cl_w hC (by omega) (pl_paid t hx) rfl (by decide) (by omega) (by omega) (fun hm => by omega) e (fun h9 => by omega)
theorem pl_rfd : ∀ t, t < 4 → pl (187 + 3 * t + 2) = (25, t) := by decide +kernel
theorem rd_rfd {t : Nat} (hR : RN m 1 S) (hx : t < 4) : m.1 26 t = S (187 + 3 * t + 2) := by
  have := hR.1 (187 + 3 * t + 2) (by omega) ⟨fun hm => by omega, fun hm => by omega⟩
  rw [pl_rfd t hx] at this
  exact this
theorem Cl_rfd {t : Nat} (hC : Cl m0 m S) (hx : t < 4) (e : v = v') : Cl m0 (wI m 26 t v) (upd S (187 + 3 * t + 2) v') := Cl_w hC (by omega) (pl_rfd t hx) rfl (by decide) (by omega) (by omega) (fun hm => by omega) e (fun h9 => by omega)
theorem pl_low : ∀ l, l < 16 → pl (199 + 18 * l) = (11, l) := by decide +kernel
theorem rd_low {l : Nat} (h : RN m 1 S) (h5 : S 5 = nI T) (hT : T ≤ 16) (hx : l < T) : m.1 12 l = S (199 + 18 * l) := by
  have := h.1 (199 + 18 * l) (by omega) ⟨fun hm => by omega, fun hm => by rw [T_cl h5 hT]; omega⟩
  rw [pl_low l (by omega)] at this
  exact this
theorem Cl_low {l : Nat} (h : Cl m0 m S) (h5 : S 5 = nI T) (hT : T ≤ 16) (hx : l < T) (e : v = v') : Cl m0 (wI m 12 l v) (upd S (199 + 18 * l) v') := Cl_w h (by omega) (pl_low l (by omega)) rfl (by decide) (by omega) (by omega) (fun hm => by rw [T_cl h5 hT]; omega) e (fun h9 => by omega)
theorem pl_high : ∀ l, l < 16 → pl (199 + 18 * l + 1) = (12, l) := by decide +kernel
theorem rd_high {l : Nat} (h : RN m 1 S) (h5 : S 5 = nI T) (hT : T ≤ 16) (hx : l < T) : m.1 13 l = S (199 + 18 * l + 1) := by
  have := h.1 (199 + 18 * l + 1) (by omega) ⟨fun hm => by omega, fun hm => by rw [T_cl h5 hT]; omega⟩
  rw [pl_high l (by omega)] at this
  exact this
theorem Cl_high {l : Nat} (h : Cl m0 m S) (h5 : S 5 = nI T) (hT : T ≤ 16) (hx : l < T) (e : v = v') : Cl m0 (wI m 13 l v) (upd S (199 + 18 * l + 1) v') := Cl_w h (by omega) (pl_high l (by omega)) rfl (by decide) (by omega) (by omega) (fun hm => by rw [T_cl h5 hT]; omega) e (fun h9 => by omega)
theorem pl_base : ∀ l, l < 16 → pl (199 + 18 * l + 2) = (13, l) := by decide +kernel
theorem rd_base {l : Nat} (h : RN m 1 S) (h5 : S 5 = nI T) (hT : T ≤ 16) (hx : l < T) : m.1 14 l = S (199 + 18 * l + 2) := by
  have := h.1 (199 + 18 * l + 2) (by omega) ⟨fun hm => by omega, fun hm => by rw [T_cl h5 hT]; omega⟩
  rw [pl_base l (by omega)] at this
  exact this
theorem Cl_base {l : Nat} (h : Cl m0 m S) (h5 : S 5 = nI T) (hT : T ≤ 16) (hx : l < T) (e : v = v') : Cl m0 (wI m 14 l v) (upd S (199 + 18 * l + 2) v') := Cl_w h (by omega) (pl_base l (by omega)) rfl (by decide) (by omega) (by omega) (fun hm => by rw [T_cl h5 hT]; omega) e (fun h9 => by omega)
theorem pl_lcost : ∀ l, l < 16 → pl (199 + 18 * l + 3) = (14, l) := by decide +kernel
theorem rd_lcost {l : Nat} (h : RN m 1 S) (h5 : S 5 = nI T) (hT : T ≤ 16) (hx : l < T) : m.1 15 l = S (199 + 18 * l + 3) := by
  have := h.1 (199 + 18 * l + 3) (by omega) ⟨fun hm => by omega, fun hm => by rw [T_cl h5 hT]; omega⟩
  rw [pl_lcost l (by omega)] at this
  exact this
theorem Cl_lcost {l : Nat} (h : Cl m0 m S) (h5 : S 5 = nI T) (hT : T ≤ 16) (hx : l < T) (e : v = v') : Cl m0 (wI m 15 l v) (upd S (199 + 18 * l + 3) v') := Cl_w h (by omega) (pl_lcost l (by omega)) rfl (by decide) (by omega) (by omega) (fun hm => by rw [T_cl h5 hT]; omega) e (fun h9 => by omega)
theorem pl_up : ∀ l, l < 16 → pl (199 + 18 * l + 4) = (15, l) := by decide +kernel
theorem rd_up {l : Nat} (h : RN m 1 S) (h5 : S 5 = nI T) (hT : T ≤ 16) (hx : l < T) : m.1 16 l = S (199 + 18 * l + 4) := by
  have := h.1 (199 + 18 * l + 4) (by omega) ⟨fun hm => by omega, fun hm => by rw [T_cl h5 hT]; omega⟩
  rw [pl_up l (by omega)] at this
  exact this
theorem Cl_up {l : Nat} (h : Cl m0 m S) (h5 : S 5 = nI T) (hT : T ≤ 16) (hx : l < T) (e : v = v') (hub : isB v = true) : Cl m0 (wI m 16 l v) (upd S (199 + 18 * l + 4) v') := Cl_w h (by omega) (pl_up l (by omega)) rfl (by decide) (by omega) (by omega) (fun hm => by rw [T_cl h5 hT]; omega) e (fun _ => hub)
theorem pl_win : ∀ l, l < 16 → pl (199 + 18 * l + 5) = (16, l) := by decide +kernel
theorem rd_win {l : Nat} (h : RN m 1 S) (h5 : S 5 = nI T) (hT : T ≤ 16) (hx : l < T) : m.1 17 l = S (199 + 18 * l + 5) := by
  have := h.1 (199 + 18 * l + 5) (by omega) ⟨fun hm => by omega, fun hm => by rw [T_cl h5 hT]; omega⟩
  rw [pl_win l (by omega)] at this
  exact this
theorem Cl_win {l : Nat} (h : Cl m0 m S) (h5 : S 5 = nI T) (hT : T ≤ 16) (hx : l < T) (e : v = v') : Cl m0 (wI m 17 l v) (upd S (199 + 18 * l + 5) v') := Cl_w h (by omega) (pl_win l (by omega)) rfl (by decide) (by omega) (by omega) (fun hm => by rw [T_cl h5 hT]; omega) e (fun h9 => by omega)
theorem pl_price : ∀ l, l < 16 → pl (199 + 18 * l + 6) = (17, l) := by decide +kernel
theorem rd_price {l : Nat} (h : RN m 1 S) (h5 : S 5 = nI T) (hT : T ≤ 16) (hx : l < T) : m.1 18 l = S (199 + 18 * l + 6) := by
  have := h.1 (199 + 18 * l + 6) (by omega) ⟨fun hm => by omega, fun hm => by rw [T_cl h5 hT]; omega⟩
  rw [pl_price l (by omega)] at this
  exact this
theorem Cl_price {l : Nat} (h : Cl m0 m S) (h5 : S 5 = nI T) (hT : T ≤ 16) (hx : l < T) (e : v = v') : Cl m0 (wI m 18 l v) (upd S (199 + 18 * l + 6) v') := Cl_w h (by omega) (pl_price l (by omega)) rfl (by decide) (by omega) (by omega) (fun hm => by rw [T_cl h5 hT]; omega) e (fun h9 => by omega)
theorem pl_strk : ∀ l, l < 16 → pl (199 + 18 * l + 7) = (18, l) := by decide +kernel
theorem rd_strk {l : Nat} (h : RN m 1 S) (h5 : S 5 = nI T) (hT : T ≤ 16) (hx : l < T) : m.1 19 l = S (199 + 18 * l + 7) := by
  have := h.1 (199 + 18 * l + 7) (by omega) ⟨fun hm => by omega, fun hm => by rw [T_cl h5 hT]; omega⟩
  rw [pl_strk l (by omega)] at this
  exact this
theorem Cl_strk {l : Nat} (h : Cl m0 m S) (h5 : S 5 = nI T) (hT : T ≤ 16) (hx : l < T) (e : v = v') : Cl m0 (wI m 19 l v) (upd S (199 + 18 * l + 7) v') := Cl_w h (by omega) (pl_strk l (by omega)) rfl (by decide) (by omega) (by omega) (fun hm => by rw [T_cl h5 hT]; omega) e (fun h9 => by omega)
theorem rd_size (h : RN m 1 S) : m.1 1 0 = S 0 := h.1 0 (by decide) ⟨fun hm => by omega, fun hm => by omega⟩
theorem Cl_size (h : Cl m0 m S) (e : v = v') : Cl m0 (wI m 1 0 v) (upd S 0 v') := Cl_w (i := 0) h (by decide) rfl rfl (by decide) (by decide) (by omega) (fun hm => by omega) e (fun h9 => by omega)
theorem rd_clock (h : RN m 1 S) : m.1 1 1 = S 1 := h.1 1 (by decide) ⟨fun hm => by omega, fun hm => by omega⟩
theorem Cl_clock (h : Cl m0 m S) (e : v = v') : Cl m0 (wI m 1 1 v) (upd S 1 v') := Cl_w (i := 1) h (by decide) rfl rfl (by decide) (by decide) (by omega) (fun hm => by omega) e (fun h9 => by omega)
theorem rd_delay (h : RN m 1 S) : m.1 1 2 = S 2 := h.1 2 (by decide) ⟨fun hm => by omega, fun hm => by omega⟩
theorem Cl_delay (h : Cl m0 m S) (e : v = v') : Cl m0 (wI m 1 2 v) (upd S 2 v') := Cl_w (i := 2) h (by decide) rfl rfl (by decide) (by decide) (by omega) (fun hm => by omega) e (fun h9 => by omega)
theorem rd_intv (h : RN m 1 S) : m.1 1 3 = S 3 := h.1 3 (by decide) ⟨fun hm => by omega, fun hm => by omega⟩
theorem Cl_intv (h : Cl m0 m S) (e : v = v') : Cl m0 (wI m 1 3 v) (upd S 3 v') := Cl_w (i := 3) h (by decide) rfl rfl (by decide) (by decide) (by omega) (fun hm => by omega) e (fun h9 => by omega)
theorem rd_hyst (h : RN m 1 S) : m.1 1 4 = S 4 := h.1 4 (by decide) ⟨fun hm => by omega, fun hm => by omega⟩
theorem Cl_hyst (h : Cl m0 m S) (e : v = v') : Cl m0 (wI m 1 4 v) (upd S 4 v') := Cl_w (i := 4) h (by decide) rfl rfl (by decide) (by decide) (by omega) (fun hm => by omega) e (fun h9 => by omega)
theorem rd_auct (h : RN m 1 S) : m.1 1 5 = S 6 := h.1 6 (by decide) ⟨fun hm => by omega, fun hm => by omega⟩
theorem Cl_auct (h : Cl m0 m S) (e : v = v') : Cl m0 (wI m 1 5 v) (upd S 6 v') := Cl_w (i := 6) h (by decide) rfl rfl (by decide) (by decide) (by omega) (fun hm => by omega) e (fun h9 => by omega)
theorem rd_chng (h : RN m 1 S) : m.1 1 6 = S 7 := h.1 7 (by decide) ⟨fun hm => by omega, fun hm => by omega⟩
theorem Cl_chng (h : Cl m0 m S) (e : v = v') : Cl m0 (wI m 1 6 v) (upd S 7 v') := Cl_w (i := 7) h (by decide) rfl rfl (by decide) (by decide) (by omega) (fun hm => by omega) e (fun h9 => by omega)
theorem rd_sent (h : RN m 1 S) : m.1 1 7 = S 8 := h.1 8 (by decide) ⟨fun hm => by omega, fun hm => by omega⟩
theorem Cl_sent (h : Cl m0 m S) (e : v = v') : Cl m0 (wI m 1 7 v) (upd S 8 v') := Cl_w (i := 8) h (by decide) rfl rfl (by decide) (by decide) (by omega) (fun hm => by omega) e (fun h9 => by omega)
theorem rd_dlvd (h : RN m 1 S) : m.1 1 8 = S 9 := h.1 9 (by decide) ⟨fun hm => by omega, fun hm => by omega⟩
theorem Cl_dlvd (h : Cl m0 m S) (e : v = v') : Cl m0 (wI m 1 8 v) (upd S 9 v') := Cl_w (i := 9) h (by decide) rfl rfl (by decide) (by decide) (by omega) (fun hm => by omega) e (fun h9 => by omega)
theorem rd_used (h : RN m 1 S) : m.1 1 9 = S 10 := h.1 10 (by decide) ⟨fun hm => by omega, fun hm => by omega⟩
theorem Cl_used (h : Cl m0 m S) (e : v = v') : Cl m0 (wI m 1 9 v) (upd S 10 v') := Cl_w (i := 10) h (by decide) rfl rfl (by decide) (by decide) (by omega) (fun hm => by omega) e (fun h9 => by omega)
theorem rd_total (h : RN m 1 S) : m.1 11 0 = S 5 := h.1 5 (by decide) ⟨fun hm => by omega, fun hm => by omega⟩
theorem pl_rolea : ∀ l, l < 16 → pl (199 + 18 * l + 8) = (19, 2 * l) := by decide +kernel
theorem rd_rolea {l : Nat} (h : RN m 1 S) (h5 : S 5 = nI T) (hT : T ≤ 16) (hx : l < T) : m.1 20 (2 * l) = S (199 + 18 * l + 8) := by
  have := h.1 (199 + 18 * l + 8) (by omega) ⟨fun hm => by omega, fun hm => by rw [T_cl h5 hT]; omega⟩
  rw [pl_rolea l (by omega)] at this
  exact this
theorem Cl_rolea {l : Nat} (h : Cl m0 m S) (h5 : S 5 = nI T) (hT : T ≤ 16) (hx : l < T) (e : v = v') : Cl m0 (wI m 20 (2 * l) v) (upd S (199 + 18 * l + 8) v') := Cl_w h (by omega) (pl_rolea l (by omega)) rfl (by decide) (by omega) (by omega) (fun hm => by rw [T_cl h5 hT]; omega) e (fun h9 => by omega)
theorem pl_stata : ∀ l, l < 16 → pl (199 + 18 * l + 9) = (20, 2 * l) := by decide +kernel
theorem rd_stata {l : Nat} (h : RN m 1 S) (h5 : S 5 = nI T) (hT : T ≤ 16) (hx : l < T) : m.1 21 (2 * l) = S (199 + 18 * l + 9) := by
  have := h.1 (199 + 18 * l + 9) (by omega) ⟨fun hm => by omega, fun hm => by rw [T_cl h5 hT]; omega⟩
  rw [pl_stata l (by omega)] at this
  exact this
theorem Cl_stata {l : Nat} (h : Cl m0 m S) (h5 : S 5 = nI T) (hT : T ≤ 16) (hx : l < T) (e : v = v') : Cl m0 (wI m 21 (2 * l) v) (upd S (199 + 18 * l + 9) v') := Cl_w h (by omega) (pl_stata l (by omega)) rfl (by decide) (by omega) (by omega) (fun hm => by rw [T_cl h5 hT]; omega) e (fun h9 => by omega)
theorem pl_timra : ∀ l, l < 16 → pl (199 + 18 * l + 10) = (21, 2 * l) := by decide +kernel
theorem rd_timra {l : Nat} (h : RN m 1 S) (h5 : S 5 = nI T) (hT : T ≤ 16) (hx : l < T) : m.1 22 (2 * l) = S (199 + 18 * l + 10) := by
  have := h.1 (199 + 18 * l + 10) (by omega) ⟨fun hm => by omega, fun hm => by rw [T_cl h5 hT]; omega⟩
  rw [pl_timra l (by omega)] at this
  exact this
theorem Cl_timra {l : Nat} (h : Cl m0 m S) (h5 : S 5 = nI T) (hT : T ≤ 16) (hx : l < T) (e : v = v') : Cl m0 (wI m 22 (2 * l) v) (upd S (199 + 18 * l + 10) v') := Cl_w h (by omega) (pl_timra l (by omega)) rfl (by decide) (by omega) (by omega) (fun hm => by rw [T_cl h5 hT]; omega) e (fun h9 => by omega)
theorem pl_roleb : ∀ l, l < 16 → pl (199 + 18 * l + 11) = (19, 2 * l + 1) := by decide +kernel
theorem rd_roleb {l : Nat} (h : RN m 1 S) (h5 : S 5 = nI T) (hT : T ≤ 16) (hx : l < T) : m.1 20 (2 * l + 1) = S (199 + 18 * l + 11) := by
  have := h.1 (199 + 18 * l + 11) (by omega) ⟨fun hm => by omega, fun hm => by rw [T_cl h5 hT]; omega⟩
  rw [pl_roleb l (by omega)] at this
  exact this
theorem Cl_roleb {l : Nat} (h : Cl m0 m S) (h5 : S 5 = nI T) (hT : T ≤ 16) (hx : l < T) (e : v = v') : Cl m0 (wI m 20 (2 * l + 1) v) (upd S (199 + 18 * l + 11) v') := Cl_w h (by omega) (pl_roleb l (by omega)) rfl (by decide) (by omega) (by omega) (fun hm => by rw [T_cl h5 hT]; omega) e (fun h9 => by omega)
theorem pl_statb : ∀ l, l < 16 → pl (199 + 18 * l + 12) = (20, 2 * l + 1) := by decide +kernel
theorem rd_statb {l : Nat} (h : RN m 1 S) (h5 : S 5 = nI T) (hT : T ≤ 16) (hx : l < T) : m.1 21 (2 * l + 1) = S (199 + 18 * l + 12) := by
  have := h.1 (199 + 18 * l + 12) (by omega) ⟨fun hm => by omega, fun hm => by rw [T_cl h5 hT]; omega⟩
  rw [pl_statb l (by omega)] at this
  exact this
theorem Cl_statb {l : Nat} (h : Cl m0 m S) (h5 : S 5 = nI T) (hT : T ≤ 16) (hx : l < T) (e : v = v') : Cl m0 (wI m 21 (2 * l + 1) v) (upd S (199 + 18 * l + 12) v') := Cl_w h (by omega) (pl_statb l (by omega)) rfl (by decide) (by omega) (by omega) (fun hm => by rw [T_cl h5 hT]; omega) e (fun h9 => by omega)
theorem pl_timrb : ∀ l, l < 16 → pl (199 + 18 * l + 13) = (21, 2 * l + 1) := by decide +kernel
theorem rd_timrb {l : Nat} (h : RN m 1 S) (h5 : S 5 = nI T) (hT : T ≤ 16) (hx : l < T) : m.1 22 (2 * l + 1) = S (199 + 18 * l + 13) := by
  have := h.1 (199 + 18 * l + 13) (by omega) ⟨fun hm => by omega, fun hm => by rw [T_cl h5 hT]; omega⟩
  rw [pl_timrb l (by omega)] at this
  exact this
theorem Cl_timrb {l : Nat} (h : Cl m0 m S) (h5 : S 5 = nI T) (hT : T ≤ 16) (hx : l < T) (e : v = v') : Cl m0 (wI m 22 (2 * l + 1) v) (upd S (199 + 18 * l + 13) v') := Cl_w h (by omega) (pl_timrb l (by omega)) rfl (by decide) (by omega) (by omega) (fun hm => by rw [T_cl h5 hT]; omega) e (fun h9 => by omega)
theorem pl_bid : ∀ l, l < 16 → ∀ t, t < 4 → pl (199 + 18 * l + (14 + t)) = (26, 16 * t + l) := by decide +kernel
theorem rd_bid {l t : Nat} (h : RN m 1 S) (h5 : S 5 = nI T) (hT : T ≤ 16) (hx : l < T) (ht : t < 4) : m.1 27 (16 * t + l) = S (199 + 18 * l + (14 + t)) := by
  have := h.1 (199 + 18 * l + (14 + t)) (by omega) ⟨fun hm => by omega, fun hm => by rw [T_cl h5 hT]; omega⟩
  rw [pl_bid l (by omega) t ht] at this
  exact this
theorem Cl_bid {l t : Nat} (h : Cl m0 m S) (h5 : S 5 = nI T) (hT : T ≤ 16) (hx : l < T) (ht : t < 4) (e : v = v') : Cl m0 (wI m 27 (16 * t + l) v) (upd S (199 + 18 * l + (14 + t)) v') := Cl_w h (by omega) (pl_bid l (by omega) t ht) rfl (by decide) (by omega) (by omega) (fun hm => by rw [T_cl h5 hT]; omega) e (fun h9 => by omega)
theorem pl_via : ∀ b, b < 8 → ∀ h, h < 8 → pl (51 + 16 * b + 2 * h) = (8, 8 * b + h) := by decide +kernel
theorem pl_made : ∀ b, b < 8 → ∀ h, h < 8 → pl (51 + 16 * b + 2 * h + 1) = (9, 8 * b + h) := by decide +kernel
theorem rd_via {b h : Nat} (hR : RN m 1 S) (hb : b < 8) (hh : h < 8) : m.1 9 (8 * b + h) = S (51 + 16 * b + 2 * h) := by
  have := hR.1 (51 + 16 * b + 2 * h) (by omega) ⟨fun hm => by omega, fun hm => by omega⟩
  rw [pl_via b hb h hh] at this
  exact this
theorem rd_made {b h : Nat} (hR : RN m 1 S) (hb : b < 8) (hh : h < 8) (hn : S (51 + 16 * b + 2 * h) ≠ n1) : m.1 10 (8 * b + h) = S (51 + 16 * b + 2 * h + 1) := by
  have := hR.1 (51 + 16 * b + 2 * h + 1) (by omega) ⟨fun hm => hn, fun hm => by omega⟩
  rw [pl_made b hb h hh] at this
  exact this
/-- an entry is made -/
theorem Cl_learn {b h : Nat} {w w' : Int32} (hC : Cl m0 m S) (hb : b < 8) (hh : h < 8) (e : v = v') (e' : w = w') : Cl m0 (wI (wI m 9 (8 * b + h) v) 10 (8 * b + h) w) (upd (upd S (51 + 16 * b + 2 * h) v') (51 + 16 * b + 2 * h + 1) w') := by
  subst e e'
  refine ⟨⟨fun k hk hr => ?_, fun t l ht hl hTl => ?_, fun l hl => ?_⟩, (hC.2.w (Or.inl (by omega))).w (Or.inl (by omega))⟩
  · rw [wI_sR, wI_sR]
    by_cases k1 : k = 51 + 16 * b + 2 * h + 1
    · subst k1
      rw [pl_made b hb h hh]
      show (sR _ 10 _).1 10 (8 * b + h) = _
      rw [sR_get, upd_e, upd_e]
    · rw [upd_n k1]
      by_cases k2 : k = 51 + 16 * b + 2 * h
      · subst k2
        rw [pl_via b hb h hh]
        show (sR (sR _ 9 _) 10 _).1 9 (8 * b + h) = _
        rw [sR_ne (by decide), sR_get, upd_e, upd_e]
      · rw [upd_n k2]
        have hr' : rl S k := by
          refine ⟨fun hm => ?_, fun hl => ?_⟩
          · have := hr.1 hm
            rw [upd_n (by omega), upd_n (by omega)] at this
            exact this
          · have := hr.2 hl
            rw [upd_n (by omega), upd_n (by omega)] at this
            exact this
        have n1' : pl k ≠ (9, 8 * b + h) := fun e => k1 (pl_inj hk (by omega) (by rw [e, pl_made b hb h hh]))
        have n2' : pl k ≠ (8, 8 * b + h) := fun e => k2 (pl_inj hk (by omega) (by rw [e, pl_via b hb h hh]))
        have base := hC.1.1 k hk hr'
        rw [← base]
        by_cases r1 : (pl k).1 = 9
        · have : (pl k).2 ≠ 8 * b + h := fun e => n1' (Prod.ext r1 e)
          rw [r1, sR_get, upd_n this, sR_ne (by decide)]
        · rw [sR_ne (by omega)]
          by_cases r2 : (pl k).1 = 8
          · have : (pl k).2 ≠ 8 * b + h := fun e => n2' (Prod.ext r2 e)
            rw [r2, sR_get, upd_n this]
          · rw [sR_ne (by omega)]
  · rw [upd_n (by omega), upd_n (by omega)] at hTl
    rw [wI_sR, wI_sR, sR_ne (by decide), sR_ne (by decide)]
    exact hC.1.2.1 t l ht hl hTl
  · rw [wI_sR, wI_sR, sR_ne (by decide), sR_ne (by decide)]
    exact hC.1.2.2 l hl
/-- an entry is taken away -/
theorem Cl_unlearn {b h : Nat} {w : Int32} (hC : Cl m0 m S) (hb : b < 8) (hh : h < 8) (e : v = n1) : Cl m0 (wI (wI m 9 (8 * b + h) v) 10 (8 * b + h) w) (upd S (51 + 16 * b + 2 * h) n1) := by
  have h1 := Cl_learn (w := w) hC hb hh e rfl
  refine ⟨⟨fun k hk hr => ?_, fun t l ht hl hTl => ?_, h1.1.2.2⟩, h1.2⟩
  · by_cases k1 : k = 51 + 16 * b + 2 * h + 1
    · subst k1
      have := hr.1 ⟨by omega, by omega, by omega⟩
      exact absurd upd_e this
    · have := h1.1.1 k hk ⟨fun hm => ?_, fun hl => ?_⟩
      · rw [upd_n k1] at this
        exact this
      · have := hr.1 hm
        rw [upd_n (show k - 1 ≠ 51 + 16 * b + 2 * h + 1 by omega)]
        exact this
      · have := hr.2 hl
        rw [upd_n (by omega)]
        exact this
  · refine h1.1.2.1 t l ht hl ?_
    rw [upd_n (by omega)]
    exact hTl
end PC
