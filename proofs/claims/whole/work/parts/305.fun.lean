section
variable {g : pm_Gl} {X : pm_X} {S : List sF}
def b_X12_greatest_5 (v1 : Int32) (v2 : Int32) (s : Int32 × Int32 × me) : Option ((Int32 × Int32 × me) ⊕ (Int32 × Int32 × me)) :=
  if 4 ≤ s.2.1 then
    some (.inr (s.1, s.2.1, s.2.2))
  else
    if s.2.1 = v2 then
      lt (s.2.1 + 1) (fun w3 =>
      some (.inl (s.1, w3, s.2.2)))
    else
      bd (f_X12_counts s.2.1 v1 s.2.2) (fun r4 =>
      if r4.1 = 0 then
        lt (s.2.1 + 1) (fun w6 =>
        some (.inl (s.1, w6, r4.2)))
      else
        if s.1 = (-1) then
          lt (s.2.1 + 1) (fun w8 =>
          some (.inl (s.2.1, w8, r4.2)))
        else
          bd (f_X12_of v1 (14 + s.2.1) r4.2) (fun r9 =>
          bd (f_X12_of v1 (14 + s.1) r9.2) (fun r10 =>
          if r9.1 ≤ r10.1 then
            lt (s.2.1 + 1) (fun w12 =>
            some (.inl (s.1, w12, r10.2)))
          else
            lt (s.2.1 + 1) (fun w13 =>
            some (.inl (s.2.1, w13, r10.2))))))
def f_X12_greatest (v1 : Int32) (v2 : Int32) (m0 : me) : Option (Int32 × me) :=
  bd (lo (b_X12_greatest_5 v1 v2) 2048 ((-1), 0, m0)) (fun s14 =>
  some ((s14.1, s14.2.2)))
set_option maxRecDepth 20000 in
set_option maxHeartbeats 4000000 in
theorem lb_X12_greatest_5 (hfl : g.1.stackTraces = false) (hS : pS 128 137 S) {v1 : Int32} {v2 : Int32} {s : Int32 × Int32 × me} {r : (Int32 × Int32 × me) ⊕ (Int32 × Int32 × me)} (h : b_X12_greatest_5 v1 v2 s = some r) (hN : ∀ s', r = .inl s' → (fun z9 : Int32 × Int32 × me => pm_G g mX12_greatest X 5 [some (.ref 128), some (.int v1), some (.int v2), some (.int z9.1), some (.int z9.2.1)] [] (en S z9.2.2) 0 0) s') (hT : ∀ t, r = .inr t → (fun z9 : Int32 × Int32 × me => pm_G g mX12_greatest X 67 [some (.ref 128), some (.int v1), some (.int v2), some (.int z9.1), some (.int z9.2.1)] [] (en S z9.2.2) 0 0) t) : (fun z9 : Int32 × Int32 × me => pm_G g mX12_greatest X 5 [some (.ref 128), some (.int v1), some (.int v2), some (.int z9.1), some (.int z9.2.1)] [] (en S z9.2.2) 0 0) s := by
  unfold b_X12_greatest_5 at h
  show pm_G g mX12_greatest X 5 [some (.ref 128), some (.int v1), some (.int v2), some (.int s.1), some (.int s.2.1)] [] (en S s.2.2) 0 0
  refine pg_iload dX12_greatest_5 rfl ?_
  refine pg_iconst 4 dX12_greatest_7 rfl ?_
  refine pg_icmp_ge 67 dX12_greatest_8 (by decide) (fun c1 => ?_) (fun c1 => ?_)
  · rw [if_pos c1] at h
    obtain rfl := Option.some.inj h
    exact hT _ rfl
  · rw [if_neg c1] at h
    refine pg_iload dX12_greatest_11 rfl ?_
    refine pg_iload_n dX12_greatest_13 rfl ?_
    refine pg_icmp_eq 59 dX12_greatest_14 (by decide) (fun c2 => ?_) (fun c2 => ?_)
    · rw [if_pos c2] at h
      refine pg_iload_n dX12_greatest_59 rfl ?_
      refine eg_istore_n [some (.ref 128), some (.int v1), some (.int v2), some (.int s.1), some (.int s.2.1)] s.1 dX12_greatest_60 rfl (Nat.le_of_ble_eq_true rfl) rfl ?_
      obtain ⟨w3, e_w3⟩ : ∃ z : Int32, z = s.2.1 + 1 := ⟨_, rfl⟩
      replace h := lt_at h e_w3
      refine eg_iinc [some (.ref 128), some (.int v1), some (.int v2), some (.int s.1), some (.int w3)] w3 1 dX12_greatest_61 rfl rfl e_w3 rfl ?_
      refine pg_goto 5 dX12_greatest_64 (by decide) ?_
      obtain rfl := Option.some.inj h
      exact hN _ rfl
    · rw [if_neg c2] at h
      refine pg_aload_n dX12_greatest_17 rfl ?_
      refine pg_iload dX12_greatest_18 rfl ?_
      refine pg_iload_n dX12_greatest_20 rfl ?_
      obtain ⟨r4, h_r4, h⟩ := bd_at h
      refine eg_cVi (C := mX12_counts) (as := [(.int s.2.1), (.int v1)]) dX12_greatest_21 mw927 cv_X12_counts hS sp128 (Nat.le_of_ble_eq_true rfl) (Nat.le_of_ble_eq_true rfl) rfl rfl rfl (Nat.le_of_ble_eq_true rfl) rfl ⟨(Nat.le_of_ble_eq_true rfl), (Nat.le_of_ble_eq_true rfl)⟩ (ct_X12_counts hfl (hS.sub (Nat.le_of_ble_eq_true rfl) (Nat.le_of_ble_eq_true rfl)) h_r4) ?_
      refine pg_if_eq 59 dX12_greatest_24 (by decide) (fun c5 => ?_) (fun c5 => ?_)
      · rw [if_pos c5] at h
        refine pg_iload_n dX12_greatest_59 rfl ?_
        refine eg_istore_n [some (.ref 128), some (.int v1), some (.int v2), some (.int s.1), some (.int s.2.1)] s.1 dX12_greatest_60 rfl (Nat.le_of_ble_eq_true rfl) rfl ?_
        obtain ⟨w6, e_w6⟩ : ∃ z : Int32, z = s.2.1 + 1 := ⟨_, rfl⟩
        replace h := lt_at h e_w6
        refine eg_iinc [some (.ref 128), some (.int v1), some (.int v2), some (.int s.1), some (.int w6)] w6 1 dX12_greatest_61 rfl rfl e_w6 rfl ?_
        refine pg_goto 5 dX12_greatest_64 (by decide) ?_
        obtain rfl := Option.some.inj h
        exact hN _ rfl
      · rw [if_neg c5] at h
        refine pg_iload_n dX12_greatest_27 rfl ?_
        refine pg_iconst (-1) dX12_greatest_28 rfl ?_
        refine pg_icmp_eq 54 dX12_greatest_29 (by decide) (fun c7 => ?_) (fun c7 => ?_)
        · rw [if_pos c7] at h
          refine pg_iload dX12_greatest_54 rfl ?_
          refine pg_goto 60 dX12_greatest_56 (by decide) ?_
          refine eg_istore_n [some (.ref 128), some (.int v1), some (.int v2), some (.int s.2.1), some (.int s.2.1)] s.2.1 dX12_greatest_60 rfl (Nat.le_of_ble_eq_true rfl) rfl ?_
          obtain ⟨w8, e_w8⟩ : ∃ z : Int32, z = s.2.1 + 1 := ⟨_, rfl⟩
          replace h := lt_at h e_w8
          refine eg_iinc [some (.ref 128), some (.int v1), some (.int v2), some (.int s.2.1), some (.int w8)] w8 1 dX12_greatest_61 rfl rfl e_w8 rfl ?_
          refine pg_goto 5 dX12_greatest_64 (by decide) ?_
          obtain rfl := Option.some.inj h
          exact hN _ rfl
        · rw [if_neg c7] at h
          refine pg_aload_n dX12_greatest_32 rfl ?_
          refine pg_iload_n dX12_greatest_33 rfl ?_
          refine pg_bipush 14 dX12_greatest_34 rfl ?_
          refine pg_iload dX12_greatest_36 rfl ?_
          refine pg_iadd dX12_greatest_38 ?_
          obtain ⟨r9, h_r9, h⟩ := bd_at h
          refine eg_cVi (C := mX12_of) (as := [(.int v1), (.int (14 + s.2.1))]) dX12_greatest_39 mw863 cv_X12_of hS sp128 (Nat.le_of_ble_eq_true rfl) (Nat.le_of_ble_eq_true rfl) rfl rfl rfl (Nat.le_of_ble_eq_true rfl) rfl ⟨(Nat.le_of_ble_eq_true rfl), (Nat.le_of_ble_eq_true rfl)⟩ (ct_X12_of hfl (hS.sub (Nat.le_of_ble_eq_true rfl) (Nat.le_of_ble_eq_true rfl)) h_r9) ?_
          refine pg_aload_n dX12_greatest_42 rfl ?_
          refine pg_iload_n dX12_greatest_43 rfl ?_
          refine pg_bipush 14 dX12_greatest_44 rfl ?_
          refine pg_iload_n dX12_greatest_46 rfl ?_
          refine pg_iadd dX12_greatest_47 ?_
          obtain ⟨r10, h_r10, h⟩ := bd_at h
          refine eg_cVi (C := mX12_of) (as := [(.int v1), (.int (14 + s.1))]) dX12_greatest_48 mw863 cv_X12_of hS sp128 (Nat.le_of_ble_eq_true rfl) (Nat.le_of_ble_eq_true rfl) rfl rfl rfl (Nat.le_of_ble_eq_true rfl) rfl ⟨(Nat.le_of_ble_eq_true rfl), (Nat.le_of_ble_eq_true rfl)⟩ (ct_X12_of hfl (hS.sub (Nat.le_of_ble_eq_true rfl) (Nat.le_of_ble_eq_true rfl)) h_r10) ?_
          refine pg_icmp_le 59 dX12_greatest_51 (by decide) (fun c11 => ?_) (fun c11 => ?_)
          · rw [if_pos c11] at h
            refine pg_iload_n dX12_greatest_59 rfl ?_
            refine eg_istore_n [some (.ref 128), some (.int v1), some (.int v2), some (.int s.1), some (.int s.2.1)] s.1 dX12_greatest_60 rfl (Nat.le_of_ble_eq_true rfl) rfl ?_
            obtain ⟨w12, e_w12⟩ : ∃ z : Int32, z = s.2.1 + 1 := ⟨_, rfl⟩
            replace h := lt_at h e_w12
            refine eg_iinc [some (.ref 128), some (.int v1), some (.int v2), some (.int s.1), some (.int w12)] w12 1 dX12_greatest_61 rfl rfl e_w12 rfl ?_
            refine pg_goto 5 dX12_greatest_64 (by decide) ?_
            obtain rfl := Option.some.inj h
            exact hN _ rfl
          · rw [if_neg c11] at h
            refine pg_iload dX12_greatest_54 rfl ?_
            refine pg_goto 60 dX12_greatest_56 (by decide) ?_
            refine eg_istore_n [some (.ref 128), some (.int v1), some (.int v2), some (.int s.2.1), some (.int s.2.1)] s.2.1 dX12_greatest_60 rfl (Nat.le_of_ble_eq_true rfl) rfl ?_
            obtain ⟨w13, e_w13⟩ : ∃ z : Int32, z = s.2.1 + 1 := ⟨_, rfl⟩
            replace h := lt_at h e_w13
            refine eg_iinc [some (.ref 128), some (.int v1), some (.int v2), some (.int s.2.1), some (.int w13)] w13 1 dX12_greatest_61 rfl rfl e_w13 rfl ?_
            refine pg_goto 5 dX12_greatest_64 (by decide) ?_
            obtain rfl := Option.some.inj h
            exact hN _ rfl
set_option maxRecDepth 20000 in
set_option maxHeartbeats 4000000 in
theorem ct_X12_greatest (hfl : g.1.stackTraces = false) (hS : pS 128 137 S) {v1 : Int32} {v2 : Int32} {m0 : me} {x : (Int32 × me)} (h : f_X12_greatest v1 v2 m0 = some x) : pm_Ct g mX12_greatest [.ref 128, .int v1, .int v2] (en S m0) 0 0 (qI S x) qF := by
  refine pm_of (by decide +kernel) rfl hfl (Nat.le_of_ble_eq_true rfl) (fun X hE => ?_)
  show pm_G g mX12_greatest X 0 [some (.ref 128), some (.int v1), some (.int v2), none, none] [] (en S m0) 0 0
  unfold f_X12_greatest at h
  refine pg_iconst (-1) dX12_greatest_0 rfl ?_
  refine eg_istore_n [some (.ref 128), some (.int v1), some (.int v2), some (.int (-1)), none] (-1) dX12_greatest_1 rfl (Nat.le_of_ble_eq_true rfl) rfl ?_
  refine pg_iconst 0 dX12_greatest_2 rfl ?_
  refine eg_istore [some (.ref 128), some (.int v1), some (.int v2), some (.int (-1)), some (.int 0)] 0 dX12_greatest_3 rfl (Nat.le_of_ble_eq_true rfl) rfl ?_
  obtain ⟨s14, h_s14, h⟩ := bd_at h
  refine lo_at (b := b_X12_greatest_5 v1 v2) (G := (fun z9 : Int32 × Int32 × me => pm_G g mX12_greatest X 5 [some (.ref 128), some (.int v1), some (.int v2), some (.int z9.1), some (.int z9.2.1)] [] (en S z9.2.2) 0 0)) (T := (fun z9 : Int32 × Int32 × me => pm_G g mX12_greatest X 67 [some (.ref 128), some (.int v1), some (.int v2), some (.int z9.1), some (.int z9.2.1)] [] (en S z9.2.2) 0 0)) (fun q9 r9 h1 h2 h3 => lb_X12_greatest_5 hfl hS h1 h2 h3) 2048 ((-1), 0, m0) s14 h_s14 ?_
  show pm_G g mX12_greatest X 67 [some (.ref 128), some (.int v1), some (.int v2), some (.int s14.1), some (.int s14.2.1)] [] (en S s14.2.2) 0 0
  refine pg_iload_n dX12_greatest_67 rfl ?_
  obtain rfl := Option.some.inj h
  exact hE.2.1 _ _ _ _ _ _ .int dX12_greatest_68 rfl rfl (Nat.zero_le _) (Nat.zero_le _) ⟨rfl, rfl⟩
def j_X12_sells_240 (u1 : Int32) (u2 : Int32) (u3 : Int32) (m0 : me) : Option me :=
  bd (f_X12_puts u1 u2 u3 m0) (fun r21 =>
  some (r21))
def j_X12_sells_222 (v1 : Int32) (v6 : Int32) (v7 : Int32) (u1 : Int32) (u2 : Int32) (u3 : Int32) (m0 : me) : Option me :=
  bd (f_X12_puts u1 u2 u3 m0) (fun r19 =>
  if v7 = 0 then
    j_X12_sells_240 v1 7 v6 r19
  else
    j_X12_sells_240 v1 7 0 r19)
def j_X12_sells_194 (v1 : Int32) (v4 : Int32) (v6 : Int32) (u0 : Int32) (m0 : me) : Option me :=
  if u0 = 0 then
    bd (f_X12_of v1 3 m0) (fun r18 =>
    j_X12_sells_222 v1 v6 u0 v1 3 r18.1 r18.2)
  else
    bd (f_X12_of v1 2 m0) (fun r22 =>
    j_X12_sells_222 v1 v6 u0 v1 3 (r22.1 + v4) r22.2)
def j_X12_sells_189 (v1 : Int32) (v4 : Int32) (v6 : Int32) (m0 : me) : Option me :=
  j_X12_sells_194 v1 v4 v6 1 m0
def j_X12_sells_158 (v1 : Int32) (v4 : Int32) (v5 : Int32) (u0 : Int32) (m0 : me) : Option me :=
  if (m0.1 129 4) < v5 then
    j_X12_sells_189 v1 v4 u0 m0
  else
    if (m0.1 129 4) < (-v5) then
      j_X12_sells_189 v1 v4 u0 m0
    else
      if u0 = 3 then
        j_X12_sells_189 v1 v4 u0 m0
      else
        j_X12_sells_194 v1 v4 u0 0 m0
def j_X12_sells_122 (v1 : Int32) (v4 : Int32) (m0 : me) : Option me :=
  bd (f_X12_of v1 2 m0) (fun r11 =>
  bd (f_X12_of v1 3 r11.2) (fun r12 =>
  lt ((r11.1 + v4) - r12.1) (fun w13 =>
  if w13 = 0 then
    j_X12_sells_158 v1 v4 w13 0 r12.2
  else
    bd (f_X12_of v1 7 r12.2) (fun r15 =>
    j_X12_sells_158 v1 v4 w13 (r15.1 + 1) r15.2))))
def j_X12_sells_64 (v1 : Int32) (v2 : Int32) (u0 : Int32) (m0 : me) : Option me :=
  bd (f_X12_puts v1 5 v2 m0) (fun r8 =>
  bd (f_X12_puts v1 6 u0 r8) (fun r9 =>
  if v2 < 0 then
    j_X12_sells_122 v1 u0 r9
  else
    gd (inR (187 + (3 * v2)) 487) (
    gd (inR (187 + (3 * v2)) 487) (
    lt (wI r9 129 ((187 + (3 * v2)).toNatClampNeg) ((r9.1 129 ((187 + (3 * v2)).toNatClampNeg)) - u0)) (fun m25 =>
    gd (inR ((187 + (3 * v2)) + 1) 487) (
    gd (inR ((187 + (3 * v2)) + 1) 487) (
    lt (wI m25 129 (((187 + (3 * v2)) + 1).toNatClampNeg) ((m25.1 129 (((187 + (3 * v2)) + 1).toNatClampNeg)) + u0)) (fun m26 =>
    j_X12_sells_122 v1 u0 m26))))))))
def j_X12_sells_36 (v1 : Int32) (v2 : Int32) (u0 : Int32) (m0 : me) : Option me :=
  if v2 = (-1) then
    j_X12_sells_64 v1 v2 0 m0
  else
    if u0 = (-1) then
      j_X12_sells_64 v1 v2 1 m0
    else
      bd (f_X12_of v1 (14 + u0) m0) (fun r7 =>
      j_X12_sells_64 v1 v2 r7.1 r7.2)
def j_X12_sells_20 (v1 : Int32) (u0 : Int32) (m0 : me) : Option me :=
  if u0 = (-1) then
    j_X12_sells_36 v1 u0 (-1) m0
  else
    bd (f_X12_greatest v1 u0 m0) (fun r4 =>
    j_X12_sells_36 v1 u0 r4.1 r4.2)
def f_X12_sells (v1 : Int32) (m0 : me) : Option me :=
  bd (f_X12_of v1 4 m0) (fun r1 =>
  if r1.1 = 1 then
    bd (f_X12_greatest v1 (-1) r1.2) (fun r27 =>
    j_X12_sells_20 v1 r27.1 r27.2)
  else
    j_X12_sells_20 v1 (-1) r1.2)
set_option maxRecDepth 20000 in
set_option maxHeartbeats 4000000 in
theorem lj_X12_sells_240 (hfl : g.1.stackTraces = false) (hS : pS 128 137 S) {u1 : Int32} {u2 : Int32} {u3 : Int32} {m0 : me} {r : me} (h : j_X12_sells_240 u1 u2 u3 m0 = some r) (hE : pm_End g mX12_sells X 0 0 (qV S r) qF) : pm_G g mX12_sells X 240 [some (.ref 128), none, none, none, none, none, none, none] [(.int u3), (.int u2), (.int u1), (.ref 128)] (en S m0) 0 0 := by
  unfold j_X12_sells_240 at h
  obtain ⟨r21, h_r21, h⟩ := bd_at h
  refine eg_cVv (C := mX12_puts) (as := [(.int u1), (.int u2), (.int u3)]) dX12_sells_240 mw848 cv_X12_puts hS sp128 (Nat.le_of_ble_eq_true rfl) (Nat.le_of_ble_eq_true rfl) rfl rfl rfl (Nat.le_of_ble_eq_true rfl) rfl ⟨(Nat.le_of_ble_eq_true rfl), (Nat.le_of_ble_eq_true rfl)⟩ (ct_X12_puts hfl (hS.sub (Nat.le_of_ble_eq_true rfl) (Nat.le_of_ble_eq_true rfl)) h_r21) ?_
  obtain rfl := Option.some.inj h
  exact hE.2.2.1 _ _ _ _ _ dX12_sells_243 rfl (Nat.zero_le _) (Nat.zero_le _) ⟨rfl, rfl⟩
set_option maxRecDepth 20000 in
set_option maxHeartbeats 4000000 in
theorem lj_X12_sells_222 (hfl : g.1.stackTraces = false) (hS : pS 128 137 S) {v1 : Int32} {v6 : Int32} {v7 : Int32} {u1 : Int32} {u2 : Int32} {u3 : Int32} {m0 : me} {r : me} (h : j_X12_sells_222 v1 v6 v7 u1 u2 u3 m0 = some r) (hE : pm_End g mX12_sells X 0 0 (qV S r) qF) : pm_G g mX12_sells X 222 [some (.ref 128), some (.int v1), none, none, none, none, some (.int v6), some (.int v7)] [(.int u3), (.int u2), (.int u1), (.ref 128)] (en S m0) 0 0 := by
  unfold j_X12_sells_222 at h
  obtain ⟨r19, h_r19, h⟩ := bd_at h
  refine eg_cVv (C := mX12_puts) (as := [(.int u1), (.int u2), (.int u3)]) dX12_sells_222 mw848 cv_X12_puts hS sp128 (Nat.le_of_ble_eq_true rfl) (Nat.le_of_ble_eq_true rfl) rfl rfl rfl (Nat.le_of_ble_eq_true rfl) rfl ⟨(Nat.le_of_ble_eq_true rfl), (Nat.le_of_ble_eq_true rfl)⟩ (ct_X12_puts hfl (hS.sub (Nat.le_of_ble_eq_true rfl) (Nat.le_of_ble_eq_true rfl)) h_r19) ?_
  refine pg_aload_n dX12_sells_225 rfl ?_
  refine pg_iload_n dX12_sells_226 rfl ?_
  refine pg_bipush 7 dX12_sells_227 rfl ?_
  refine pg_iload dX12_sells_229 rfl ?_
  refine pg_if_eq 238 dX12_sells_231 (by decide) (fun c20 => ?_) (fun c20 => ?_)
  · rw [if_pos c20] at h
    refine pg_iload dX12_sells_238 rfl ?_
    refine eg_forget [some (.ref 128), none, none, none, none, none, none, none] (show pm_sub _ _ from ⟨rfl, trivial⟩) ?_
    exact lj_X12_sells_240 hfl hS h hE
  · rw [if_neg c20] at h
    refine pg_iconst 0 dX12_sells_234 rfl ?_
    refine pg_goto 240 dX12_sells_235 (by decide) ?_
    refine eg_forget [some (.ref 128), none, none, none, none, none, none, none] (show pm_sub _ _ from ⟨rfl, trivial⟩) ?_
    exact lj_X12_sells_240 hfl hS h hE
set_option maxRecDepth 20000 in
set_option maxHeartbeats 4000000 in
theorem lj_X12_sells_194 (hfl : g.1.stackTraces = false) (hS : pS 128 137 S) {v1 : Int32} {v4 : Int32} {v6 : Int32} {u0 : Int32} {m0 : me} {r : me} (h : j_X12_sells_194 v1 v4 v6 u0 m0 = some r) (hE : pm_End g mX12_sells X 0 0 (qV S r) qF) : pm_G g mX12_sells X 194 [some (.ref 128), some (.int v1), none, none, some (.int v4), none, some (.int v6), none] [(.int u0)] (en S m0) 0 0 := by
  unfold j_X12_sells_194 at h
  refine eg_istore [some (.ref 128), some (.int v1), none, none, some (.int v4), none, some (.int v6), some (.int u0)] u0 dX12_sells_194 rfl (Nat.le_of_ble_eq_true rfl) rfl ?_
  refine pg_aload_n dX12_sells_196 rfl ?_
  refine pg_iload_n dX12_sells_197 rfl ?_
  refine pg_iconst 3 dX12_sells_198 rfl ?_
  refine pg_iload dX12_sells_199 rfl ?_
  refine pg_if_eq 216 dX12_sells_201 (by decide) (fun c17 => ?_) (fun c17 => ?_)
  · rw [if_pos c17] at h
    refine pg_aload_n dX12_sells_216 rfl ?_
    refine pg_iload_n dX12_sells_217 rfl ?_
    refine pg_iconst 3 dX12_sells_218 rfl ?_
    obtain ⟨r18, h_r18, h⟩ := bd_at h
    refine eg_cVi (C := mX12_of) (as := [(.int v1), (.int 3)]) dX12_sells_219 mw863 cv_X12_of hS sp128 (Nat.le_of_ble_eq_true rfl) (Nat.le_of_ble_eq_true rfl) rfl rfl rfl (Nat.le_of_ble_eq_true rfl) rfl ⟨(Nat.le_of_ble_eq_true rfl), (Nat.le_of_ble_eq_true rfl)⟩ (ct_X12_of hfl (hS.sub (Nat.le_of_ble_eq_true rfl) (Nat.le_of_ble_eq_true rfl)) h_r18) ?_
    refine eg_forget [some (.ref 128), some (.int v1), none, none, none, none, some (.int v6), some (.int u0)] (show pm_sub _ _ from ⟨rfl, ⟨rfl, ⟨rfl, ⟨rfl, trivial⟩⟩⟩⟩) ?_
    exact lj_X12_sells_222 hfl hS h hE
  · rw [if_neg c17] at h
    refine pg_aload_n dX12_sells_204 rfl ?_
    refine pg_iload_n dX12_sells_205 rfl ?_
    refine pg_iconst 2 dX12_sells_206 rfl ?_
    obtain ⟨r22, h_r22, h⟩ := bd_at h
    refine eg_cVi (C := mX12_of) (as := [(.int v1), (.int 2)]) dX12_sells_207 mw863 cv_X12_of hS sp128 (Nat.le_of_ble_eq_true rfl) (Nat.le_of_ble_eq_true rfl) rfl rfl rfl (Nat.le_of_ble_eq_true rfl) rfl ⟨(Nat.le_of_ble_eq_true rfl), (Nat.le_of_ble_eq_true rfl)⟩ (ct_X12_of hfl (hS.sub (Nat.le_of_ble_eq_true rfl) (Nat.le_of_ble_eq_true rfl)) h_r22) ?_
    refine pg_iload dX12_sells_210 rfl ?_
    refine pg_iadd dX12_sells_212 ?_
    refine pg_goto 222 dX12_sells_213 (by decide) ?_
    refine eg_forget [some (.ref 128), some (.int v1), none, none, none, none, some (.int v6), some (.int u0)] (show pm_sub _ _ from ⟨rfl, ⟨rfl, ⟨rfl, ⟨rfl, trivial⟩⟩⟩⟩) ?_
    exact lj_X12_sells_222 hfl hS h hE
set_option maxRecDepth 20000 in
set_option maxHeartbeats 4000000 in
theorem lj_X12_sells_189 (hfl : g.1.stackTraces = false) (hS : pS 128 137 S) {v1 : Int32} {v4 : Int32} {v6 : Int32} {m0 : me} {r : me} (h : j_X12_sells_189 v1 v4 v6 m0 = some r) (hE : pm_End g mX12_sells X 0 0 (qV S r) qF) : pm_G g mX12_sells X 189 [some (.ref 128), some (.int v1), none, none, some (.int v4), none, some (.int v6), none] [] (en S m0) 0 0 := by
  unfold j_X12_sells_189 at h
  refine pg_iconst 1 dX12_sells_189 rfl ?_
  refine pg_goto 194 dX12_sells_190 (by decide) ?_
  exact lj_X12_sells_194 hfl hS h hE
set_option maxRecDepth 20000 in
set_option maxHeartbeats 4000000 in
theorem lj_X12_sells_158 (hfl : g.1.stackTraces = false) (hS : pS 128 137 S) {v1 : Int32} {v4 : Int32} {v5 : Int32} {u0 : Int32} {m0 : me} {r : me} (h : j_X12_sells_158 v1 v4 v5 u0 m0 = some r) (hE : pm_End g mX12_sells X 0 0 (qV S r) qF) : pm_G g mX12_sells X 158 [some (.ref 128), some (.int v1), none, none, some (.int v4), some (.int v5), none, none] [(.int u0)] (en S m0) 0 0 := by
  unfold j_X12_sells_158 at h
  refine eg_istore [some (.ref 128), some (.int v1), none, none, some (.int v4), some (.int v5), some (.int u0), none] u0 dX12_sells_158 rfl (Nat.le_of_ble_eq_true rfl) rfl ?_
  refine pg_iload dX12_sells_160 rfl ?_
  refine pg_aload_n dX12_sells_162 rfl ?_
  refine eg_get dX12_sells_163 fa_X12_7 hS sp128 (Nat.le_of_ble_eq_true rfl) (Nat.le_of_ble_eq_true rfl) rfl rfl ?_
  refine pg_iconst 4 dX12_sells_166 rfl ?_
  refine eg_ialdJ 4 dX12_sells_167 hS sp129 (Nat.le_of_ble_eq_true rfl) (Nat.le_of_ble_eq_true rfl) rfl (inR_vp rfl) rfl ?_
  refine pg_icmp_gt 189 dX12_sells_168 (by decide) (fun c16 => ?_) (fun c16 => ?_)
  · rw [if_pos c16] at h
    refine eg_forget [some (.ref 128), some (.int v1), none, none, some (.int v4), none, some (.int u0), none] (show pm_sub _ _ from ⟨rfl, ⟨rfl, ⟨rfl, ⟨rfl, trivial⟩⟩⟩⟩) ?_
    exact lj_X12_sells_189 hfl hS h hE
  · rw [if_neg c16] at h
    refine pg_iload dX12_sells_171 rfl ?_
    refine pg_ineg dX12_sells_173 ?_
    refine pg_aload_n dX12_sells_174 rfl ?_
    refine eg_get dX12_sells_175 fa_X12_7 hS sp128 (Nat.le_of_ble_eq_true rfl) (Nat.le_of_ble_eq_true rfl) rfl rfl ?_
    refine pg_iconst 4 dX12_sells_178 rfl ?_
    refine eg_ialdJ 4 dX12_sells_179 hS sp129 (Nat.le_of_ble_eq_true rfl) (Nat.le_of_ble_eq_true rfl) rfl (inR_vp rfl) rfl ?_
    refine pg_icmp_gt 189 dX12_sells_180 (by decide) (fun c23 => ?_) (fun c23 => ?_)
    · rw [if_pos c23] at h
      refine eg_forget [some (.ref 128), some (.int v1), none, none, some (.int v4), none, some (.int u0), none] (show pm_sub _ _ from ⟨rfl, ⟨rfl, ⟨rfl, ⟨rfl, trivial⟩⟩⟩⟩) ?_
      exact lj_X12_sells_189 hfl hS h hE
    · rw [if_neg c23] at h
      refine pg_iload dX12_sells_183 rfl ?_
      refine pg_iconst 3 dX12_sells_185 rfl ?_
      refine pg_icmp_ne 193 dX12_sells_186 (by decide) (fun c24 => ?_) (fun c24 => ?_)
      · rw [if_neg c24] at h
        refine pg_iconst 0 dX12_sells_193 rfl ?_
        refine eg_forget [some (.ref 128), some (.int v1), none, none, some (.int v4), none, some (.int u0), none] (show pm_sub _ _ from ⟨rfl, ⟨rfl, ⟨rfl, ⟨rfl, trivial⟩⟩⟩⟩) ?_
        exact lj_X12_sells_194 hfl hS h hE
      · rw [if_pos c24] at h
        refine eg_forget [some (.ref 128), some (.int v1), none, none, some (.int v4), none, some (.int u0), none] (show pm_sub _ _ from ⟨rfl, ⟨rfl, ⟨rfl, ⟨rfl, trivial⟩⟩⟩⟩) ?_
        exact lj_X12_sells_189 hfl hS h hE
set_option maxRecDepth 20000 in
set_option maxHeartbeats 4000000 in
theorem lj_X12_sells_122 (hfl : g.1.stackTraces = false) (hS : pS 128 137 S) {v1 : Int32} {v4 : Int32} {m0 : me} {r : me} (h : j_X12_sells_122 v1 v4 m0 = some r) (hE : pm_End g mX12_sells X 0 0 (qV S r) qF) : pm_G g mX12_sells X 122 [some (.ref 128), some (.int v1), none, none, some (.int v4), none, none, none] [] (en S m0) 0 0 := by
  unfold j_X12_sells_122 at h
  refine pg_aload_n dX12_sells_122 rfl ?_
  refine pg_iload_n dX12_sells_123 rfl ?_
  refine pg_iconst 2 dX12_sells_124 rfl ?_
  obtain ⟨r11, h_r11, h⟩ := bd_at h
  refine eg_cVi (C := mX12_of) (as := [(.int v1), (.int 2)]) dX12_sells_125 mw863 cv_X12_of hS sp128 (Nat.le_of_ble_eq_true rfl) (Nat.le_of_ble_eq_true rfl) rfl rfl rfl (Nat.le_of_ble_eq_true rfl) rfl ⟨(Nat.le_of_ble_eq_true rfl), (Nat.le_of_ble_eq_true rfl)⟩ (ct_X12_of hfl (hS.sub (Nat.le_of_ble_eq_true rfl) (Nat.le_of_ble_eq_true rfl)) h_r11) ?_
  refine pg_iload dX12_sells_128 rfl ?_
  refine pg_iadd dX12_sells_130 ?_
  refine pg_aload_n dX12_sells_131 rfl ?_
  refine pg_iload_n dX12_sells_132 rfl ?_
  refine pg_iconst 3 dX12_sells_133 rfl ?_
  obtain ⟨r12, h_r12, h⟩ := bd_at h
  refine eg_cVi (C := mX12_of) (as := [(.int v1), (.int 3)]) dX12_sells_134 mw863 cv_X12_of hS sp128 (Nat.le_of_ble_eq_true rfl) (Nat.le_of_ble_eq_true rfl) rfl rfl rfl (Nat.le_of_ble_eq_true rfl) rfl ⟨(Nat.le_of_ble_eq_true rfl), (Nat.le_of_ble_eq_true rfl)⟩ (ct_X12_of hfl (hS.sub (Nat.le_of_ble_eq_true rfl) (Nat.le_of_ble_eq_true rfl)) h_r12) ?_
  refine pg_isub dX12_sells_137 ?_
  obtain ⟨w13, e_w13⟩ : ∃ z : Int32, z = (r11.1 + v4) - r12.1 := ⟨_, rfl⟩
  replace h := lt_at h e_w13
  refine eg_istore [some (.ref 128), some (.int v1), none, none, some (.int v4), some (.int w13), none, none] w13 dX12_sells_138 e_w13 (Nat.le_of_ble_eq_true rfl) rfl ?_
  refine pg_iload dX12_sells_140 rfl ?_
  refine pg_if_ne 149 dX12_sells_142 (by decide) (fun c14 => ?_) (fun c14 => ?_)
  · rw [if_neg c14] at h
    refine pg_aload_n dX12_sells_149 rfl ?_
    refine pg_iload_n dX12_sells_150 rfl ?_
    refine pg_bipush 7 dX12_sells_151 rfl ?_
    obtain ⟨r15, h_r15, h⟩ := bd_at h
    refine eg_cVi (C := mX12_of) (as := [(.int v1), (.int 7)]) dX12_sells_153 mw863 cv_X12_of hS sp128 (Nat.le_of_ble_eq_true rfl) (Nat.le_of_ble_eq_true rfl) rfl rfl rfl (Nat.le_of_ble_eq_true rfl) rfl ⟨(Nat.le_of_ble_eq_true rfl), (Nat.le_of_ble_eq_true rfl)⟩ (ct_X12_of hfl (hS.sub (Nat.le_of_ble_eq_true rfl) (Nat.le_of_ble_eq_true rfl)) h_r15) ?_
    refine pg_iconst 1 dX12_sells_156 rfl ?_
    refine pg_iadd dX12_sells_157 ?_
    exact lj_X12_sells_158 hfl hS h hE
  · rw [if_pos c14] at h
    refine pg_iconst 0 dX12_sells_145 rfl ?_
    refine pg_goto 158 dX12_sells_146 (by decide) ?_
    exact lj_X12_sells_158 hfl hS h hE
set_option maxRecDepth 20000 in
set_option maxHeartbeats 4000000 in
theorem lj_X12_sells_64 (hfl : g.1.stackTraces = false) (hS : pS 128 137 S) {v1 : Int32} {v2 : Int32} {u0 : Int32} {m0 : me} {r : me} (h : j_X12_sells_64 v1 v2 u0 m0 = some r) (hE : pm_End g mX12_sells X 0 0 (qV S r) qF) : pm_G g mX12_sells X 64 [some (.ref 128), some (.int v1), some (.int v2), none, none, none, none, none] [(.int u0)] (en S m0) 0 0 := by
  unfold j_X12_sells_64 at h
  refine eg_istore [some (.ref 128), some (.int v1), some (.int v2), none, some (.int u0), none, none, none] u0 dX12_sells_64 rfl (Nat.le_of_ble_eq_true rfl) rfl ?_
  refine pg_aload_n dX12_sells_66 rfl ?_
  refine pg_iload_n dX12_sells_67 rfl ?_
  refine pg_iconst 5 dX12_sells_68 rfl ?_
  refine pg_iload_n dX12_sells_69 rfl ?_
  obtain ⟨r8, h_r8, h⟩ := bd_at h
  refine eg_cVv (C := mX12_puts) (as := [(.int v1), (.int 5), (.int v2)]) dX12_sells_70 mw848 cv_X12_puts hS sp128 (Nat.le_of_ble_eq_true rfl) (Nat.le_of_ble_eq_true rfl) rfl rfl rfl (Nat.le_of_ble_eq_true rfl) rfl ⟨(Nat.le_of_ble_eq_true rfl), (Nat.le_of_ble_eq_true rfl)⟩ (ct_X12_puts hfl (hS.sub (Nat.le_of_ble_eq_true rfl) (Nat.le_of_ble_eq_true rfl)) h_r8) ?_
  refine pg_aload_n dX12_sells_73 rfl ?_
  refine pg_iload_n dX12_sells_74 rfl ?_
  refine pg_bipush 6 dX12_sells_75 rfl ?_
  refine pg_iload dX12_sells_77 rfl ?_
  obtain ⟨r9, h_r9, h⟩ := bd_at h
  refine eg_cVv (C := mX12_puts) (as := [(.int v1), (.int 6), (.int u0)]) dX12_sells_79 mw848 cv_X12_puts hS sp128 (Nat.le_of_ble_eq_true rfl) (Nat.le_of_ble_eq_true rfl) rfl rfl rfl (Nat.le_of_ble_eq_true rfl) rfl ⟨(Nat.le_of_ble_eq_true rfl), (Nat.le_of_ble_eq_true rfl)⟩ (ct_X12_puts hfl (hS.sub (Nat.le_of_ble_eq_true rfl) (Nat.le_of_ble_eq_true rfl)) h_r9) ?_
  refine pg_iload_n dX12_sells_82 rfl ?_
  refine pg_if_lt 122 dX12_sells_83 (by decide) (fun c10 => ?_) (fun c10 => ?_)
  · rw [if_pos c10] at h
    refine eg_forget [some (.ref 128), some (.int v1), none, none, some (.int u0), none, none, none] (show pm_sub _ _ from ⟨rfl, ⟨rfl, ⟨rfl, trivial⟩⟩⟩) ?_
    exact lj_X12_sells_122 hfl hS h hE
  · rw [if_neg c10] at h
    refine pg_aload_n dX12_sells_86 rfl ?_
    refine eg_get dX12_sells_87 fa_X12_7 hS sp128 (Nat.le_of_ble_eq_true rfl) (Nat.le_of_ble_eq_true rfl) rfl rfl ?_
    refine pg_sipush 187 dX12_sells_90 rfl ?_
    refine pg_iconst 3 dX12_sells_93 rfl ?_
    refine pg_iload_n dX12_sells_94 rfl ?_
    refine pg_imul dX12_sells_95 ?_
    refine pg_iadd dX12_sells_96 ?_
    refine pg_dup2 dX12_sells_97 rfl rfl ?_
    obtain ⟨g1, h⟩ := gd_at h
    refine eg_ialdJ ((187 + (3 * v2)).toNatClampNeg) dX12_sells_98 hS sp129 (Nat.le_of_ble_eq_true rfl) (Nat.le_of_ble_eq_true rfl) rfl (inR_vp g1) rfl ?_
    refine pg_iload dX12_sells_99 rfl ?_
    refine pg_isub dX12_sells_101 ?_
    obtain ⟨g1, h⟩ := gd_at h
    refine eg_iastJ ((187 + (3 * v2)).toNatClampNeg) dX12_sells_102 hS sp129 (Nat.le_of_ble_eq_true rfl) (Nat.le_of_ble_eq_true rfl) (fun _ _ _ => rfl) (inR_vp g1) rfl (fun m25 e_m25 => ?_)
    replace h := lt_at h e_m25
    refine pg_aload_n dX12_sells_103 rfl ?_
    refine eg_get dX12_sells_104 fa_X12_7 hS sp128 (Nat.le_of_ble_eq_true rfl) (Nat.le_of_ble_eq_true rfl) rfl rfl ?_
    refine pg_sipush 187 dX12_sells_107 rfl ?_
    refine pg_iconst 3 dX12_sells_110 rfl ?_
    refine pg_iload_n dX12_sells_111 rfl ?_
    refine pg_imul dX12_sells_112 ?_
    refine pg_iadd dX12_sells_113 ?_
    refine pg_iconst 1 dX12_sells_114 rfl ?_
    refine pg_iadd dX12_sells_115 ?_
    refine pg_dup2 dX12_sells_116 rfl rfl ?_
    obtain ⟨g1, h⟩ := gd_at h
    refine eg_ialdJ (((187 + (3 * v2)) + 1).toNatClampNeg) dX12_sells_117 hS sp129 (Nat.le_of_ble_eq_true rfl) (Nat.le_of_ble_eq_true rfl) rfl (inR_vp g1) rfl ?_
    refine pg_iload dX12_sells_118 rfl ?_
    refine pg_iadd dX12_sells_120 ?_
    obtain ⟨g1, h⟩ := gd_at h
    refine eg_iastJ (((187 + (3 * v2)) + 1).toNatClampNeg) dX12_sells_121 hS sp129 (Nat.le_of_ble_eq_true rfl) (Nat.le_of_ble_eq_true rfl) (fun _ _ _ => rfl) (inR_vp g1) rfl (fun m26 e_m26 => ?_)
    replace h := lt_at h e_m26
    refine eg_forget [some (.ref 128), some (.int v1), none, none, some (.int u0), none, none, none] (show pm_sub _ _ from ⟨rfl, ⟨rfl, ⟨rfl, trivial⟩⟩⟩) ?_
    exact lj_X12_sells_122 hfl hS h hE
set_option maxRecDepth 20000 in
set_option maxHeartbeats 4000000 in
theorem lj_X12_sells_36 (hfl : g.1.stackTraces = false) (hS : pS 128 137 S) {v1 : Int32} {v2 : Int32} {u0 : Int32} {m0 : me} {r : me} (h : j_X12_sells_36 v1 v2 u0 m0 = some r) (hE : pm_End g mX12_sells X 0 0 (qV S r) qF) : pm_G g mX12_sells X 36 [some (.ref 128), some (.int v1), some (.int v2), none, none, none, none, none] [(.int u0)] (en S m0) 0 0 := by
  unfold j_X12_sells_36 at h
  refine eg_istore_n [some (.ref 128), some (.int v1), some (.int v2), some (.int u0), none, none, none, none] u0 dX12_sells_36 rfl (Nat.le_of_ble_eq_true rfl) rfl ?_
  refine pg_iload_n dX12_sells_37 rfl ?_
  refine pg_iconst (-1) dX12_sells_38 rfl ?_
  refine pg_icmp_ne 46 dX12_sells_39 (by decide) (fun c5 => ?_) (fun c5 => ?_)
  · rw [if_neg c5] at h
    refine pg_iload_n dX12_sells_46 rfl ?_
    refine pg_iconst (-1) dX12_sells_47 rfl ?_
    refine pg_icmp_ne 55 dX12_sells_48 (by decide) (fun c6 => ?_) (fun c6 => ?_)
    · rw [if_neg c6] at h
      refine pg_aload_n dX12_sells_55 rfl ?_
      refine pg_iload_n dX12_sells_56 rfl ?_
      refine pg_bipush 14 dX12_sells_57 rfl ?_
      refine pg_iload_n dX12_sells_59 rfl ?_
      refine pg_iadd dX12_sells_60 ?_
      obtain ⟨r7, h_r7, h⟩ := bd_at h
      refine eg_cVi (C := mX12_of) (as := [(.int v1), (.int (14 + u0))]) dX12_sells_61 mw863 cv_X12_of hS sp128 (Nat.le_of_ble_eq_true rfl) (Nat.le_of_ble_eq_true rfl) rfl rfl rfl (Nat.le_of_ble_eq_true rfl) rfl ⟨(Nat.le_of_ble_eq_true rfl), (Nat.le_of_ble_eq_true rfl)⟩ (ct_X12_of hfl (hS.sub (Nat.le_of_ble_eq_true rfl) (Nat.le_of_ble_eq_true rfl)) h_r7) ?_
      refine eg_forget [some (.ref 128), some (.int v1), some (.int v2), none, none, none, none, none] (show pm_sub _ _ from ⟨rfl, ⟨rfl, ⟨rfl, trivial⟩⟩⟩) ?_
      exact lj_X12_sells_64 hfl hS h hE
    · rw [if_pos c6] at h
      refine pg_iconst 1 dX12_sells_51 rfl ?_
      refine pg_goto 64 dX12_sells_52 (by decide) ?_
      refine eg_forget [some (.ref 128), some (.int v1), some (.int v2), none, none, none, none, none] (show pm_sub _ _ from ⟨rfl, ⟨rfl, ⟨rfl, trivial⟩⟩⟩) ?_
      exact lj_X12_sells_64 hfl hS h hE
  · rw [if_pos c5] at h
    refine pg_iconst 0 dX12_sells_42 rfl ?_
    refine pg_goto 64 dX12_sells_43 (by decide) ?_
    refine eg_forget [some (.ref 128), some (.int v1), some (.int v2), none, none, none, none, none] (show pm_sub _ _ from ⟨rfl, ⟨rfl, ⟨rfl, trivial⟩⟩⟩) ?_
    exact lj_X12_sells_64 hfl hS h hE
set_option maxRecDepth 20000 in
set_option maxHeartbeats 4000000 in
theorem lj_X12_sells_20 (hfl : g.1.stackTraces = false) (hS : pS 128 137 S) {v1 : Int32} {u0 : Int32} {m0 : me} {r : me} (h : j_X12_sells_20 v1 u0 m0 = some r) (hE : pm_End g mX12_sells X 0 0 (qV S r) qF) : pm_G g mX12_sells X 20 [some (.ref 128), some (.int v1), none, none, none, none, none, none] [(.int u0)] (en S m0) 0 0 := by
  unfold j_X12_sells_20 at h
  refine eg_istore_n [some (.ref 128), some (.int v1), some (.int u0), none, none, none, none, none] u0 dX12_sells_20 rfl (Nat.le_of_ble_eq_true rfl) rfl ?_
  refine pg_iload_n dX12_sells_21 rfl ?_
  refine pg_iconst (-1) dX12_sells_22 rfl ?_
  refine pg_icmp_ne 30 dX12_sells_23 (by decide) (fun c3 => ?_) (fun c3 => ?_)
  · rw [if_neg c3] at h
    refine pg_aload_n dX12_sells_30 rfl ?_
    refine pg_iload_n dX12_sells_31 rfl ?_
    refine pg_iload_n dX12_sells_32 rfl ?_
    obtain ⟨r4, h_r4, h⟩ := bd_at h
    refine eg_cVi (C := mX12_greatest) (as := [(.int v1), (.int u0)]) dX12_sells_33 mw922 cv_X12_greatest hS sp128 (Nat.le_of_ble_eq_true rfl) (Nat.le_of_ble_eq_true rfl) rfl rfl rfl (Nat.le_of_ble_eq_true rfl) rfl ⟨(Nat.le_of_ble_eq_true rfl), (Nat.le_of_ble_eq_true rfl)⟩ (ct_X12_greatest hfl (hS.sub (Nat.le_of_ble_eq_true rfl) (Nat.le_of_ble_eq_true rfl)) h_r4) ?_
    exact lj_X12_sells_36 hfl hS h hE
  · rw [if_pos c3] at h
    refine pg_iconst (-1) dX12_sells_26 rfl ?_
    refine pg_goto 36 dX12_sells_27 (by decide) ?_
    exact lj_X12_sells_36 hfl hS h hE
set_option maxRecDepth 20000 in
set_option maxHeartbeats 4000000 in
theorem ct_X12_sells (hfl : g.1.stackTraces = false) (hS : pS 128 137 S) {v1 : Int32} {m0 : me} {x : me} (h : f_X12_sells v1 m0 = some x) : pm_Ct g mX12_sells [.ref 128, .int v1] (en S m0) 0 0 (qV S x) qF := by
  refine pm_of (by decide +kernel) rfl hfl (Nat.le_of_ble_eq_true rfl) (fun X hE => ?_)
  show pm_G g mX12_sells X 0 [some (.ref 128), some (.int v1), none, none, none, none, none, none] [] (en S m0) 0 0
  unfold f_X12_sells at h
  refine pg_aload_n dX12_sells_0 rfl ?_
  refine pg_iload_n dX12_sells_1 rfl ?_
  refine pg_iconst 4 dX12_sells_2 rfl ?_
  obtain ⟨r1, h_r1, h⟩ := bd_at h
  refine eg_cVi (C := mX12_of) (as := [(.int v1), (.int 4)]) dX12_sells_3 mw863 cv_X12_of hS sp128 (Nat.le_of_ble_eq_true rfl) (Nat.le_of_ble_eq_true rfl) rfl rfl rfl (Nat.le_of_ble_eq_true rfl) rfl ⟨(Nat.le_of_ble_eq_true rfl), (Nat.le_of_ble_eq_true rfl)⟩ (ct_X12_of hfl (hS.sub (Nat.le_of_ble_eq_true rfl) (Nat.le_of_ble_eq_true rfl)) h_r1) ?_
  refine pg_iconst 1 dX12_sells_6 rfl ?_
  refine pg_icmp_ne 19 dX12_sells_7 (by decide) (fun c2 => ?_) (fun c2 => ?_)
  · rw [if_neg c2] at h
    refine pg_iconst (-1) dX12_sells_19 rfl ?_
    exact lj_X12_sells_20 hfl hS h hE
  · rw [if_pos c2] at h
    refine pg_aload_n dX12_sells_10 rfl ?_
    refine pg_iload_n dX12_sells_11 rfl ?_
    refine pg_iconst (-1) dX12_sells_12 rfl ?_
    obtain ⟨r27, h_r27, h⟩ := bd_at h
    refine eg_cVi (C := mX12_greatest) (as := [(.int v1), (.int (-1))]) dX12_sells_13 mw922 cv_X12_greatest hS sp128 (Nat.le_of_ble_eq_true rfl) (Nat.le_of_ble_eq_true rfl) rfl rfl rfl (Nat.le_of_ble_eq_true rfl) rfl ⟨(Nat.le_of_ble_eq_true rfl), (Nat.le_of_ble_eq_true rfl)⟩ (ct_X12_greatest hfl (hS.sub (Nat.le_of_ble_eq_true rfl) (Nat.le_of_ble_eq_true rfl)) h_r27) ?_
    refine pg_goto 20 dX12_sells_16 (by decide) ?_
    exact lj_X12_sells_20 hfl hS h hE
def b_X12_auctions_13 (s : Int32 × me) : Option ((Int32 × me) ⊕ (Int32 × me)) :=
  if 4 ≤ s.1 then
    some (.inr (s.1, s.2))
  else
    gd (inR (187 + (3 * s.1)) 487) (
    gd (inR (187 + (3 * s.1)) 487) (
    lt (wI s.2 129 ((187 + (3 * s.1)).toNatClampNeg) (((9 * (s.2.1 129 ((187 + (3 * s.1)).toNatClampNeg))) / 10) + 20)) (fun m3 =>
    lt (s.1 + 1) (fun w4 =>
    some (.inl (w4, m3))))))
def b_X12_auctions_59 (s : Int32 × me) : Option ((Int32 × me) ⊕ (Int32 × me)) :=
  if (s.2.1 129 5) ≤ s.1 then
    some (.inr (s.1, s.2))
  else
    bd (f_X12_sells s.1 s.2) (fun r7 =>
    lt (s.1 + 1) (fun w8 =>
    some (.inl (w8, r7))))
def f_X12_auctions (m0 : me) : Option me :=
  lt (wI m0 129 6 ((m0.1 129 6) + 1)) (fun m1 =>
  bd (lo (b_X12_auctions_13) 2048 (0, m1)) (fun s5 =>
  bd (lo (b_X12_auctions_59) 2048 (0, s5.2)) (fun s9 =>
  some (s9.2))))
set_option maxRecDepth 20000 in
set_option maxHeartbeats 4000000 in
theorem lb_X12_auctions_13 (hfl : g.1.stackTraces = false) (hS : pS 128 137 S) {s : Int32 × me} {r : (Int32 × me) ⊕ (Int32 × me)} (h : b_X12_auctions_13 s = some r) (hN : ∀ s', r = .inl s' → (fun z9 : Int32 × me => pm_G g mX12_auctions X 13 [some (.ref 128), some (.int z9.1)] [] (en S z9.2) 0 0) s') (hT : ∀ t, r = .inr t → (fun z9 : Int32 × me => pm_G g mX12_auctions X 57 [some (.ref 128), some (.int z9.1)] [] (en S z9.2) 0 0) t) : (fun z9 : Int32 × me => pm_G g mX12_auctions X 13 [some (.ref 128), some (.int z9.1)] [] (en S z9.2) 0 0) s := by
  unfold b_X12_auctions_13 at h
  show pm_G g mX12_auctions X 13 [some (.ref 128), some (.int s.1)] [] (en S s.2) 0 0
  refine pg_iload_n dX12_auctions_13 rfl ?_
  refine pg_iconst 4 dX12_auctions_14 rfl ?_
  refine pg_icmp_ge 57 dX12_auctions_15 (by decide) (fun c2 => ?_) (fun c2 => ?_)
  · rw [if_pos c2] at h
    obtain rfl := Option.some.inj h
    exact hT _ rfl
  · rw [if_neg c2] at h
    refine pg_aload_n dX12_auctions_18 rfl ?_
    refine eg_get dX12_auctions_19 fa_X12_7 hS sp128 (Nat.le_of_ble_eq_true rfl) (Nat.le_of_ble_eq_true rfl) rfl rfl ?_
    refine pg_sipush 187 dX12_auctions_22 rfl ?_
    refine pg_iconst 3 dX12_auctions_25 rfl ?_
    refine pg_iload_n dX12_auctions_26 rfl ?_
    refine pg_imul dX12_auctions_27 ?_
    refine pg_iadd dX12_auctions_28 ?_
    refine pg_bipush 9 dX12_auctions_29 rfl ?_
    refine pg_aload_n dX12_auctions_31 rfl ?_
    refine eg_get dX12_auctions_32 fa_X12_7 hS sp128 (Nat.le_of_ble_eq_true rfl) (Nat.le_of_ble_eq_true rfl) rfl rfl ?_
    refine pg_sipush 187 dX12_auctions_35 rfl ?_
    refine pg_iconst 3 dX12_auctions_38 rfl ?_
    refine pg_iload_n dX12_auctions_39 rfl ?_
    refine pg_imul dX12_auctions_40 ?_
    refine pg_iadd dX12_auctions_41 ?_
    obtain ⟨g1, h⟩ := gd_at h
    refine eg_ialdJ ((187 + (3 * s.1)).toNatClampNeg) dX12_auctions_42 hS sp129 (Nat.le_of_ble_eq_true rfl) (Nat.le_of_ble_eq_true rfl) rfl (inR_vp g1) rfl ?_
    refine pg_imul dX12_auctions_43 ?_
    refine pg_bipush 10 dX12_auctions_44 rfl ?_
    refine pg_idiv dX12_auctions_46 (by decide) ?_
    refine pg_bipush 20 dX12_auctions_47 rfl ?_
    refine pg_iadd dX12_auctions_49 ?_
    obtain ⟨g1, h⟩ := gd_at h
    refine eg_iastJ ((187 + (3 * s.1)).toNatClampNeg) dX12_auctions_50 hS sp129 (Nat.le_of_ble_eq_true rfl) (Nat.le_of_ble_eq_true rfl) (fun _ _ _ => rfl) (inR_vp g1) rfl (fun m3 e_m3 => ?_)
    replace h := lt_at h e_m3
    obtain ⟨w4, e_w4⟩ : ∃ z : Int32, z = s.1 + 1 := ⟨_, rfl⟩
    replace h := lt_at h e_w4
    refine eg_iinc [some (.ref 128), some (.int w4)] w4 1 dX12_auctions_51 rfl rfl e_w4 rfl ?_
    refine pg_goto 13 dX12_auctions_54 (by decide) ?_
    obtain rfl := Option.some.inj h
    exact hN _ rfl
set_option maxRecDepth 20000 in
set_option maxHeartbeats 4000000 in
theorem lb_X12_auctions_59 (hfl : g.1.stackTraces = false) (hS : pS 128 137 S) {s : Int32 × me} {r : (Int32 × me) ⊕ (Int32 × me)} (h : b_X12_auctions_59 s = some r) (hN : ∀ s', r = .inl s' → (fun z9 : Int32 × me => pm_G g mX12_auctions X 59 [some (.ref 128), some (.int z9.1)] [] (en S z9.2) 0 0) s') (hT : ∀ t, r = .inr t → (fun z9 : Int32 × me => pm_G g mX12_auctions X 80 [some (.ref 128), some (.int z9.1)] [] (en S z9.2) 0 0) t) : (fun z9 : Int32 × me => pm_G g mX12_auctions X 59 [some (.ref 128), some (.int z9.1)] [] (en S z9.2) 0 0) s := by
  unfold b_X12_auctions_59 at h
  show pm_G g mX12_auctions X 59 [some (.ref 128), some (.int s.1)] [] (en S s.2) 0 0
  refine pg_iload_n dX12_auctions_59 rfl ?_
  refine pg_aload_n dX12_auctions_60 rfl ?_
  refine eg_get dX12_auctions_61 fa_X12_7 hS sp128 (Nat.le_of_ble_eq_true rfl) (Nat.le_of_ble_eq_true rfl) rfl rfl ?_
  refine pg_iconst 5 dX12_auctions_64 rfl ?_
  refine eg_ialdJ 5 dX12_auctions_65 hS sp129 (Nat.le_of_ble_eq_true rfl) (Nat.le_of_ble_eq_true rfl) rfl (inR_vp rfl) rfl ?_
  refine pg_icmp_ge 80 dX12_auctions_66 (by decide) (fun c6 => ?_) (fun c6 => ?_)
  · rw [if_pos c6] at h
    obtain rfl := Option.some.inj h
    exact hT _ rfl
  · rw [if_neg c6] at h
    refine pg_aload_n dX12_auctions_69 rfl ?_
    refine pg_iload_n dX12_auctions_70 rfl ?_
    obtain ⟨r7, h_r7, h⟩ := bd_at h
    refine eg_cVv (C := mX12_sells) (as := [(.int s.1)]) dX12_auctions_71 mw917 cv_X12_sells hS sp128 (Nat.le_of_ble_eq_true rfl) (Nat.le_of_ble_eq_true rfl) rfl rfl rfl (Nat.le_of_ble_eq_true rfl) rfl ⟨(Nat.le_of_ble_eq_true rfl), (Nat.le_of_ble_eq_true rfl)⟩ (ct_X12_sells hfl (hS.sub (Nat.le_of_ble_eq_true rfl) (Nat.le_of_ble_eq_true rfl)) h_r7) ?_
    obtain ⟨w8, e_w8⟩ : ∃ z : Int32, z = s.1 + 1 := ⟨_, rfl⟩
    replace h := lt_at h e_w8
    refine eg_iinc [some (.ref 128), some (.int w8)] w8 1 dX12_auctions_74 rfl rfl e_w8 rfl ?_
    refine pg_goto 59 dX12_auctions_77 (by decide) ?_
    obtain rfl := Option.some.inj h
    exact hN _ rfl
set_option maxRecDepth 20000 in
set_option maxHeartbeats 4000000 in
theorem ct_X12_auctions (hfl : g.1.stackTraces = false) (hS : pS 128 137 S) {m0 : me} {x : me} (h : f_X12_auctions m0 = some x) : pm_Ct g mX12_auctions [.ref 128] (en S m0) 0 0 (qV S x) qF := by
  refine pm_of (by decide +kernel) rfl hfl (Nat.le_of_ble_eq_true rfl) (fun X hE => ?_)
  show pm_G g mX12_auctions X 0 [some (.ref 128), none] [] (en S m0) 0 0
  unfold f_X12_auctions at h
  refine pg_aload_n dX12_auctions_0 rfl ?_
  refine eg_get dX12_auctions_1 fa_X12_7 hS sp128 (Nat.le_of_ble_eq_true rfl) (Nat.le_of_ble_eq_true rfl) rfl rfl ?_
  refine pg_bipush 6 dX12_auctions_4 rfl ?_
  refine pg_dup2 dX12_auctions_6 rfl rfl ?_
  refine eg_ialdJ 6 dX12_auctions_7 hS sp129 (Nat.le_of_ble_eq_true rfl) (Nat.le_of_ble_eq_true rfl) rfl (inR_vp rfl) rfl ?_
  refine pg_iconst 1 dX12_auctions_8 rfl ?_
  refine pg_iadd dX12_auctions_9 ?_
  refine eg_iastJ 6 dX12_auctions_10 hS sp129 (Nat.le_of_ble_eq_true rfl) (Nat.le_of_ble_eq_true rfl) (fun _ _ _ => rfl) (inR_vp rfl) rfl (fun m1 e_m1 => ?_)
  replace h := lt_at h e_m1
  refine pg_iconst 0 dX12_auctions_11 rfl ?_
  refine eg_istore_n [some (.ref 128), some (.int 0)] 0 dX12_auctions_12 rfl (Nat.le_of_ble_eq_true rfl) rfl ?_
  obtain ⟨s5, h_s5, h⟩ := bd_at h
  refine lo_at (b := b_X12_auctions_13) (G := (fun z9 : Int32 × me => pm_G g mX12_auctions X 13 [some (.ref 128), some (.int z9.1)] [] (en S z9.2) 0 0)) (T := (fun z9 : Int32 × me => pm_G g mX12_auctions X 57 [some (.ref 128), some (.int z9.1)] [] (en S z9.2) 0 0)) (fun q9 r9 h1 h2 h3 => lb_X12_auctions_13 hfl hS h1 h2 h3) 2048 (0, m1) s5 h_s5 ?_
  show pm_G g mX12_auctions X 57 [some (.ref 128), some (.int s5.1)] [] (en S s5.2) 0 0
  refine pg_iconst 0 dX12_auctions_57 rfl ?_
  refine eg_istore_n [some (.ref 128), some (.int 0)] 0 dX12_auctions_58 rfl (Nat.le_of_ble_eq_true rfl) rfl ?_
  obtain ⟨s9, h_s9, h⟩ := bd_at h
  refine lo_at (b := b_X12_auctions_59) (G := (fun z9 : Int32 × me => pm_G g mX12_auctions X 59 [some (.ref 128), some (.int z9.1)] [] (en S z9.2) 0 0)) (T := (fun z9 : Int32 × me => pm_G g mX12_auctions X 80 [some (.ref 128), some (.int z9.1)] [] (en S z9.2) 0 0)) (fun q9 r9 h1 h2 h3 => lb_X12_auctions_59 hfl hS h1 h2 h3) 2048 (0, s5.2) s9 h_s9 ?_
  show pm_G g mX12_auctions X 80 [some (.ref 128), some (.int s9.1)] [] (en S s9.2) 0 0
  obtain rfl := Option.some.inj h
  exact hE.2.2.1 _ _ _ _ _ dX12_auctions_80 rfl (Nat.zero_le _) (Nat.zero_le _) ⟨rfl, rfl⟩
def j_X12_ticksOnce_30 (m0 : me) : Option me :=
  bd (f_X12_vectors m0) (fun r3 =>
  bd (f_X12_ports r3) (fun r4 =>
  some (r4)))
def f_X12_ticksOnce (m0 : me) : Option me :=
  lt (wI m0 129 1 ((m0.1 129 1) + 1)) (fun m1 =>
  gd (nz (m1.1 129 3)) (
  if ((m1.1 129 1) - (m1.1 129 1) / (m1.1 129 3) * (m1.1 129 3)) = 0 then
    bd (f_X12_auctions m1) (fun r5 =>
    j_X12_ticksOnce_30 r5)
  else
    j_X12_ticksOnce_30 m1))
set_option maxRecDepth 20000 in
set_option maxHeartbeats 4000000 in
theorem lj_X12_ticksOnce_30 (hfl : g.1.stackTraces = false) (hS : pS 128 137 S) {m0 : me} {r : me} (h : j_X12_ticksOnce_30 m0 = some r) (hE : pm_End g mX12_ticksOnce X 0 0 (qV S r) qF) : pm_G g mX12_ticksOnce X 30 [some (.ref 128)] [] (en S m0) 0 0 := by
  unfold j_X12_ticksOnce_30 at h
  refine pg_aload_n dX12_ticksOnce_30 rfl ?_
  obtain ⟨r3, h_r3, h⟩ := bd_at h
  refine eg_cVv (C := mX12_vectors) (as := []) dX12_ticksOnce_31 mw907 cv_X12_vectors hS sp128 (Nat.le_of_ble_eq_true rfl) (Nat.le_of_ble_eq_true rfl) rfl rfl rfl (Nat.le_of_ble_eq_true rfl) rfl ⟨(Nat.le_of_ble_eq_true rfl), (Nat.le_of_ble_eq_true rfl)⟩ (ct_X12_vectors hfl (hS.sub (Nat.le_of_ble_eq_true rfl) (Nat.le_of_ble_eq_true rfl)) h_r3) ?_
  refine pg_aload_n dX12_ticksOnce_34 rfl ?_
  obtain ⟨r4, h_r4, h⟩ := bd_at h
  refine eg_cVv (C := mX12_ports) (as := []) dX12_ticksOnce_35 mw912 cv_X12_ports hS sp128 (Nat.le_of_ble_eq_true rfl) (Nat.le_of_ble_eq_true rfl) rfl rfl rfl (Nat.le_of_ble_eq_true rfl) rfl ⟨(Nat.le_of_ble_eq_true rfl), (Nat.le_of_ble_eq_true rfl)⟩ (ct_X12_ports hfl (hS.sub (Nat.le_of_ble_eq_true rfl) (Nat.le_of_ble_eq_true rfl)) h_r4) ?_
  obtain rfl := Option.some.inj h
  exact hE.2.2.1 _ _ _ _ _ dX12_ticksOnce_38 rfl (Nat.zero_le _) (Nat.zero_le _) ⟨rfl, rfl⟩
set_option maxRecDepth 20000 in
set_option maxHeartbeats 4000000 in
theorem ct_X12_ticksOnce (hfl : g.1.stackTraces = false) (hS : pS 128 137 S) {m0 : me} {x : me} (h : f_X12_ticksOnce m0 = some x) : pm_Ct g mX12_ticksOnce [.ref 128] (en S m0) 0 0 (qV S x) qF := by
  refine pm_of (by decide +kernel) rfl hfl (Nat.le_of_ble_eq_true rfl) (fun X hE => ?_)
  show pm_G g mX12_ticksOnce X 0 [some (.ref 128)] [] (en S m0) 0 0
  unfold f_X12_ticksOnce at h
  refine pg_aload_n dX12_ticksOnce_0 rfl ?_
  refine eg_get dX12_ticksOnce_1 fa_X12_7 hS sp128 (Nat.le_of_ble_eq_true rfl) (Nat.le_of_ble_eq_true rfl) rfl rfl ?_
  refine pg_iconst 1 dX12_ticksOnce_4 rfl ?_
  refine pg_dup2 dX12_ticksOnce_5 rfl rfl ?_
  refine eg_ialdJ 1 dX12_ticksOnce_6 hS sp129 (Nat.le_of_ble_eq_true rfl) (Nat.le_of_ble_eq_true rfl) rfl (inR_vp rfl) rfl ?_
  refine pg_iconst 1 dX12_ticksOnce_7 rfl ?_
  refine pg_iadd dX12_ticksOnce_8 ?_
  refine eg_iastJ 1 dX12_ticksOnce_9 hS sp129 (Nat.le_of_ble_eq_true rfl) (Nat.le_of_ble_eq_true rfl) (fun _ _ _ => rfl) (inR_vp rfl) rfl (fun m1 e_m1 => ?_)
  replace h := lt_at h e_m1
  refine pg_aload_n dX12_ticksOnce_10 rfl ?_
  refine eg_get dX12_ticksOnce_11 fa_X12_7 hS sp128 (Nat.le_of_ble_eq_true rfl) (Nat.le_of_ble_eq_true rfl) rfl rfl ?_
  refine pg_iconst 1 dX12_ticksOnce_14 rfl ?_
  refine eg_ialdJ 1 dX12_ticksOnce_15 hS sp129 (Nat.le_of_ble_eq_true rfl) (Nat.le_of_ble_eq_true rfl) rfl (inR_vp rfl) rfl ?_
  refine pg_aload_n dX12_ticksOnce_16 rfl ?_
  refine eg_get dX12_ticksOnce_17 fa_X12_7 hS sp128 (Nat.le_of_ble_eq_true rfl) (Nat.le_of_ble_eq_true rfl) rfl rfl ?_
  refine pg_iconst 3 dX12_ticksOnce_20 rfl ?_
  refine eg_ialdJ 3 dX12_ticksOnce_21 hS sp129 (Nat.le_of_ble_eq_true rfl) (Nat.le_of_ble_eq_true rfl) rfl (inR_vp rfl) rfl ?_
  obtain ⟨g1, h⟩ := gd_at h
  refine pg_irem dX12_ticksOnce_22 (nz_ne g1) ?_
  refine pg_if_ne 30 dX12_ticksOnce_23 (by decide) (fun c2 => ?_) (fun c2 => ?_)
  · rw [if_neg c2] at h
    exact lj_X12_ticksOnce_30 hfl hS h hE
  · rw [if_pos c2] at h
    refine pg_aload_n dX12_ticksOnce_26 rfl ?_
    obtain ⟨r5, h_r5, h⟩ := bd_at h
    refine eg_cVv (C := mX12_auctions) (as := []) dX12_ticksOnce_27 mw902 cv_X12_auctions hS sp128 (Nat.le_of_ble_eq_true rfl) (Nat.le_of_ble_eq_true rfl) rfl rfl rfl (Nat.le_of_ble_eq_true rfl) rfl ⟨(Nat.le_of_ble_eq_true rfl), (Nat.le_of_ble_eq_true rfl)⟩ (ct_X12_auctions hfl (hS.sub (Nat.le_of_ble_eq_true rfl) (Nat.le_of_ble_eq_true rfl)) h_r5) ?_
    exact lj_X12_ticksOnce_30 hfl hS h hE
def b_X12_ticks_15 (v1 : Int32) (s : Int32 × me) : Option ((Int32 × me) ⊕ (Int32 × me)) :=
  if v1 ≤ s.1 then
    some (.inr (s.1, s.2))
  else
    bd (f_X12_ticksOnce s.2) (fun r4 =>
    lt (s.1 + 1) (fun w5 =>
    some (.inl (w5, r4))))
def f_X12_ticks (v1 : Int32) (m0 : me) : Option (Int32 × me) :=
  bd (f_X12_in v1 1 200 m0) (fun r1 =>
  if r1.1 = 0 then
    some ((1, r1.2))
  else
    bd (lo (b_X12_ticks_15 v1) 2048 (0, r1.2)) (fun s6 =>
    lt (wI s6.2 128 7 (s6.2.1 129 1)) (fun m7 =>
    some ((0, m7)))))
set_option maxRecDepth 20000 in
set_option maxHeartbeats 4000000 in
theorem lb_X12_ticks_15 (hfl : g.1.stackTraces = false) (hS : pS 128 137 S) {v1 : Int32} {s : Int32 × me} {r : (Int32 × me) ⊕ (Int32 × me)} (h : b_X12_ticks_15 v1 s = some r) (hN : ∀ s', r = .inl s' → (fun z9 : Int32 × me => pm_G g mX12_ticks X 15 [some (.ref 128), some (.int v1), some (.int z9.1)] [] (en S z9.2) 0 0) s') (hT : ∀ t, r = .inr t → (fun z9 : Int32 × me => pm_G g mX12_ticks X 30 [some (.ref 128), some (.int v1), some (.int z9.1)] [] (en S z9.2) 0 0) t) : (fun z9 : Int32 × me => pm_G g mX12_ticks X 15 [some (.ref 128), some (.int v1), some (.int z9.1)] [] (en S z9.2) 0 0) s := by
  unfold b_X12_ticks_15 at h
  show pm_G g mX12_ticks X 15 [some (.ref 128), some (.int v1), some (.int s.1)] [] (en S s.2) 0 0
  refine pg_iload_n dX12_ticks_15 rfl ?_
  refine pg_iload_n dX12_ticks_16 rfl ?_
  refine pg_icmp_ge 30 dX12_ticks_17 (by decide) (fun c3 => ?_) (fun c3 => ?_)
  · rw [if_pos c3] at h
    obtain rfl := Option.some.inj h
    exact hT _ rfl
  · rw [if_neg c3] at h
    refine pg_aload_n dX12_ticks_20 rfl ?_
    obtain ⟨r4, h_r4, h⟩ := bd_at h
    refine eg_cVv (C := mX12_ticksOnce) (as := []) dX12_ticks_21 mw897 cv_X12_ticksOnce hS sp128 (Nat.le_of_ble_eq_true rfl) (Nat.le_of_ble_eq_true rfl) rfl rfl rfl (Nat.le_of_ble_eq_true rfl) rfl ⟨(Nat.le_of_ble_eq_true rfl), (Nat.le_of_ble_eq_true rfl)⟩ (ct_X12_ticksOnce hfl (hS.sub (Nat.le_of_ble_eq_true rfl) (Nat.le_of_ble_eq_true rfl)) h_r4) ?_
    obtain ⟨w5, e_w5⟩ : ∃ z : Int32, z = s.1 + 1 := ⟨_, rfl⟩
    replace h := lt_at h e_w5
    refine eg_iinc [some (.ref 128), some (.int v1), some (.int w5)] w5 1 dX12_ticks_24 rfl rfl e_w5 rfl ?_
    refine pg_goto 15 dX12_ticks_27 (by decide) ?_
    obtain rfl := Option.some.inj h
    exact hN _ rfl
set_option maxRecDepth 20000 in
set_option maxHeartbeats 4000000 in
theorem ct_X12_ticks (hfl : g.1.stackTraces = false) (hS : pS 128 137 S) {v1 : Int32} {m0 : me} {x : (Int32 × me)} (h : f_X12_ticks v1 m0 = some x) : pm_Ct g mX12_ticks [.ref 128, .int v1] (en S m0) 0 0 (qI S x) qF := by
  refine pm_of (by decide +kernel) rfl hfl (Nat.le_of_ble_eq_true rfl) (fun X hE => ?_)
  show pm_G g mX12_ticks X 0 [some (.ref 128), some (.int v1), none] [] (en S m0) 0 0
  unfold f_X12_ticks at h
  refine pg_iload_n dX12_ticks_0 rfl ?_
  refine pg_iconst 1 dX12_ticks_1 rfl ?_
  refine pg_sipush 200 dX12_ticks_2 rfl ?_
  obtain ⟨r1, h_r1, h⟩ := bd_at h
  refine eg_cSi (C := mX12_in) (as := [(.int v1), (.int 1), (.int 200)]) dX12_ticks_5 mw786 cs_X12_in rfl rfl (Nat.le_of_ble_eq_true rfl) rfl ⟨(Nat.le_of_ble_eq_true rfl), (Nat.le_of_ble_eq_true rfl)⟩ (ct_X12_in hfl h_r1) ?_
  refine pg_if_ne 13 dX12_ticks_8 (by decide) (fun c2 => ?_) (fun c2 => ?_)
  · rw [if_neg c2] at h
    refine pg_iconst 0 dX12_ticks_13 rfl ?_
    refine eg_istore_n [some (.ref 128), some (.int v1), some (.int 0)] 0 dX12_ticks_14 rfl (Nat.le_of_ble_eq_true rfl) rfl ?_
    obtain ⟨s6, h_s6, h⟩ := bd_at h
    refine lo_at (b := b_X12_ticks_15 v1) (G := (fun z9 : Int32 × me => pm_G g mX12_ticks X 15 [some (.ref 128), some (.int v1), some (.int z9.1)] [] (en S z9.2) 0 0)) (T := (fun z9 : Int32 × me => pm_G g mX12_ticks X 30 [some (.ref 128), some (.int v1), some (.int z9.1)] [] (en S z9.2) 0 0)) (fun q9 r9 h1 h2 h3 => lb_X12_ticks_15 hfl hS h1 h2 h3) 2048 (0, r1.2) s6 h_s6 ?_
    show pm_G g mX12_ticks X 30 [some (.ref 128), some (.int v1), some (.int s6.1)] [] (en S s6.2) 0 0
    refine pg_aload_n dX12_ticks_30 rfl ?_
    refine pg_aload_n dX12_ticks_31 rfl ?_
    refine eg_get dX12_ticks_32 fa_X12_7 hS sp128 (Nat.le_of_ble_eq_true rfl) (Nat.le_of_ble_eq_true rfl) rfl rfl ?_
    refine pg_iconst 1 dX12_ticks_35 rfl ?_
    refine eg_ialdJ 1 dX12_ticks_36 hS sp129 (Nat.le_of_ble_eq_true rfl) (Nat.le_of_ble_eq_true rfl) rfl (inR_vp rfl) rfl ?_
    refine eg_put dX12_ticks_37 fa_X12_82 hS sp128 (Nat.le_of_ble_eq_true rfl) (Nat.le_of_ble_eq_true rfl) rfl (Nat.le_of_ble_eq_true rfl) rfl (fun m7 e_m7 => ?_)
    replace h := lt_at h e_m7
    refine pg_iconst 0 dX12_ticks_40 rfl ?_
    obtain rfl := Option.some.inj h
    exact hE.2.1 _ _ _ _ _ _ .int dX12_ticks_41 rfl rfl (Nat.zero_le _) (Nat.zero_le _) ⟨rfl, rfl⟩
  · rw [if_pos c2] at h
    refine pg_iconst 1 dX12_ticks_11 rfl ?_
    obtain rfl := Option.some.inj h
    exact hE.2.1 _ _ _ _ _ _ .int dX12_ticks_12 rfl rfl (Nat.zero_le _) (Nat.zero_le _) ⟨rfl, rfl⟩
def f_X12_tick (v1 : Int32) (m0 : me) : Option (Int32 × me) :=
  bd (f_X12_hold m0) (fun r1 =>
  bd (f_X12_ticks v1 r1) (fun r2 =>
  bd (f_X12_done r2.1 r2.2) (fun r3 =>
  some ((r3.1, r3.2)))))
set_option maxRecDepth 20000 in
set_option maxHeartbeats 4000000 in
theorem ct_X12_tick (hfl : g.1.stackTraces = false) (hS : pS 128 137 S) {v1 : Int32} {m0 : me} {x : (Int32 × me)} (h : f_X12_tick v1 m0 = some x) : pm_Ct g mX12_tick [.ref 128, .int v1] (en S m0) 0 0 (qI S x) qF := by
  refine pm_of (by decide +kernel) rfl hfl (Nat.le_of_ble_eq_true rfl) (fun X hE => ?_)
  show pm_G g mX12_tick X 0 [some (.ref 128), some (.int v1)] [] (en S m0) 0 0
  unfold f_X12_tick at h
  refine pg_aload_n dX12_tick_0 rfl ?_
  obtain ⟨r1, h_r1, h⟩ := bd_at h
  refine eg_cVv (C := mX12_hold) (as := []) dX12_tick_1 mw811 cv_X12_hold hS sp128 (Nat.le_of_ble_eq_true rfl) (Nat.le_of_ble_eq_true rfl) rfl rfl rfl (Nat.le_of_ble_eq_true rfl) rfl ⟨(Nat.le_of_ble_eq_true rfl), (Nat.le_of_ble_eq_true rfl)⟩ (ct_X12_hold hfl (hS.sub (Nat.le_of_ble_eq_true rfl) (Nat.le_of_ble_eq_true rfl)) h_r1) ?_
  refine pg_aload_n dX12_tick_4 rfl ?_
  refine pg_aload_n dX12_tick_5 rfl ?_
  refine pg_iload_n dX12_tick_6 rfl ?_
  obtain ⟨r2, h_r2, h⟩ := bd_at h
  refine eg_cVi (C := mX12_ticks) (as := [(.int v1)]) dX12_tick_7 mw892 cv_X12_ticks hS sp128 (Nat.le_of_ble_eq_true rfl) (Nat.le_of_ble_eq_true rfl) rfl rfl rfl (Nat.le_of_ble_eq_true rfl) rfl ⟨(Nat.le_of_ble_eq_true rfl), (Nat.le_of_ble_eq_true rfl)⟩ (ct_X12_ticks hfl (hS.sub (Nat.le_of_ble_eq_true rfl) (Nat.le_of_ble_eq_true rfl)) h_r2) ?_
  obtain ⟨r3, h_r3, h⟩ := bd_at h
  refine eg_cVi (C := mX12_done) (as := [(.int r2.1)]) dX12_tick_10 mw832 cv_X12_done hS sp128 (Nat.le_of_ble_eq_true rfl) (Nat.le_of_ble_eq_true rfl) rfl rfl rfl (Nat.le_of_ble_eq_true rfl) rfl ⟨(Nat.le_of_ble_eq_true rfl), (Nat.le_of_ble_eq_true rfl)⟩ (ct_X12_done hfl (hS.sub (Nat.le_of_ble_eq_true rfl) (Nat.le_of_ble_eq_true rfl)) h_r3) ?_
  obtain rfl := Option.some.inj h
  exact hE.2.1 _ _ _ _ _ _ .int dX12_tick_13 rfl rfl (Nat.zero_le _) (Nat.zero_le _) ⟨rfl, rfl⟩
def f_X12_time (m0 : me) : Option (Int32 × me) :=
  bd (f_X12_tells (m0.1 129 1) m0) (fun r1 =>
  some ((r1.1, r1.2)))
set_option maxRecDepth 20000 in
set_option maxHeartbeats 4000000 in
theorem ct_X12_time (hfl : g.1.stackTraces = false) (hS : pS 128 137 S) {m0 : me} {x : (Int32 × me)} (h : f_X12_time m0 = some x) : pm_Ct g mX12_time [.ref 128] (en S m0) 0 0 (qI S x) qF := by
  refine pm_of (by decide +kernel) rfl hfl (Nat.le_of_ble_eq_true rfl) (fun X hE => ?_)
  show pm_G g mX12_time X 0 [some (.ref 128)] [] (en S m0) 0 0
  unfold f_X12_time at h
  refine pg_aload_n dX12_time_0 rfl ?_
  refine pg_aload_n dX12_time_1 rfl ?_
  refine eg_get dX12_time_2 fa_X12_7 hS sp128 (Nat.le_of_ble_eq_true rfl) (Nat.le_of_ble_eq_true rfl) rfl rfl ?_
  refine pg_iconst 1 dX12_time_5 rfl ?_
  refine eg_ialdJ 1 dX12_time_6 hS sp129 (Nat.le_of_ble_eq_true rfl) (Nat.le_of_ble_eq_true rfl) rfl (inR_vp rfl) rfl ?_
  obtain ⟨r1, h_r1, h⟩ := bd_at h
  refine eg_cVi (C := mX12_tells) (as := [(.int (m0.1 129 1))]) dX12_time_7 mw822 cv_X12_tells hS sp128 (Nat.le_of_ble_eq_true rfl) (Nat.le_of_ble_eq_true rfl) rfl rfl rfl (Nat.le_of_ble_eq_true rfl) rfl ⟨(Nat.le_of_ble_eq_true rfl), (Nat.le_of_ble_eq_true rfl)⟩ (ct_X12_tells hfl (hS.sub (Nat.le_of_ble_eq_true rfl) (Nat.le_of_ble_eq_true rfl)) h_r1) ?_
  obtain rfl := Option.some.inj h
  exact hE.2.1 _ _ _ _ _ _ .int dX12_time_10 rfl rfl (Nat.zero_le _) (Nat.zero_le _) ⟨rfl, rfl⟩
def f_X12_learns (v1 : Int32) (v2 : Int32) (v3 : Int32) (m0 : me) : Option me :=
  gd (inR ((51 + (16 * v1)) + (2 * v2)) 487) (
  lt (wI m0 129 (((51 + (16 * v1)) + (2 * v2)).toNatClampNeg) v3) (fun m1 =>
  gd (inR (((51 + (16 * v1)) + (2 * v2)) + 1) 487) (
  lt (wI m1 129 ((((51 + (16 * v1)) + (2 * v2)) + 1).toNatClampNeg) (m1.1 129 1)) (fun m2 =>
  some (m2)))))
set_option maxRecDepth 20000 in
set_option maxHeartbeats 4000000 in
theorem ct_X12_learns (hfl : g.1.stackTraces = false) (hS : pS 128 137 S) {v1 : Int32} {v2 : Int32} {v3 : Int32} {m0 : me} {x : me} (h : f_X12_learns v1 v2 v3 m0 = some x) : pm_Ct g mX12_learns [.ref 128, .int v1, .int v2, .int v3] (en S m0) 0 0 (qV S x) qF := by
  refine pm_of (by decide +kernel) rfl hfl (Nat.le_of_ble_eq_true rfl) (fun X hE => ?_)
  show pm_G g mX12_learns X 0 [some (.ref 128), some (.int v1), some (.int v2), some (.int v3)] [] (en S m0) 0 0
  unfold f_X12_learns at h
  refine pg_aload_n dX12_learns_0 rfl ?_
  refine eg_get dX12_learns_1 fa_X12_7 hS sp128 (Nat.le_of_ble_eq_true rfl) (Nat.le_of_ble_eq_true rfl) rfl rfl ?_
  refine pg_bipush 51 dX12_learns_4 rfl ?_
  refine pg_bipush 16 dX12_learns_6 rfl ?_
  refine pg_iload_n dX12_learns_8 rfl ?_
  refine pg_imul dX12_learns_9 ?_
  refine pg_iadd dX12_learns_10 ?_
  refine pg_iconst 2 dX12_learns_11 rfl ?_
  refine pg_iload_n dX12_learns_12 rfl ?_
  refine pg_imul dX12_learns_13 ?_
  refine pg_iadd dX12_learns_14 ?_
  refine pg_iload_n dX12_learns_15 rfl ?_
  obtain ⟨g1, h⟩ := gd_at h
  refine eg_iastJ (((51 + (16 * v1)) + (2 * v2)).toNatClampNeg) dX12_learns_16 hS sp129 (Nat.le_of_ble_eq_true rfl) (Nat.le_of_ble_eq_true rfl) (fun _ _ _ => rfl) (inR_vp g1) rfl (fun m1 e_m1 => ?_)
  replace h := lt_at h e_m1
  refine pg_aload_n dX12_learns_17 rfl ?_
  refine eg_get dX12_learns_18 fa_X12_7 hS sp128 (Nat.le_of_ble_eq_true rfl) (Nat.le_of_ble_eq_true rfl) rfl rfl ?_
  refine pg_bipush 51 dX12_learns_21 rfl ?_
  refine pg_bipush 16 dX12_learns_23 rfl ?_
  refine pg_iload_n dX12_learns_25 rfl ?_
  refine pg_imul dX12_learns_26 ?_
  refine pg_iadd dX12_learns_27 ?_
  refine pg_iconst 2 dX12_learns_28 rfl ?_
  refine pg_iload_n dX12_learns_29 rfl ?_
  refine pg_imul dX12_learns_30 ?_
  refine pg_iadd dX12_learns_31 ?_
  refine pg_iconst 1 dX12_learns_32 rfl ?_
  refine pg_iadd dX12_learns_33 ?_
  refine pg_aload_n dX12_learns_34 rfl ?_
  refine eg_get dX12_learns_35 fa_X12_7 hS sp128 (Nat.le_of_ble_eq_true rfl) (Nat.le_of_ble_eq_true rfl) rfl rfl ?_
  refine pg_iconst 1 dX12_learns_38 rfl ?_
  refine eg_ialdJ 1 dX12_learns_39 hS sp129 (Nat.le_of_ble_eq_true rfl) (Nat.le_of_ble_eq_true rfl) rfl (inR_vp rfl) rfl ?_
  obtain ⟨g1, h⟩ := gd_at h
  refine eg_iastJ ((((51 + (16 * v1)) + (2 * v2)) + 1).toNatClampNeg) dX12_learns_40 hS sp129 (Nat.le_of_ble_eq_true rfl) (Nat.le_of_ble_eq_true rfl) (fun _ _ _ => rfl) (inR_vp g1) rfl (fun m2 e_m2 => ?_)
  replace h := lt_at h e_m2
  obtain rfl := Option.some.inj h
  exact hE.2.2.1 _ _ _ _ _ dX12_learns_41 rfl (Nat.zero_le _) (Nat.zero_le _) ⟨rfl, rfl⟩
end
