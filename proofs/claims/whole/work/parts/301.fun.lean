section
variable {g : pm_Gl} {X : pm_X} {S : List sF}
def f_X12_prioritizes (v1 : Int32) (v2 : Int32) (m0 : me) : Option (Int32 × me) :=
  bd (f_X12_isBridge v1 m0) (fun r1 =>
  if r1.1 = 0 then
    some ((1, r1.2))
  else
    bd (f_X12_in v2 0 9 r1.2) (fun r3 =>
    if r3.1 = 0 then
      some ((2, r3.2))
    else
      gd (inR (11 + (5 * v1)) 487) (
      lt (wI r3.2 128 7 (r3.2.1 129 ((11 + (5 * v1)).toNatClampNeg))) (fun m5 =>
      gd (inR (11 + (5 * v1)) 487) (
      lt (wI m5 129 ((11 + (5 * v1)).toNatClampNeg) v2) (fun m6 =>
      bd (f_X12_startsAnew v1 m6) (fun r7 =>
      some ((0, r7)))))))))
set_option maxRecDepth 20000 in
set_option maxHeartbeats 4000000 in
theorem ct_X12_prioritizes (hfl : g.1.stackTraces = false) (hS : pS 128 137 S) {v1 : Int32} {v2 : Int32} {m0 : me} {x : (Int32 × me)} (h : f_X12_prioritizes v1 v2 m0 = some x) : pm_Ct g mX12_prioritizes [.ref 128, .int v1, .int v2] (en S m0) 0 0 (qI S x) qF := by
  refine pm_of (by decide +kernel) rfl hfl (Nat.le_of_ble_eq_true rfl) (fun X hE => ?_)
  show pm_G g mX12_prioritizes X 0 [some (.ref 128), some (.int v1), some (.int v2)] [] (en S m0) 0 0
  unfold f_X12_prioritizes at h
  refine pg_aload_n dX12_prioritizes_0 rfl ?_
  refine pg_iload_n dX12_prioritizes_1 rfl ?_
  obtain ⟨r1, h_r1, h⟩ := bd_at h
  refine eg_cVi (C := mX12_isBridge) (as := [(.int v1)]) dX12_prioritizes_2 mw837 cv_X12_isBridge hS sp128 (Nat.le_of_ble_eq_true rfl) (Nat.le_of_ble_eq_true rfl) rfl rfl rfl (Nat.le_of_ble_eq_true rfl) rfl ⟨(Nat.le_of_ble_eq_true rfl), (Nat.le_of_ble_eq_true rfl)⟩ (ct_X12_isBridge hfl (hS.sub (Nat.le_of_ble_eq_true rfl) (Nat.le_of_ble_eq_true rfl)) h_r1) ?_
  refine pg_if_ne 10 dX12_prioritizes_5 (by decide) (fun c2 => ?_) (fun c2 => ?_)
  · rw [if_neg c2] at h
    refine pg_iload_n dX12_prioritizes_10 rfl ?_
    refine pg_iconst 0 dX12_prioritizes_11 rfl ?_
    refine pg_bipush 9 dX12_prioritizes_12 rfl ?_
    obtain ⟨r3, h_r3, h⟩ := bd_at h
    refine eg_cSi (C := mX12_in) (as := [(.int v2), (.int 0), (.int 9)]) dX12_prioritizes_14 mw786 cs_X12_in rfl rfl (Nat.le_of_ble_eq_true rfl) rfl ⟨(Nat.le_of_ble_eq_true rfl), (Nat.le_of_ble_eq_true rfl)⟩ (ct_X12_in hfl h_r3) ?_
    refine pg_if_ne 22 dX12_prioritizes_17 (by decide) (fun c4 => ?_) (fun c4 => ?_)
    · rw [if_neg c4] at h
      refine pg_aload_n dX12_prioritizes_22 rfl ?_
      refine pg_aload_n dX12_prioritizes_23 rfl ?_
      refine eg_get dX12_prioritizes_24 fa_X12_7 hS sp128 (Nat.le_of_ble_eq_true rfl) (Nat.le_of_ble_eq_true rfl) rfl rfl ?_
      refine pg_bipush 11 dX12_prioritizes_27 rfl ?_
      refine pg_iconst 5 dX12_prioritizes_29 rfl ?_
      refine pg_iload_n dX12_prioritizes_30 rfl ?_
      refine pg_imul dX12_prioritizes_31 ?_
      refine pg_iadd dX12_prioritizes_32 ?_
      obtain ⟨g1, h⟩ := gd_at h
      refine eg_ialdJ ((11 + (5 * v1)).toNatClampNeg) dX12_prioritizes_33 hS sp129 (Nat.le_of_ble_eq_true rfl) (Nat.le_of_ble_eq_true rfl) rfl (inR_vp g1) rfl ?_
      refine eg_put dX12_prioritizes_34 fa_X12_82 hS sp128 (Nat.le_of_ble_eq_true rfl) (Nat.le_of_ble_eq_true rfl) rfl (Nat.le_of_ble_eq_true rfl) rfl (fun m5 e_m5 => ?_)
      replace h := lt_at h e_m5
      refine pg_aload_n dX12_prioritizes_37 rfl ?_
      refine eg_get dX12_prioritizes_38 fa_X12_7 hS sp128 (Nat.le_of_ble_eq_true rfl) (Nat.le_of_ble_eq_true rfl) rfl rfl ?_
      refine pg_bipush 11 dX12_prioritizes_41 rfl ?_
      refine pg_iconst 5 dX12_prioritizes_43 rfl ?_
      refine pg_iload_n dX12_prioritizes_44 rfl ?_
      refine pg_imul dX12_prioritizes_45 ?_
      refine pg_iadd dX12_prioritizes_46 ?_
      refine pg_iload_n dX12_prioritizes_47 rfl ?_
      obtain ⟨g1, h⟩ := gd_at h
      refine eg_iastJ ((11 + (5 * v1)).toNatClampNeg) dX12_prioritizes_48 hS sp129 (Nat.le_of_ble_eq_true rfl) (Nat.le_of_ble_eq_true rfl) (fun _ _ _ => rfl) (inR_vp g1) rfl (fun m6 e_m6 => ?_)
      replace h := lt_at h e_m6
      refine pg_aload_n dX12_prioritizes_49 rfl ?_
      refine pg_iload_n dX12_prioritizes_50 rfl ?_
      obtain ⟨r7, h_r7, h⟩ := bd_at h
      refine eg_cVv (C := mX12_startsAnew) (as := [(.int v1)]) dX12_prioritizes_51 mw790 cv_X12_startsAnew hS sp128 (Nat.le_of_ble_eq_true rfl) (Nat.le_of_ble_eq_true rfl) rfl rfl rfl (Nat.le_of_ble_eq_true rfl) rfl ⟨(Nat.le_of_ble_eq_true rfl), (Nat.le_of_ble_eq_true rfl)⟩ (ct_X12_startsAnew hfl (hS.sub (Nat.le_of_ble_eq_true rfl) (Nat.le_of_ble_eq_true rfl)) h_r7) ?_
      refine pg_iconst 0 dX12_prioritizes_54 rfl ?_
      obtain rfl := Option.some.inj h
      exact hE.2.1 _ _ _ _ _ _ .int dX12_prioritizes_55 rfl rfl (Nat.zero_le _) (Nat.zero_le _) ⟨rfl, rfl⟩
    · rw [if_pos c4] at h
      refine pg_iconst 2 dX12_prioritizes_20 rfl ?_
      obtain rfl := Option.some.inj h
      exact hE.2.1 _ _ _ _ _ _ .int dX12_prioritizes_21 rfl rfl (Nat.zero_le _) (Nat.zero_le _) ⟨rfl, rfl⟩
  · rw [if_pos c2] at h
    refine pg_iconst 1 dX12_prioritizes_8 rfl ?_
    obtain rfl := Option.some.inj h
    exact hE.2.1 _ _ _ _ _ _ .int dX12_prioritizes_9 rfl rfl (Nat.zero_le _) (Nat.zero_le _) ⟨rfl, rfl⟩
def f_X12_done (v1 : Int32) (m0 : me) : Option (Int32 × me) :=
  if v1 ≤ 0 then
    bd (f_X12_ends (m0.1 128 7) m0) (fun r2 =>
    some ((r2.1, r2.2)))
  else
    bd (f_X12_fails v1 m0) (fun r3 =>
    some ((r3.1, r3.2)))
set_option maxRecDepth 20000 in
set_option maxHeartbeats 4000000 in
theorem ct_X12_done (hfl : g.1.stackTraces = false) (hS : pS 128 137 S) {v1 : Int32} {m0 : me} {x : (Int32 × me)} (h : f_X12_done v1 m0 = some x) : pm_Ct g mX12_done [.ref 128, .int v1] (en S m0) 0 0 (qI S x) qF := by
  refine pm_of (by decide +kernel) rfl hfl (Nat.le_of_ble_eq_true rfl) (fun X hE => ?_)
  show pm_G g mX12_done X 0 [some (.ref 128), some (.int v1)] [] (en S m0) 0 0
  unfold f_X12_done at h
  refine pg_iload_n dX12_done_0 rfl ?_
  refine pg_if_le 12 dX12_done_1 (by decide) (fun c1 => ?_) (fun c1 => ?_)
  · rw [if_pos c1] at h
    refine pg_aload_n dX12_done_12 rfl ?_
    refine pg_aload_n dX12_done_13 rfl ?_
    refine eg_get dX12_done_14 fa_X12_82 hS sp128 (Nat.le_of_ble_eq_true rfl) (Nat.le_of_ble_eq_true rfl) rfl rfl ?_
    obtain ⟨r2, h_r2, h⟩ := bd_at h
    refine eg_cVi (C := mX12_ends) (as := [(.int (m0.1 128 7))]) dX12_done_17 mw816 cv_X12_ends hS sp128 (Nat.le_of_ble_eq_true rfl) (Nat.le_of_ble_eq_true rfl) rfl rfl rfl (Nat.le_of_ble_eq_true rfl) rfl ⟨(Nat.le_of_ble_eq_true rfl), (Nat.le_of_ble_eq_true rfl)⟩ (ct_X12_ends hfl (hS.sub (Nat.le_of_ble_eq_true rfl) (Nat.le_of_ble_eq_true rfl)) h_r2) ?_
    obtain rfl := Option.some.inj h
    exact hE.2.1 _ _ _ _ _ _ .int dX12_done_20 rfl rfl (Nat.zero_le _) (Nat.zero_le _) ⟨rfl, rfl⟩
  · rw [if_neg c1] at h
    refine pg_aload_n dX12_done_4 rfl ?_
    refine pg_iload_n dX12_done_5 rfl ?_
    obtain ⟨r3, h_r3, h⟩ := bd_at h
    refine eg_cVi (C := mX12_fails) (as := [(.int v1)]) dX12_done_6 mw806 cv_X12_fails hS sp128 (Nat.le_of_ble_eq_true rfl) (Nat.le_of_ble_eq_true rfl) rfl rfl rfl (Nat.le_of_ble_eq_true rfl) rfl ⟨(Nat.le_of_ble_eq_true rfl), (Nat.le_of_ble_eq_true rfl)⟩ (ct_X12_fails hfl (hS.sub (Nat.le_of_ble_eq_true rfl) (Nat.le_of_ble_eq_true rfl)) h_r3) ?_
    refine pg_goto 20 dX12_done_9 (by decide) ?_
    obtain rfl := Option.some.inj h
    exact hE.2.1 _ _ _ _ _ _ .int dX12_done_20 rfl rfl (Nat.zero_le _) (Nat.zero_le _) ⟨rfl, rfl⟩
def f_X12_setPriority (v1 : Int32) (v2 : Int32) (m0 : me) : Option (Int32 × me) :=
  bd (f_X12_hold m0) (fun r1 =>
  bd (f_X12_prioritizes v1 v2 r1) (fun r2 =>
  bd (f_X12_done r2.1 r2.2) (fun r3 =>
  some ((r3.1, r3.2)))))
set_option maxRecDepth 20000 in
set_option maxHeartbeats 4000000 in
theorem ct_X12_setPriority (hfl : g.1.stackTraces = false) (hS : pS 128 137 S) {v1 : Int32} {v2 : Int32} {m0 : me} {x : (Int32 × me)} (h : f_X12_setPriority v1 v2 m0 = some x) : pm_Ct g mX12_setPriority [.ref 128, .int v1, .int v2] (en S m0) 0 0 (qI S x) qF := by
  refine pm_of (by decide +kernel) rfl hfl (Nat.le_of_ble_eq_true rfl) (fun X hE => ?_)
  show pm_G g mX12_setPriority X 0 [some (.ref 128), some (.int v1), some (.int v2)] [] (en S m0) 0 0
  unfold f_X12_setPriority at h
  refine pg_aload_n dX12_setPriority_0 rfl ?_
  obtain ⟨r1, h_r1, h⟩ := bd_at h
  refine eg_cVv (C := mX12_hold) (as := []) dX12_setPriority_1 mw811 cv_X12_hold hS sp128 (Nat.le_of_ble_eq_true rfl) (Nat.le_of_ble_eq_true rfl) rfl rfl rfl (Nat.le_of_ble_eq_true rfl) rfl ⟨(Nat.le_of_ble_eq_true rfl), (Nat.le_of_ble_eq_true rfl)⟩ (ct_X12_hold hfl (hS.sub (Nat.le_of_ble_eq_true rfl) (Nat.le_of_ble_eq_true rfl)) h_r1) ?_
  refine pg_aload_n dX12_setPriority_4 rfl ?_
  refine pg_aload_n dX12_setPriority_5 rfl ?_
  refine pg_iload_n dX12_setPriority_6 rfl ?_
  refine pg_iload_n dX12_setPriority_7 rfl ?_
  obtain ⟨r2, h_r2, h⟩ := bd_at h
  refine eg_cVi (C := mX12_prioritizes) (as := [(.int v1), (.int v2)]) dX12_setPriority_8 mw827 cv_X12_prioritizes hS sp128 (Nat.le_of_ble_eq_true rfl) (Nat.le_of_ble_eq_true rfl) rfl rfl rfl (Nat.le_of_ble_eq_true rfl) rfl ⟨(Nat.le_of_ble_eq_true rfl), (Nat.le_of_ble_eq_true rfl)⟩ (ct_X12_prioritizes hfl (hS.sub (Nat.le_of_ble_eq_true rfl) (Nat.le_of_ble_eq_true rfl)) h_r2) ?_
  obtain ⟨r3, h_r3, h⟩ := bd_at h
  refine eg_cVi (C := mX12_done) (as := [(.int r2.1)]) dX12_setPriority_11 mw832 cv_X12_done hS sp128 (Nat.le_of_ble_eq_true rfl) (Nat.le_of_ble_eq_true rfl) rfl rfl rfl (Nat.le_of_ble_eq_true rfl) rfl ⟨(Nat.le_of_ble_eq_true rfl), (Nat.le_of_ble_eq_true rfl)⟩ (ct_X12_done hfl (hS.sub (Nat.le_of_ble_eq_true rfl) (Nat.le_of_ble_eq_true rfl)) h_r3) ?_
  obtain rfl := Option.some.inj h
  exact hE.2.1 _ _ _ _ _ _ .int dX12_setPriority_14 rfl rfl (Nat.zero_le _) (Nat.zero_le _) ⟨rfl, rfl⟩
def f_X12_puts (v1 : Int32) (v2 : Int32) (v3 : Int32) (m0 : me) : Option me :=
  gd (inR ((199 + (18 * v1)) + v2) 487) (
  lt (wI m0 129 (((199 + (18 * v1)) + v2).toNatClampNeg) v3) (fun m1 =>
  some (m1)))
set_option maxRecDepth 20000 in
set_option maxHeartbeats 4000000 in
theorem ct_X12_puts (hfl : g.1.stackTraces = false) (hS : pS 128 137 S) {v1 : Int32} {v2 : Int32} {v3 : Int32} {m0 : me} {x : me} (h : f_X12_puts v1 v2 v3 m0 = some x) : pm_Ct g mX12_puts [.ref 128, .int v1, .int v2, .int v3] (en S m0) 0 0 (qV S x) qF := by
  refine pm_of (by decide +kernel) rfl hfl (Nat.le_of_ble_eq_true rfl) (fun X hE => ?_)
  show pm_G g mX12_puts X 0 [some (.ref 128), some (.int v1), some (.int v2), some (.int v3)] [] (en S m0) 0 0
  unfold f_X12_puts at h
  refine pg_aload_n dX12_puts_0 rfl ?_
  refine eg_get dX12_puts_1 fa_X12_7 hS sp128 (Nat.le_of_ble_eq_true rfl) (Nat.le_of_ble_eq_true rfl) rfl rfl ?_
  refine pg_sipush 199 dX12_puts_4 rfl ?_
  refine pg_bipush 18 dX12_puts_7 rfl ?_
  refine pg_iload_n dX12_puts_9 rfl ?_
  refine pg_imul dX12_puts_10 ?_
  refine pg_iadd dX12_puts_11 ?_
  refine pg_iload_n dX12_puts_12 rfl ?_
  refine pg_iadd dX12_puts_13 ?_
  refine pg_iload_n dX12_puts_14 rfl ?_
  obtain ⟨g1, h⟩ := gd_at h
  refine eg_iastJ (((199 + (18 * v1)) + v2).toNatClampNeg) dX12_puts_15 hS sp129 (Nat.le_of_ble_eq_true rfl) (Nat.le_of_ble_eq_true rfl) (fun _ _ _ => rfl) (inR_vp g1) rfl (fun m1 e_m1 => ?_)
  replace h := lt_at h e_m1
  obtain rfl := Option.some.inj h
  exact hE.2.2.1 _ _ _ _ _ dX12_puts_16 rfl (Nat.zero_le _) (Nat.zero_le _) ⟨rfl, rfl⟩
def b_X12_joins_71 (v1 : Int32) (v2 : Int32) (v3 : Int32) (s : Int32 × me) : Option ((Int32 × me) ⊕ (Int32 × me)) :=
  if 18 ≤ s.1 then
    some (.inr (s.1, s.2))
  else
    bd (f_X12_puts (s.2.1 128 7) s.1 0 s.2) (fun r12 =>
    lt (s.1 + 1) (fun w13 =>
    some (.inl (w13, r12))))
def j_X12_joins_130 (v3 : Int32) (u1 : Int32) (u2 : Int32) (u3 : Int32) (m0 : me) : Option (Int32 × me) :=
  bd (f_X12_puts u1 u2 u3 m0) (fun r18 =>
  bd (f_X12_puts (r18.1 128 7) 2 v3 r18) (fun r19 =>
  bd (f_X12_puts (r19.1 128 7) 3 v3 r19) (fun r20 =>
  bd (f_X12_puts (r20.1 128 7) 4 1 r20) (fun r21 =>
  bd (f_X12_puts (r21.1 128 7) 5 (-1) r21) (fun r22 =>
  bd (f_X12_puts (r22.1 128 7) 8 2 r22) (fun r23 =>
  bd (f_X12_puts (r23.1 128 7) 11 2 r23) (fun r24 =>
  some ((0, r24)))))))))
def j_X12_joins_111 (v1 : Int32) (v2 : Int32) (v3 : Int32) (u1 : Int32) (u2 : Int32) (u3 : Int32) (m0 : me) : Option (Int32 × me) :=
  bd (f_X12_puts u1 u2 u3 m0) (fun r16 =>
  if v2 ≤ v1 then
    j_X12_joins_130 v3 (r16.1 128 7) 1 v1 r16
  else
    j_X12_joins_130 v3 (r16.1 128 7) 1 v2 r16)
def f_X12_joins (v1 : Int32) (v2 : Int32) (v3 : Int32) (m0 : me) : Option (Int32 × me) :=
  bd (f_X12_isBridge v1 m0) (fun r1 =>
  if r1.1 = 0 then
    some ((1, r1.2))
  else
    bd (f_X12_isBridge v2 r1.2) (fun r3 =>
    if r3.1 = 0 then
      some ((1, r3.2))
    else
      if v1 = v2 then
        some ((2, r3.2))
      else
        bd (f_X12_in v3 1 100 r3.2) (fun r6 =>
        if r6.1 = 0 then
          some ((2, r6.2))
        else
          if (r6.2.1 129 5) = 16 then
            some ((3, r6.2))
          else
            lt (wI r6.2 128 7 (r6.2.1 129 5)) (fun m9 =>
            lt (wI m9 129 5 ((m9.1 129 5) + 1)) (fun m10 =>
            bd (lo (b_X12_joins_71 v1 v2 v3) 2048 (0, m10)) (fun s14 =>
            if v2 ≤ v1 then
              j_X12_joins_111 v1 v2 v3 (s14.2.1 128 7) 0 v2 s14.2
            else
              j_X12_joins_111 v1 v2 v3 (s14.2.1 128 7) 0 v1 s14.2))))))
set_option maxRecDepth 20000 in
set_option maxHeartbeats 4000000 in
theorem lb_X12_joins_71 (hfl : g.1.stackTraces = false) (hS : pS 128 137 S) {v1 : Int32} {v2 : Int32} {v3 : Int32} {s : Int32 × me} {r : (Int32 × me) ⊕ (Int32 × me)} (h : b_X12_joins_71 v1 v2 v3 s = some r) (hN : ∀ s', r = .inl s' → (fun z9 : Int32 × me => pm_G g mX12_joins X 71 [some (.ref 128), some (.int v1), some (.int v2), some (.int v3), some (.int z9.1)] [] (en S z9.2) 0 0) s') (hT : ∀ t, r = .inr t → (fun z9 : Int32 × me => pm_G g mX12_joins X 95 [some (.ref 128), some (.int v1), some (.int v2), some (.int v3), some (.int z9.1)] [] (en S z9.2) 0 0) t) : (fun z9 : Int32 × me => pm_G g mX12_joins X 71 [some (.ref 128), some (.int v1), some (.int v2), some (.int v3), some (.int z9.1)] [] (en S z9.2) 0 0) s := by
  unfold b_X12_joins_71 at h
  show pm_G g mX12_joins X 71 [some (.ref 128), some (.int v1), some (.int v2), some (.int v3), some (.int s.1)] [] (en S s.2) 0 0
  refine pg_iload dX12_joins_71 rfl ?_
  refine pg_bipush 18 dX12_joins_73 rfl ?_
  refine pg_icmp_ge 95 dX12_joins_75 (by decide) (fun c11 => ?_) (fun c11 => ?_)
  · rw [if_pos c11] at h
    obtain rfl := Option.some.inj h
    exact hT _ rfl
  · rw [if_neg c11] at h
    refine pg_aload_n dX12_joins_78 rfl ?_
    refine pg_aload_n dX12_joins_79 rfl ?_
    refine eg_get dX12_joins_80 fa_X12_82 hS sp128 (Nat.le_of_ble_eq_true rfl) (Nat.le_of_ble_eq_true rfl) rfl rfl ?_
    refine pg_iload dX12_joins_83 rfl ?_
    refine pg_iconst 0 dX12_joins_85 rfl ?_
    obtain ⟨r12, h_r12, h⟩ := bd_at h
    refine eg_cVv (C := mX12_puts) (as := [(.int (s.2.1 128 7)), (.int s.1), (.int 0)]) dX12_joins_86 mw848 cv_X12_puts hS sp128 (Nat.le_of_ble_eq_true rfl) (Nat.le_of_ble_eq_true rfl) rfl rfl rfl (Nat.le_of_ble_eq_true rfl) rfl ⟨(Nat.le_of_ble_eq_true rfl), (Nat.le_of_ble_eq_true rfl)⟩ (ct_X12_puts hfl (hS.sub (Nat.le_of_ble_eq_true rfl) (Nat.le_of_ble_eq_true rfl)) h_r12) ?_
    obtain ⟨w13, e_w13⟩ : ∃ z : Int32, z = s.1 + 1 := ⟨_, rfl⟩
    replace h := lt_at h e_w13
    refine eg_iinc [some (.ref 128), some (.int v1), some (.int v2), some (.int v3), some (.int w13)] w13 1 dX12_joins_89 rfl rfl e_w13 rfl ?_
    refine pg_goto 71 dX12_joins_92 (by decide) ?_
    obtain rfl := Option.some.inj h
    exact hN _ rfl
set_option maxRecDepth 20000 in
set_option maxHeartbeats 4000000 in
theorem lj_X12_joins_130 (hfl : g.1.stackTraces = false) (hS : pS 128 137 S) {v3 : Int32} {u1 : Int32} {u2 : Int32} {u3 : Int32} {m0 : me} {r : (Int32 × me)} (h : j_X12_joins_130 v3 u1 u2 u3 m0 = some r) (hE : pm_End g mX12_joins X 0 0 (qI S r) qF) : pm_G g mX12_joins X 130 [some (.ref 128), none, none, some (.int v3), none] [(.int u3), (.int u2), (.int u1), (.ref 128)] (en S m0) 0 0 := by
  unfold j_X12_joins_130 at h
  obtain ⟨r18, h_r18, h⟩ := bd_at h
  refine eg_cVv (C := mX12_puts) (as := [(.int u1), (.int u2), (.int u3)]) dX12_joins_130 mw848 cv_X12_puts hS sp128 (Nat.le_of_ble_eq_true rfl) (Nat.le_of_ble_eq_true rfl) rfl rfl rfl (Nat.le_of_ble_eq_true rfl) rfl ⟨(Nat.le_of_ble_eq_true rfl), (Nat.le_of_ble_eq_true rfl)⟩ (ct_X12_puts hfl (hS.sub (Nat.le_of_ble_eq_true rfl) (Nat.le_of_ble_eq_true rfl)) h_r18) ?_
  refine pg_aload_n dX12_joins_133 rfl ?_
  refine pg_aload_n dX12_joins_134 rfl ?_
  refine eg_get dX12_joins_135 fa_X12_82 hS sp128 (Nat.le_of_ble_eq_true rfl) (Nat.le_of_ble_eq_true rfl) rfl rfl ?_
  refine pg_iconst 2 dX12_joins_138 rfl ?_
  refine pg_iload_n dX12_joins_139 rfl ?_
  obtain ⟨r19, h_r19, h⟩ := bd_at h
  refine eg_cVv (C := mX12_puts) (as := [(.int (r18.1 128 7)), (.int 2), (.int v3)]) dX12_joins_140 mw848 cv_X12_puts hS sp128 (Nat.le_of_ble_eq_true rfl) (Nat.le_of_ble_eq_true rfl) rfl rfl rfl (Nat.le_of_ble_eq_true rfl) rfl ⟨(Nat.le_of_ble_eq_true rfl), (Nat.le_of_ble_eq_true rfl)⟩ (ct_X12_puts hfl (hS.sub (Nat.le_of_ble_eq_true rfl) (Nat.le_of_ble_eq_true rfl)) h_r19) ?_
  refine pg_aload_n dX12_joins_143 rfl ?_
  refine pg_aload_n dX12_joins_144 rfl ?_
  refine eg_get dX12_joins_145 fa_X12_82 hS sp128 (Nat.le_of_ble_eq_true rfl) (Nat.le_of_ble_eq_true rfl) rfl rfl ?_
  refine pg_iconst 3 dX12_joins_148 rfl ?_
  refine pg_iload_n dX12_joins_149 rfl ?_
  obtain ⟨r20, h_r20, h⟩ := bd_at h
  refine eg_cVv (C := mX12_puts) (as := [(.int (r19.1 128 7)), (.int 3), (.int v3)]) dX12_joins_150 mw848 cv_X12_puts hS sp128 (Nat.le_of_ble_eq_true rfl) (Nat.le_of_ble_eq_true rfl) rfl rfl rfl (Nat.le_of_ble_eq_true rfl) rfl ⟨(Nat.le_of_ble_eq_true rfl), (Nat.le_of_ble_eq_true rfl)⟩ (ct_X12_puts hfl (hS.sub (Nat.le_of_ble_eq_true rfl) (Nat.le_of_ble_eq_true rfl)) h_r20) ?_
  refine pg_aload_n dX12_joins_153 rfl ?_
  refine pg_aload_n dX12_joins_154 rfl ?_
  refine eg_get dX12_joins_155 fa_X12_82 hS sp128 (Nat.le_of_ble_eq_true rfl) (Nat.le_of_ble_eq_true rfl) rfl rfl ?_
  refine pg_iconst 4 dX12_joins_158 rfl ?_
  refine pg_iconst 1 dX12_joins_159 rfl ?_
  obtain ⟨r21, h_r21, h⟩ := bd_at h
  refine eg_cVv (C := mX12_puts) (as := [(.int (r20.1 128 7)), (.int 4), (.int 1)]) dX12_joins_160 mw848 cv_X12_puts hS sp128 (Nat.le_of_ble_eq_true rfl) (Nat.le_of_ble_eq_true rfl) rfl rfl rfl (Nat.le_of_ble_eq_true rfl) rfl ⟨(Nat.le_of_ble_eq_true rfl), (Nat.le_of_ble_eq_true rfl)⟩ (ct_X12_puts hfl (hS.sub (Nat.le_of_ble_eq_true rfl) (Nat.le_of_ble_eq_true rfl)) h_r21) ?_
  refine pg_aload_n dX12_joins_163 rfl ?_
  refine pg_aload_n dX12_joins_164 rfl ?_
  refine eg_get dX12_joins_165 fa_X12_82 hS sp128 (Nat.le_of_ble_eq_true rfl) (Nat.le_of_ble_eq_true rfl) rfl rfl ?_
  refine pg_iconst 5 dX12_joins_168 rfl ?_
  refine pg_iconst (-1) dX12_joins_169 rfl ?_
  obtain ⟨r22, h_r22, h⟩ := bd_at h
  refine eg_cVv (C := mX12_puts) (as := [(.int (r21.1 128 7)), (.int 5), (.int (-1))]) dX12_joins_170 mw848 cv_X12_puts hS sp128 (Nat.le_of_ble_eq_true rfl) (Nat.le_of_ble_eq_true rfl) rfl rfl rfl (Nat.le_of_ble_eq_true rfl) rfl ⟨(Nat.le_of_ble_eq_true rfl), (Nat.le_of_ble_eq_true rfl)⟩ (ct_X12_puts hfl (hS.sub (Nat.le_of_ble_eq_true rfl) (Nat.le_of_ble_eq_true rfl)) h_r22) ?_
  refine pg_aload_n dX12_joins_173 rfl ?_
  refine pg_aload_n dX12_joins_174 rfl ?_
  refine eg_get dX12_joins_175 fa_X12_82 hS sp128 (Nat.le_of_ble_eq_true rfl) (Nat.le_of_ble_eq_true rfl) rfl rfl ?_
  refine pg_bipush 8 dX12_joins_178 rfl ?_
  refine pg_iconst 2 dX12_joins_180 rfl ?_
  obtain ⟨r23, h_r23, h⟩ := bd_at h
  refine eg_cVv (C := mX12_puts) (as := [(.int (r22.1 128 7)), (.int 8), (.int 2)]) dX12_joins_181 mw848 cv_X12_puts hS sp128 (Nat.le_of_ble_eq_true rfl) (Nat.le_of_ble_eq_true rfl) rfl rfl rfl (Nat.le_of_ble_eq_true rfl) rfl ⟨(Nat.le_of_ble_eq_true rfl), (Nat.le_of_ble_eq_true rfl)⟩ (ct_X12_puts hfl (hS.sub (Nat.le_of_ble_eq_true rfl) (Nat.le_of_ble_eq_true rfl)) h_r23) ?_
  refine pg_aload_n dX12_joins_184 rfl ?_
  refine pg_aload_n dX12_joins_185 rfl ?_
  refine eg_get dX12_joins_186 fa_X12_82 hS sp128 (Nat.le_of_ble_eq_true rfl) (Nat.le_of_ble_eq_true rfl) rfl rfl ?_
  refine pg_bipush 11 dX12_joins_189 rfl ?_
  refine pg_iconst 2 dX12_joins_191 rfl ?_
  obtain ⟨r24, h_r24, h⟩ := bd_at h
  refine eg_cVv (C := mX12_puts) (as := [(.int (r23.1 128 7)), (.int 11), (.int 2)]) dX12_joins_192 mw848 cv_X12_puts hS sp128 (Nat.le_of_ble_eq_true rfl) (Nat.le_of_ble_eq_true rfl) rfl rfl rfl (Nat.le_of_ble_eq_true rfl) rfl ⟨(Nat.le_of_ble_eq_true rfl), (Nat.le_of_ble_eq_true rfl)⟩ (ct_X12_puts hfl (hS.sub (Nat.le_of_ble_eq_true rfl) (Nat.le_of_ble_eq_true rfl)) h_r24) ?_
  refine pg_iconst 0 dX12_joins_195 rfl ?_
  obtain rfl := Option.some.inj h
  exact hE.2.1 _ _ _ _ _ _ .int dX12_joins_196 rfl rfl (Nat.zero_le _) (Nat.zero_le _) ⟨rfl, rfl⟩
set_option maxRecDepth 20000 in
set_option maxHeartbeats 4000000 in
theorem lj_X12_joins_111 (hfl : g.1.stackTraces = false) (hS : pS 128 137 S) {v1 : Int32} {v2 : Int32} {v3 : Int32} {u1 : Int32} {u2 : Int32} {u3 : Int32} {m0 : me} {r : (Int32 × me)} (h : j_X12_joins_111 v1 v2 v3 u1 u2 u3 m0 = some r) (hE : pm_End g mX12_joins X 0 0 (qI S r) qF) : pm_G g mX12_joins X 111 [some (.ref 128), some (.int v1), some (.int v2), some (.int v3), none] [(.int u3), (.int u2), (.int u1), (.ref 128)] (en S m0) 0 0 := by
  unfold j_X12_joins_111 at h
  obtain ⟨r16, h_r16, h⟩ := bd_at h
  refine eg_cVv (C := mX12_puts) (as := [(.int u1), (.int u2), (.int u3)]) dX12_joins_111 mw848 cv_X12_puts hS sp128 (Nat.le_of_ble_eq_true rfl) (Nat.le_of_ble_eq_true rfl) rfl rfl rfl (Nat.le_of_ble_eq_true rfl) rfl ⟨(Nat.le_of_ble_eq_true rfl), (Nat.le_of_ble_eq_true rfl)⟩ (ct_X12_puts hfl (hS.sub (Nat.le_of_ble_eq_true rfl) (Nat.le_of_ble_eq_true rfl)) h_r16) ?_
  refine pg_aload_n dX12_joins_114 rfl ?_
  refine pg_aload_n dX12_joins_115 rfl ?_
  refine eg_get dX12_joins_116 fa_X12_82 hS sp128 (Nat.le_of_ble_eq_true rfl) (Nat.le_of_ble_eq_true rfl) rfl rfl ?_
  refine pg_iconst 1 dX12_joins_119 rfl ?_
  refine pg_iload_n dX12_joins_120 rfl ?_
  refine pg_iload_n dX12_joins_121 rfl ?_
  refine pg_icmp_ge 129 dX12_joins_122 (by decide) (fun c17 => ?_) (fun c17 => ?_)
  · rw [if_pos c17] at h
    refine pg_iload_n dX12_joins_129 rfl ?_
    refine eg_forget [some (.ref 128), none, none, some (.int v3), none] (show pm_sub _ _ from ⟨rfl, ⟨rfl, trivial⟩⟩) ?_
    exact lj_X12_joins_130 hfl hS h hE
  · rw [if_neg c17] at h
    refine pg_iload_n dX12_joins_125 rfl ?_
    refine pg_goto 130 dX12_joins_126 (by decide) ?_
    refine eg_forget [some (.ref 128), none, none, some (.int v3), none] (show pm_sub _ _ from ⟨rfl, ⟨rfl, trivial⟩⟩) ?_
    exact lj_X12_joins_130 hfl hS h hE
set_option maxRecDepth 20000 in
set_option maxHeartbeats 4000000 in
theorem ct_X12_joins (hfl : g.1.stackTraces = false) (hS : pS 128 137 S) {v1 : Int32} {v2 : Int32} {v3 : Int32} {m0 : me} {x : (Int32 × me)} (h : f_X12_joins v1 v2 v3 m0 = some x) : pm_Ct g mX12_joins [.ref 128, .int v1, .int v2, .int v3] (en S m0) 0 0 (qI S x) qF := by
  refine pm_of (by decide +kernel) rfl hfl (Nat.le_of_ble_eq_true rfl) (fun X hE => ?_)
  show pm_G g mX12_joins X 0 [some (.ref 128), some (.int v1), some (.int v2), some (.int v3), none] [] (en S m0) 0 0
  unfold f_X12_joins at h
  refine pg_aload_n dX12_joins_0 rfl ?_
  refine pg_iload_n dX12_joins_1 rfl ?_
  obtain ⟨r1, h_r1, h⟩ := bd_at h
  refine eg_cVi (C := mX12_isBridge) (as := [(.int v1)]) dX12_joins_2 mw837 cv_X12_isBridge hS sp128 (Nat.le_of_ble_eq_true rfl) (Nat.le_of_ble_eq_true rfl) rfl rfl rfl (Nat.le_of_ble_eq_true rfl) rfl ⟨(Nat.le_of_ble_eq_true rfl), (Nat.le_of_ble_eq_true rfl)⟩ (ct_X12_isBridge hfl (hS.sub (Nat.le_of_ble_eq_true rfl) (Nat.le_of_ble_eq_true rfl)) h_r1) ?_
  refine pg_if_eq 16 dX12_joins_5 (by decide) (fun c2 => ?_) (fun c2 => ?_)
  · rw [if_pos c2] at h
    refine pg_iconst 1 dX12_joins_16 rfl ?_
    obtain rfl := Option.some.inj h
    exact hE.2.1 _ _ _ _ _ _ .int dX12_joins_17 rfl rfl (Nat.zero_le _) (Nat.zero_le _) ⟨rfl, rfl⟩
  · rw [if_neg c2] at h
    refine pg_aload_n dX12_joins_8 rfl ?_
    refine pg_iload_n dX12_joins_9 rfl ?_
    obtain ⟨r3, h_r3, h⟩ := bd_at h
    refine eg_cVi (C := mX12_isBridge) (as := [(.int v2)]) dX12_joins_10 mw837 cv_X12_isBridge hS sp128 (Nat.le_of_ble_eq_true rfl) (Nat.le_of_ble_eq_true rfl) rfl rfl rfl (Nat.le_of_ble_eq_true rfl) rfl ⟨(Nat.le_of_ble_eq_true rfl), (Nat.le_of_ble_eq_true rfl)⟩ (ct_X12_isBridge hfl (hS.sub (Nat.le_of_ble_eq_true rfl) (Nat.le_of_ble_eq_true rfl)) h_r3) ?_
    refine pg_if_ne 18 dX12_joins_13 (by decide) (fun c4 => ?_) (fun c4 => ?_)
    · rw [if_neg c4] at h
      refine pg_iload_n dX12_joins_18 rfl ?_
      refine pg_iload_n dX12_joins_19 rfl ?_
      refine pg_icmp_eq 33 dX12_joins_20 (by decide) (fun c5 => ?_) (fun c5 => ?_)
      · rw [if_pos c5] at h
        refine pg_iconst 2 dX12_joins_33 rfl ?_
        obtain rfl := Option.some.inj h
        exact hE.2.1 _ _ _ _ _ _ .int dX12_joins_34 rfl rfl (Nat.zero_le _) (Nat.zero_le _) ⟨rfl, rfl⟩
      · rw [if_neg c5] at h
        refine pg_iload_n dX12_joins_23 rfl ?_
        refine pg_iconst 1 dX12_joins_24 rfl ?_
        refine pg_bipush 100 dX12_joins_25 rfl ?_
        obtain ⟨r6, h_r6, h⟩ := bd_at h
        refine eg_cSi (C := mX12_in) (as := [(.int v3), (.int 1), (.int 100)]) dX12_joins_27 mw786 cs_X12_in rfl rfl (Nat.le_of_ble_eq_true rfl) rfl ⟨(Nat.le_of_ble_eq_true rfl), (Nat.le_of_ble_eq_true rfl)⟩ (ct_X12_in hfl h_r6) ?_
        refine pg_if_ne 35 dX12_joins_30 (by decide) (fun c7 => ?_) (fun c7 => ?_)
        · rw [if_neg c7] at h
          refine pg_aload_n dX12_joins_35 rfl ?_
          refine eg_get dX12_joins_36 fa_X12_7 hS sp128 (Nat.le_of_ble_eq_true rfl) (Nat.le_of_ble_eq_true rfl) rfl rfl ?_
          refine pg_iconst 5 dX12_joins_39 rfl ?_
          refine eg_ialdJ 5 dX12_joins_40 hS sp129 (Nat.le_of_ble_eq_true rfl) (Nat.le_of_ble_eq_true rfl) rfl (inR_vp rfl) rfl ?_
          refine pg_bipush 16 dX12_joins_41 rfl ?_
          refine pg_icmp_ne 48 dX12_joins_43 (by decide) (fun c8 => ?_) (fun c8 => ?_)
          · rw [if_neg c8] at h
            refine pg_aload_n dX12_joins_48 rfl ?_
            refine pg_aload_n dX12_joins_49 rfl ?_
            refine eg_get dX12_joins_50 fa_X12_7 hS sp128 (Nat.le_of_ble_eq_true rfl) (Nat.le_of_ble_eq_true rfl) rfl rfl ?_
            refine pg_iconst 5 dX12_joins_53 rfl ?_
            refine eg_ialdJ 5 dX12_joins_54 hS sp129 (Nat.le_of_ble_eq_true rfl) (Nat.le_of_ble_eq_true rfl) rfl (inR_vp rfl) rfl ?_
            refine eg_put dX12_joins_55 fa_X12_82 hS sp128 (Nat.le_of_ble_eq_true rfl) (Nat.le_of_ble_eq_true rfl) rfl (Nat.le_of_ble_eq_true rfl) rfl (fun m9 e_m9 => ?_)
            replace h := lt_at h e_m9
            refine pg_aload_n dX12_joins_58 rfl ?_
            refine eg_get dX12_joins_59 fa_X12_7 hS sp128 (Nat.le_of_ble_eq_true rfl) (Nat.le_of_ble_eq_true rfl) rfl rfl ?_
            refine pg_iconst 5 dX12_joins_62 rfl ?_
            refine pg_dup2 dX12_joins_63 rfl rfl ?_
            refine eg_ialdJ 5 dX12_joins_64 hS sp129 (Nat.le_of_ble_eq_true rfl) (Nat.le_of_ble_eq_true rfl) rfl (inR_vp rfl) rfl ?_
            refine pg_iconst 1 dX12_joins_65 rfl ?_
            refine pg_iadd dX12_joins_66 ?_
            refine eg_iastJ 5 dX12_joins_67 hS sp129 (Nat.le_of_ble_eq_true rfl) (Nat.le_of_ble_eq_true rfl) (fun _ _ _ => rfl) (inR_vp rfl) rfl (fun m10 e_m10 => ?_)
            replace h := lt_at h e_m10
            refine pg_iconst 0 dX12_joins_68 rfl ?_
            refine eg_istore [some (.ref 128), some (.int v1), some (.int v2), some (.int v3), some (.int 0)] 0 dX12_joins_69 rfl (Nat.le_of_ble_eq_true rfl) rfl ?_
            obtain ⟨s14, h_s14, h⟩ := bd_at h
            refine lo_at (b := b_X12_joins_71 v1 v2 v3) (G := (fun z9 : Int32 × me => pm_G g mX12_joins X 71 [some (.ref 128), some (.int v1), some (.int v2), some (.int v3), some (.int z9.1)] [] (en S z9.2) 0 0)) (T := (fun z9 : Int32 × me => pm_G g mX12_joins X 95 [some (.ref 128), some (.int v1), some (.int v2), some (.int v3), some (.int z9.1)] [] (en S z9.2) 0 0)) (fun q9 r9 h1 h2 h3 => lb_X12_joins_71 hfl hS h1 h2 h3) 2048 (0, m10) s14 h_s14 ?_
            show pm_G g mX12_joins X 95 [some (.ref 128), some (.int v1), some (.int v2), some (.int v3), some (.int s14.1)] [] (en S s14.2) 0 0
            refine pg_aload_n dX12_joins_95 rfl ?_
            refine pg_aload_n dX12_joins_96 rfl ?_
            refine eg_get dX12_joins_97 fa_X12_82 hS sp128 (Nat.le_of_ble_eq_true rfl) (Nat.le_of_ble_eq_true rfl) rfl rfl ?_
            refine pg_iconst 0 dX12_joins_100 rfl ?_
            refine pg_iload_n dX12_joins_101 rfl ?_
            refine pg_iload_n dX12_joins_102 rfl ?_
            refine pg_icmp_ge 110 dX12_joins_103 (by decide) (fun c15 => ?_) (fun c15 => ?_)
            · rw [if_pos c15] at h
              refine pg_iload_n dX12_joins_110 rfl ?_
              refine eg_forget [some (.ref 128), some (.int v1), some (.int v2), some (.int v3), none] (show pm_sub _ _ from ⟨rfl, ⟨rfl, ⟨rfl, ⟨rfl, trivial⟩⟩⟩⟩) ?_
              exact lj_X12_joins_111 hfl hS h hE
            · rw [if_neg c15] at h
              refine pg_iload_n dX12_joins_106 rfl ?_
              refine pg_goto 111 dX12_joins_107 (by decide) ?_
              refine eg_forget [some (.ref 128), some (.int v1), some (.int v2), some (.int v3), none] (show pm_sub _ _ from ⟨rfl, ⟨rfl, ⟨rfl, ⟨rfl, trivial⟩⟩⟩⟩) ?_
              exact lj_X12_joins_111 hfl hS h hE
          · rw [if_pos c8] at h
            refine pg_iconst 3 dX12_joins_46 rfl ?_
            obtain rfl := Option.some.inj h
            exact hE.2.1 _ _ _ _ _ _ .int dX12_joins_47 rfl rfl (Nat.zero_le _) (Nat.zero_le _) ⟨rfl, rfl⟩
        · rw [if_pos c7] at h
          refine pg_iconst 2 dX12_joins_33 rfl ?_
          obtain rfl := Option.some.inj h
          exact hE.2.1 _ _ _ _ _ _ .int dX12_joins_34 rfl rfl (Nat.zero_le _) (Nat.zero_le _) ⟨rfl, rfl⟩
    · rw [if_pos c4] at h
      refine pg_iconst 1 dX12_joins_16 rfl ?_
      obtain rfl := Option.some.inj h
      exact hE.2.1 _ _ _ _ _ _ .int dX12_joins_17 rfl rfl (Nat.zero_le _) (Nat.zero_le _) ⟨rfl, rfl⟩
def f_X12_addLink (v1 : Int32) (v2 : Int32) (v3 : Int32) (m0 : me) : Option (Int32 × me) :=
  bd (f_X12_hold m0) (fun r1 =>
  bd (f_X12_joins v1 v2 v3 r1) (fun r2 =>
  bd (f_X12_done r2.1 r2.2) (fun r3 =>
  some ((r3.1, r3.2)))))
set_option maxRecDepth 20000 in
set_option maxHeartbeats 4000000 in
theorem ct_X12_addLink (hfl : g.1.stackTraces = false) (hS : pS 128 137 S) {v1 : Int32} {v2 : Int32} {v3 : Int32} {m0 : me} {x : (Int32 × me)} (h : f_X12_addLink v1 v2 v3 m0 = some x) : pm_Ct g mX12_addLink [.ref 128, .int v1, .int v2, .int v3] (en S m0) 0 0 (qI S x) qF := by
  refine pm_of (by decide +kernel) rfl hfl (Nat.le_of_ble_eq_true rfl) (fun X hE => ?_)
  show pm_G g mX12_addLink X 0 [some (.ref 128), some (.int v1), some (.int v2), some (.int v3)] [] (en S m0) 0 0
  unfold f_X12_addLink at h
  refine pg_aload_n dX12_addLink_0 rfl ?_
  obtain ⟨r1, h_r1, h⟩ := bd_at h
  refine eg_cVv (C := mX12_hold) (as := []) dX12_addLink_1 mw811 cv_X12_hold hS sp128 (Nat.le_of_ble_eq_true rfl) (Nat.le_of_ble_eq_true rfl) rfl rfl rfl (Nat.le_of_ble_eq_true rfl) rfl ⟨(Nat.le_of_ble_eq_true rfl), (Nat.le_of_ble_eq_true rfl)⟩ (ct_X12_hold hfl (hS.sub (Nat.le_of_ble_eq_true rfl) (Nat.le_of_ble_eq_true rfl)) h_r1) ?_
  refine pg_aload_n dX12_addLink_4 rfl ?_
  refine pg_aload_n dX12_addLink_5 rfl ?_
  refine pg_iload_n dX12_addLink_6 rfl ?_
  refine pg_iload_n dX12_addLink_7 rfl ?_
  refine pg_iload_n dX12_addLink_8 rfl ?_
  obtain ⟨r2, h_r2, h⟩ := bd_at h
  refine eg_cVi (C := mX12_joins) (as := [(.int v1), (.int v2), (.int v3)]) dX12_addLink_9 mw843 cv_X12_joins hS sp128 (Nat.le_of_ble_eq_true rfl) (Nat.le_of_ble_eq_true rfl) rfl rfl rfl (Nat.le_of_ble_eq_true rfl) rfl ⟨(Nat.le_of_ble_eq_true rfl), (Nat.le_of_ble_eq_true rfl)⟩ (ct_X12_joins hfl (hS.sub (Nat.le_of_ble_eq_true rfl) (Nat.le_of_ble_eq_true rfl)) h_r2) ?_
  obtain ⟨r3, h_r3, h⟩ := bd_at h
  refine eg_cVi (C := mX12_done) (as := [(.int r2.1)]) dX12_addLink_12 mw832 cv_X12_done hS sp128 (Nat.le_of_ble_eq_true rfl) (Nat.le_of_ble_eq_true rfl) rfl rfl rfl (Nat.le_of_ble_eq_true rfl) rfl ⟨(Nat.le_of_ble_eq_true rfl), (Nat.le_of_ble_eq_true rfl)⟩ (ct_X12_done hfl (hS.sub (Nat.le_of_ble_eq_true rfl) (Nat.le_of_ble_eq_true rfl)) h_r3) ?_
  obtain rfl := Option.some.inj h
  exact hE.2.1 _ _ _ _ _ _ .int dX12_addLink_15 rfl rfl (Nat.zero_le _) (Nat.zero_le _) ⟨rfl, rfl⟩
def f_X12_isLink (v1 : Int32) (m0 : me) : Option (Int32 × me) :=
  bd (f_X12_in v1 0 ((m0.1 129 5) - 1) m0) (fun r1 =>
  gd (isB r1.1) (
  some ((r1.1, r1.2))))
set_option maxRecDepth 20000 in
set_option maxHeartbeats 4000000 in
theorem ct_X12_isLink (hfl : g.1.stackTraces = false) (hS : pS 128 137 S) {v1 : Int32} {m0 : me} {x : (Int32 × me)} (h : f_X12_isLink v1 m0 = some x) : pm_Ct g mX12_isLink [.ref 128, .int v1] (en S m0) 0 0 (qI S x) qF := by
  refine pm_of (by decide +kernel) rfl hfl (Nat.le_of_ble_eq_true rfl) (fun X hE => ?_)
  show pm_G g mX12_isLink X 0 [some (.ref 128), some (.int v1)] [] (en S m0) 0 0
  unfold f_X12_isLink at h
  refine pg_iload_n dX12_isLink_0 rfl ?_
  refine pg_iconst 0 dX12_isLink_1 rfl ?_
  refine pg_aload_n dX12_isLink_2 rfl ?_
  refine eg_get dX12_isLink_3 fa_X12_7 hS sp128 (Nat.le_of_ble_eq_true rfl) (Nat.le_of_ble_eq_true rfl) rfl rfl ?_
  refine pg_iconst 5 dX12_isLink_6 rfl ?_
  refine eg_ialdJ 5 dX12_isLink_7 hS sp129 (Nat.le_of_ble_eq_true rfl) (Nat.le_of_ble_eq_true rfl) rfl (inR_vp rfl) rfl ?_
  refine pg_iconst 1 dX12_isLink_8 rfl ?_
  refine pg_isub dX12_isLink_9 ?_
  obtain ⟨r1, h_r1, h⟩ := bd_at h
  refine eg_cSi (C := mX12_in) (as := [(.int v1), (.int 0), (.int ((m0.1 129 5) - 1))]) dX12_isLink_10 mw786 cs_X12_in rfl rfl (Nat.le_of_ble_eq_true rfl) rfl ⟨(Nat.le_of_ble_eq_true rfl), (Nat.le_of_ble_eq_true rfl)⟩ (ct_X12_in hfl h_r1) ?_
  obtain ⟨g1, h⟩ := gd_at h
  obtain rfl := Option.some.inj h
  exact hE.2.1 _ _ _ _ _ _ .boolean dX12_isLink_13 rfl (isB_nar g1) (Nat.zero_le _) (Nat.zero_le _) ⟨rfl, rfl⟩
def f_X12_of (v1 : Int32) (v2 : Int32) (m0 : me) : Option (Int32 × me) :=
  gd (inR ((199 + (18 * v1)) + v2) 487) (
  some ((m0.1 129 (((199 + (18 * v1)) + v2).toNatClampNeg), m0)))
set_option maxRecDepth 20000 in
set_option maxHeartbeats 4000000 in
theorem ct_X12_of (hfl : g.1.stackTraces = false) (hS : pS 128 137 S) {v1 : Int32} {v2 : Int32} {m0 : me} {x : (Int32 × me)} (h : f_X12_of v1 v2 m0 = some x) : pm_Ct g mX12_of [.ref 128, .int v1, .int v2] (en S m0) 0 0 (qI S x) qF := by
  refine pm_of (by decide +kernel) rfl hfl (Nat.le_of_ble_eq_true rfl) (fun X hE => ?_)
  show pm_G g mX12_of X 0 [some (.ref 128), some (.int v1), some (.int v2)] [] (en S m0) 0 0
  unfold f_X12_of at h
  refine pg_aload_n dX12_of_0 rfl ?_
  refine eg_get dX12_of_1 fa_X12_7 hS sp128 (Nat.le_of_ble_eq_true rfl) (Nat.le_of_ble_eq_true rfl) rfl rfl ?_
  refine pg_sipush 199 dX12_of_4 rfl ?_
  refine pg_bipush 18 dX12_of_7 rfl ?_
  refine pg_iload_n dX12_of_9 rfl ?_
  refine pg_imul dX12_of_10 ?_
  refine pg_iadd dX12_of_11 ?_
  refine pg_iload_n dX12_of_12 rfl ?_
  refine pg_iadd dX12_of_13 ?_
  obtain ⟨g1, h⟩ := gd_at h
  refine eg_ialdJ (((199 + (18 * v1)) + v2).toNatClampNeg) dX12_of_14 hS sp129 (Nat.le_of_ble_eq_true rfl) (Nat.le_of_ble_eq_true rfl) rfl (inR_vp g1) rfl ?_
  obtain rfl := Option.some.inj h
  exact hE.2.1 _ _ _ _ _ _ .int dX12_of_15 rfl rfl (Nat.zero_le _) (Nat.zero_le _) ⟨rfl, rfl⟩
def j_X12_breaks_125 (v1 : Int32) (m0 : me) : Option (Int32 × me) :=
  bd (f_X12_puts v1 5 (-1) m0) (fun r9 =>
  bd (f_X12_puts v1 6 0 r9) (fun r10 =>
  some ((0, r10))))
def f_X12_breaks (v1 : Int32) (m0 : me) : Option (Int32 × me) :=
  bd (f_X12_isLink v1 m0) (fun r1 =>
  if r1.1 = 0 then
    some ((1, r1.2))
  else
    bd (f_X12_of v1 4 r1.2) (fun r3 =>
    if r3.1 = 0 then
      some ((2, r3.2))
    else
      bd (f_X12_puts v1 4 0 r3.2) (fun r5 =>
      lt (wI r5 128 7 0) (fun m6 =>
      bd (f_X12_of v1 5 m6) (fun r7 =>
      if r7.1 < 0 then
        j_X12_breaks_125 v1 r7.2
      else
        gd (nz (r7.2.1 129 3)) (
        lt ((r7.2.1 129 3) - ((r7.2.1 129 1) - (r7.2.1 129 1) / (r7.2.1 129 3) * (r7.2.1 129 3))) (fun w11 =>
        bd (f_X12_of v1 6 r7.2) (fun r12 =>
        gd (nz (r12.2.1 129 3)) (
        lt (wI r12.2 128 7 ((r12.1 * w11) / (r12.2.1 129 3))) (fun m13 =>
        gd (inR (187 + (3 * r7.1)) 487) (
        gd (inR (187 + (3 * r7.1)) 487) (
        lt (wI m13 129 ((187 + (3 * r7.1)).toNatClampNeg) ((m13.1 129 ((187 + (3 * r7.1)).toNatClampNeg)) + (m13.1 128 7))) (fun m14 =>
        gd (inR ((187 + (3 * r7.1)) + 2) 487) (
        gd (inR ((187 + (3 * r7.1)) + 2) 487) (
        lt (wI m14 129 (((187 + (3 * r7.1)) + 2).toNatClampNeg) ((m14.1 129 (((187 + (3 * r7.1)) + 2).toNatClampNeg)) + (m14.1 128 7))) (fun m15 =>
        j_X12_breaks_125 v1 m15))))))))))))))))
set_option maxRecDepth 20000 in
set_option maxHeartbeats 4000000 in
theorem lj_X12_breaks_125 (hfl : g.1.stackTraces = false) (hS : pS 128 137 S) {v1 : Int32} {m0 : me} {r : (Int32 × me)} (h : j_X12_breaks_125 v1 m0 = some r) (hE : pm_End g mX12_breaks X 0 0 (qI S r) qF) : pm_G g mX12_breaks X 125 [some (.ref 128), some (.int v1), none, none] [] (en S m0) 0 0 := by
  unfold j_X12_breaks_125 at h
  refine pg_aload_n dX12_breaks_125 rfl ?_
  refine pg_iload_n dX12_breaks_126 rfl ?_
  refine pg_iconst 5 dX12_breaks_127 rfl ?_
  refine pg_iconst (-1) dX12_breaks_128 rfl ?_
  obtain ⟨r9, h_r9, h⟩ := bd_at h
  refine eg_cVv (C := mX12_puts) (as := [(.int v1), (.int 5), (.int (-1))]) dX12_breaks_129 mw848 cv_X12_puts hS sp128 (Nat.le_of_ble_eq_true rfl) (Nat.le_of_ble_eq_true rfl) rfl rfl rfl (Nat.le_of_ble_eq_true rfl) rfl ⟨(Nat.le_of_ble_eq_true rfl), (Nat.le_of_ble_eq_true rfl)⟩ (ct_X12_puts hfl (hS.sub (Nat.le_of_ble_eq_true rfl) (Nat.le_of_ble_eq_true rfl)) h_r9) ?_
  refine pg_aload_n dX12_breaks_132 rfl ?_
  refine pg_iload_n dX12_breaks_133 rfl ?_
  refine pg_bipush 6 dX12_breaks_134 rfl ?_
  refine pg_iconst 0 dX12_breaks_136 rfl ?_
  obtain ⟨r10, h_r10, h⟩ := bd_at h
  refine eg_cVv (C := mX12_puts) (as := [(.int v1), (.int 6), (.int 0)]) dX12_breaks_137 mw848 cv_X12_puts hS sp128 (Nat.le_of_ble_eq_true rfl) (Nat.le_of_ble_eq_true rfl) rfl rfl rfl (Nat.le_of_ble_eq_true rfl) rfl ⟨(Nat.le_of_ble_eq_true rfl), (Nat.le_of_ble_eq_true rfl)⟩ (ct_X12_puts hfl (hS.sub (Nat.le_of_ble_eq_true rfl) (Nat.le_of_ble_eq_true rfl)) h_r10) ?_
  refine pg_iconst 0 dX12_breaks_140 rfl ?_
  obtain rfl := Option.some.inj h
  exact hE.2.1 _ _ _ _ _ _ .int dX12_breaks_141 rfl rfl (Nat.zero_le _) (Nat.zero_le _) ⟨rfl, rfl⟩
set_option maxRecDepth 20000 in
set_option maxHeartbeats 4000000 in
theorem ct_X12_breaks (hfl : g.1.stackTraces = false) (hS : pS 128 137 S) {v1 : Int32} {m0 : me} {x : (Int32 × me)} (h : f_X12_breaks v1 m0 = some x) : pm_Ct g mX12_breaks [.ref 128, .int v1] (en S m0) 0 0 (qI S x) qF := by
  refine pm_of (by decide +kernel) rfl hfl (Nat.le_of_ble_eq_true rfl) (fun X hE => ?_)
  show pm_G g mX12_breaks X 0 [some (.ref 128), some (.int v1), none, none] [] (en S m0) 0 0
  unfold f_X12_breaks at h
  refine pg_aload_n dX12_breaks_0 rfl ?_
  refine pg_iload_n dX12_breaks_1 rfl ?_
  obtain ⟨r1, h_r1, h⟩ := bd_at h
  refine eg_cVi (C := mX12_isLink) (as := [(.int v1)]) dX12_breaks_2 mw858 cv_X12_isLink hS sp128 (Nat.le_of_ble_eq_true rfl) (Nat.le_of_ble_eq_true rfl) rfl rfl rfl (Nat.le_of_ble_eq_true rfl) rfl ⟨(Nat.le_of_ble_eq_true rfl), (Nat.le_of_ble_eq_true rfl)⟩ (ct_X12_isLink hfl (hS.sub (Nat.le_of_ble_eq_true rfl) (Nat.le_of_ble_eq_true rfl)) h_r1) ?_
  refine pg_if_ne 10 dX12_breaks_5 (by decide) (fun c2 => ?_) (fun c2 => ?_)
  · rw [if_neg c2] at h
    refine pg_aload_n dX12_breaks_10 rfl ?_
    refine pg_iload_n dX12_breaks_11 rfl ?_
    refine pg_iconst 4 dX12_breaks_12 rfl ?_
    obtain ⟨r3, h_r3, h⟩ := bd_at h
    refine eg_cVi (C := mX12_of) (as := [(.int v1), (.int 4)]) dX12_breaks_13 mw863 cv_X12_of hS sp128 (Nat.le_of_ble_eq_true rfl) (Nat.le_of_ble_eq_true rfl) rfl rfl rfl (Nat.le_of_ble_eq_true rfl) rfl ⟨(Nat.le_of_ble_eq_true rfl), (Nat.le_of_ble_eq_true rfl)⟩ (ct_X12_of hfl (hS.sub (Nat.le_of_ble_eq_true rfl) (Nat.le_of_ble_eq_true rfl)) h_r3) ?_
    refine pg_if_ne 21 dX12_breaks_16 (by decide) (fun c4 => ?_) (fun c4 => ?_)
    · rw [if_neg c4] at h
      refine pg_aload_n dX12_breaks_21 rfl ?_
      refine pg_iload_n dX12_breaks_22 rfl ?_
      refine pg_iconst 4 dX12_breaks_23 rfl ?_
      refine pg_iconst 0 dX12_breaks_24 rfl ?_
      obtain ⟨r5, h_r5, h⟩ := bd_at h
      refine eg_cVv (C := mX12_puts) (as := [(.int v1), (.int 4), (.int 0)]) dX12_breaks_25 mw848 cv_X12_puts hS sp128 (Nat.le_of_ble_eq_true rfl) (Nat.le_of_ble_eq_true rfl) rfl rfl rfl (Nat.le_of_ble_eq_true rfl) rfl ⟨(Nat.le_of_ble_eq_true rfl), (Nat.le_of_ble_eq_true rfl)⟩ (ct_X12_puts hfl (hS.sub (Nat.le_of_ble_eq_true rfl) (Nat.le_of_ble_eq_true rfl)) h_r5) ?_
      refine pg_aload_n dX12_breaks_28 rfl ?_
      refine pg_iconst 0 dX12_breaks_29 rfl ?_
      refine eg_put dX12_breaks_30 fa_X12_82 hS sp128 (Nat.le_of_ble_eq_true rfl) (Nat.le_of_ble_eq_true rfl) rfl (Nat.le_of_ble_eq_true rfl) rfl (fun m6 e_m6 => ?_)
      replace h := lt_at h e_m6
      refine pg_aload_n dX12_breaks_33 rfl ?_
      refine pg_iload_n dX12_breaks_34 rfl ?_
      refine pg_iconst 5 dX12_breaks_35 rfl ?_
      obtain ⟨r7, h_r7, h⟩ := bd_at h
      refine eg_cVi (C := mX12_of) (as := [(.int v1), (.int 5)]) dX12_breaks_36 mw863 cv_X12_of hS sp128 (Nat.le_of_ble_eq_true rfl) (Nat.le_of_ble_eq_true rfl) rfl rfl rfl (Nat.le_of_ble_eq_true rfl) rfl ⟨(Nat.le_of_ble_eq_true rfl), (Nat.le_of_ble_eq_true rfl)⟩ (ct_X12_of hfl (hS.sub (Nat.le_of_ble_eq_true rfl) (Nat.le_of_ble_eq_true rfl)) h_r7) ?_
      refine eg_istore_n [some (.ref 128), some (.int v1), some (.int r7.1), none] r7.1 dX12_breaks_39 rfl (Nat.le_of_ble_eq_true rfl) rfl ?_
      refine pg_iload_n dX12_breaks_40 rfl ?_
      refine pg_if_lt 125 dX12_breaks_41 (by decide) (fun c8 => ?_) (fun c8 => ?_)
      · rw [if_pos c8] at h
        refine eg_forget [some (.ref 128), some (.int v1), none, none] (show pm_sub _ _ from ⟨rfl, ⟨rfl, trivial⟩⟩) ?_
        exact lj_X12_breaks_125 hfl hS h hE
      · rw [if_neg c8] at h
        refine pg_aload_n dX12_breaks_44 rfl ?_
        refine eg_get dX12_breaks_45 fa_X12_7 hS sp128 (Nat.le_of_ble_eq_true rfl) (Nat.le_of_ble_eq_true rfl) rfl rfl ?_
        refine pg_iconst 3 dX12_breaks_48 rfl ?_
        refine eg_ialdJ 3 dX12_breaks_49 hS sp129 (Nat.le_of_ble_eq_true rfl) (Nat.le_of_ble_eq_true rfl) rfl (inR_vp rfl) rfl ?_
        refine pg_aload_n dX12_breaks_50 rfl ?_
        refine eg_get dX12_breaks_51 fa_X12_7 hS sp128 (Nat.le_of_ble_eq_true rfl) (Nat.le_of_ble_eq_true rfl) rfl rfl ?_
        refine pg_iconst 1 dX12_breaks_54 rfl ?_
        refine eg_ialdJ 1 dX12_breaks_55 hS sp129 (Nat.le_of_ble_eq_true rfl) (Nat.le_of_ble_eq_true rfl) rfl (inR_vp rfl) rfl ?_
        refine pg_aload_n dX12_breaks_56 rfl ?_
        refine eg_get dX12_breaks_57 fa_X12_7 hS sp128 (Nat.le_of_ble_eq_true rfl) (Nat.le_of_ble_eq_true rfl) rfl rfl ?_
        refine pg_iconst 3 dX12_breaks_60 rfl ?_
        refine eg_ialdJ 3 dX12_breaks_61 hS sp129 (Nat.le_of_ble_eq_true rfl) (Nat.le_of_ble_eq_true rfl) rfl (inR_vp rfl) rfl ?_
        obtain ⟨g1, h⟩ := gd_at h
        refine pg_irem dX12_breaks_62 (nz_ne g1) ?_
        refine pg_isub dX12_breaks_63 ?_
        obtain ⟨w11, e_w11⟩ : ∃ z : Int32, z = (r7.2.1 129 3) - ((r7.2.1 129 1) - (r7.2.1 129 1) / (r7.2.1 129 3) * (r7.2.1 129 3)) := ⟨_, rfl⟩
        replace h := lt_at h e_w11
        refine eg_istore_n [some (.ref 128), some (.int v1), some (.int r7.1), some (.int w11)] w11 dX12_breaks_64 e_w11 (Nat.le_of_ble_eq_true rfl) rfl ?_
        refine pg_aload_n dX12_breaks_65 rfl ?_
        refine pg_aload_n dX12_breaks_66 rfl ?_
        refine pg_iload_n dX12_breaks_67 rfl ?_
        refine pg_bipush 6 dX12_breaks_68 rfl ?_
        obtain ⟨r12, h_r12, h⟩ := bd_at h
        refine eg_cVi (C := mX12_of) (as := [(.int v1), (.int 6)]) dX12_breaks_70 mw863 cv_X12_of hS sp128 (Nat.le_of_ble_eq_true rfl) (Nat.le_of_ble_eq_true rfl) rfl rfl rfl (Nat.le_of_ble_eq_true rfl) rfl ⟨(Nat.le_of_ble_eq_true rfl), (Nat.le_of_ble_eq_true rfl)⟩ (ct_X12_of hfl (hS.sub (Nat.le_of_ble_eq_true rfl) (Nat.le_of_ble_eq_true rfl)) h_r12) ?_
        refine pg_iload_n dX12_breaks_73 rfl ?_
        refine pg_imul dX12_breaks_74 ?_
        refine pg_aload_n dX12_breaks_75 rfl ?_
        refine eg_get dX12_breaks_76 fa_X12_7 hS sp128 (Nat.le_of_ble_eq_true rfl) (Nat.le_of_ble_eq_true rfl) rfl rfl ?_
        refine pg_iconst 3 dX12_breaks_79 rfl ?_
        refine eg_ialdJ 3 dX12_breaks_80 hS sp129 (Nat.le_of_ble_eq_true rfl) (Nat.le_of_ble_eq_true rfl) rfl (inR_vp rfl) rfl ?_
        obtain ⟨g1, h⟩ := gd_at h
        refine pg_idiv dX12_breaks_81 (nz_ne g1) ?_
        refine eg_put dX12_breaks_82 fa_X12_82 hS sp128 (Nat.le_of_ble_eq_true rfl) (Nat.le_of_ble_eq_true rfl) rfl (Nat.le_of_ble_eq_true rfl) rfl (fun m13 e_m13 => ?_)
        replace h := lt_at h e_m13
        refine pg_aload_n dX12_breaks_85 rfl ?_
        refine eg_get dX12_breaks_86 fa_X12_7 hS sp128 (Nat.le_of_ble_eq_true rfl) (Nat.le_of_ble_eq_true rfl) rfl rfl ?_
        refine pg_sipush 187 dX12_breaks_89 rfl ?_
        refine pg_iconst 3 dX12_breaks_92 rfl ?_
        refine pg_iload_n dX12_breaks_93 rfl ?_
        refine pg_imul dX12_breaks_94 ?_
        refine pg_iadd dX12_breaks_95 ?_
        refine pg_dup2 dX12_breaks_96 rfl rfl ?_
        obtain ⟨g1, h⟩ := gd_at h
        refine eg_ialdJ ((187 + (3 * r7.1)).toNatClampNeg) dX12_breaks_97 hS sp129 (Nat.le_of_ble_eq_true rfl) (Nat.le_of_ble_eq_true rfl) rfl (inR_vp g1) rfl ?_
        refine pg_aload_n dX12_breaks_98 rfl ?_
        refine eg_get dX12_breaks_99 fa_X12_82 hS sp128 (Nat.le_of_ble_eq_true rfl) (Nat.le_of_ble_eq_true rfl) rfl rfl ?_
        refine pg_iadd dX12_breaks_102 ?_
        obtain ⟨g1, h⟩ := gd_at h
        refine eg_iastJ ((187 + (3 * r7.1)).toNatClampNeg) dX12_breaks_103 hS sp129 (Nat.le_of_ble_eq_true rfl) (Nat.le_of_ble_eq_true rfl) (fun _ _ _ => rfl) (inR_vp g1) rfl (fun m14 e_m14 => ?_)
        replace h := lt_at h e_m14
        refine pg_aload_n dX12_breaks_104 rfl ?_
        refine eg_get dX12_breaks_105 fa_X12_7 hS sp128 (Nat.le_of_ble_eq_true rfl) (Nat.le_of_ble_eq_true rfl) rfl rfl ?_
        refine pg_sipush 187 dX12_breaks_108 rfl ?_
        refine pg_iconst 3 dX12_breaks_111 rfl ?_
        refine pg_iload_n dX12_breaks_112 rfl ?_
        refine pg_imul dX12_breaks_113 ?_
        refine pg_iadd dX12_breaks_114 ?_
        refine pg_iconst 2 dX12_breaks_115 rfl ?_
        refine pg_iadd dX12_breaks_116 ?_
        refine pg_dup2 dX12_breaks_117 rfl rfl ?_
        obtain ⟨g1, h⟩ := gd_at h
        refine eg_ialdJ (((187 + (3 * r7.1)) + 2).toNatClampNeg) dX12_breaks_118 hS sp129 (Nat.le_of_ble_eq_true rfl) (Nat.le_of_ble_eq_true rfl) rfl (inR_vp g1) rfl ?_
        refine pg_aload_n dX12_breaks_119 rfl ?_
        refine eg_get dX12_breaks_120 fa_X12_82 hS sp128 (Nat.le_of_ble_eq_true rfl) (Nat.le_of_ble_eq_true rfl) rfl rfl ?_
        refine pg_iadd dX12_breaks_123 ?_
        obtain ⟨g1, h⟩ := gd_at h
        refine eg_iastJ (((187 + (3 * r7.1)) + 2).toNatClampNeg) dX12_breaks_124 hS sp129 (Nat.le_of_ble_eq_true rfl) (Nat.le_of_ble_eq_true rfl) (fun _ _ _ => rfl) (inR_vp g1) rfl (fun m15 e_m15 => ?_)
        replace h := lt_at h e_m15
        refine eg_forget [some (.ref 128), some (.int v1), none, none] (show pm_sub _ _ from ⟨rfl, ⟨rfl, trivial⟩⟩) ?_
        exact lj_X12_breaks_125 hfl hS h hE
    · rw [if_pos c4] at h
      refine pg_iconst 2 dX12_breaks_19 rfl ?_
      obtain rfl := Option.some.inj h
      exact hE.2.1 _ _ _ _ _ _ .int dX12_breaks_20 rfl rfl (Nat.zero_le _) (Nat.zero_le _) ⟨rfl, rfl⟩
  · rw [if_pos c2] at h
    refine pg_iconst 1 dX12_breaks_8 rfl ?_
    obtain rfl := Option.some.inj h
    exact hE.2.1 _ _ _ _ _ _ .int dX12_breaks_9 rfl rfl (Nat.zero_le _) (Nat.zero_le _) ⟨rfl, rfl⟩
def f_X12_fail (v1 : Int32) (m0 : me) : Option (Int32 × me) :=
  bd (f_X12_hold m0) (fun r1 =>
  bd (f_X12_breaks v1 r1) (fun r2 =>
  bd (f_X12_done r2.1 r2.2) (fun r3 =>
  some ((r3.1, r3.2)))))
set_option maxRecDepth 20000 in
set_option maxHeartbeats 4000000 in
theorem ct_X12_fail (hfl : g.1.stackTraces = false) (hS : pS 128 137 S) {v1 : Int32} {m0 : me} {x : (Int32 × me)} (h : f_X12_fail v1 m0 = some x) : pm_Ct g mX12_fail [.ref 128, .int v1] (en S m0) 0 0 (qI S x) qF := by
  refine pm_of (by decide +kernel) rfl hfl (Nat.le_of_ble_eq_true rfl) (fun X hE => ?_)
  show pm_G g mX12_fail X 0 [some (.ref 128), some (.int v1)] [] (en S m0) 0 0
  unfold f_X12_fail at h
  refine pg_aload_n dX12_fail_0 rfl ?_
  obtain ⟨r1, h_r1, h⟩ := bd_at h
  refine eg_cVv (C := mX12_hold) (as := []) dX12_fail_1 mw811 cv_X12_hold hS sp128 (Nat.le_of_ble_eq_true rfl) (Nat.le_of_ble_eq_true rfl) rfl rfl rfl (Nat.le_of_ble_eq_true rfl) rfl ⟨(Nat.le_of_ble_eq_true rfl), (Nat.le_of_ble_eq_true rfl)⟩ (ct_X12_hold hfl (hS.sub (Nat.le_of_ble_eq_true rfl) (Nat.le_of_ble_eq_true rfl)) h_r1) ?_
  refine pg_aload_n dX12_fail_4 rfl ?_
  refine pg_aload_n dX12_fail_5 rfl ?_
  refine pg_iload_n dX12_fail_6 rfl ?_
  obtain ⟨r2, h_r2, h⟩ := bd_at h
  refine eg_cVi (C := mX12_breaks) (as := [(.int v1)]) dX12_fail_7 mw853 cv_X12_breaks hS sp128 (Nat.le_of_ble_eq_true rfl) (Nat.le_of_ble_eq_true rfl) rfl rfl rfl (Nat.le_of_ble_eq_true rfl) rfl ⟨(Nat.le_of_ble_eq_true rfl), (Nat.le_of_ble_eq_true rfl)⟩ (ct_X12_breaks hfl (hS.sub (Nat.le_of_ble_eq_true rfl) (Nat.le_of_ble_eq_true rfl)) h_r2) ?_
  obtain ⟨r3, h_r3, h⟩ := bd_at h
  refine eg_cVi (C := mX12_done) (as := [(.int r2.1)]) dX12_fail_10 mw832 cv_X12_done hS sp128 (Nat.le_of_ble_eq_true rfl) (Nat.le_of_ble_eq_true rfl) rfl rfl rfl (Nat.le_of_ble_eq_true rfl) rfl ⟨(Nat.le_of_ble_eq_true rfl), (Nat.le_of_ble_eq_true rfl)⟩ (ct_X12_done hfl (hS.sub (Nat.le_of_ble_eq_true rfl) (Nat.le_of_ble_eq_true rfl)) h_r3) ?_
  obtain rfl := Option.some.inj h
  exact hE.2.1 _ _ _ _ _ _ .int dX12_fail_13 rfl rfl (Nat.zero_le _) (Nat.zero_le _) ⟨rfl, rfl⟩
def b_X12_mends_36 (v1 : Int32) (s : Int32 × me) : Option ((Int32 × me) ⊕ (Int32 × me)) :=
  if (s.2.1 129 5) ≤ s.1 then
    some (.inr (s.1, s.2))
  else
    bd (f_X12_of s.1 4 s.2) (fun r8 =>
    lt (wI r8.2 128 7 ((s.2.1 128 7) + r8.1)) (fun m9 =>
    lt (s.1 + 1) (fun w10 =>
    some (.inl (w10, m9)))))
def f_X12_mends (v1 : Int32) (m0 : me) : Option (Int32 × me) :=
  bd (f_X12_isLink v1 m0) (fun r1 =>
  if r1.1 = 0 then
    some ((1, r1.2))
  else
    bd (f_X12_of v1 4 r1.2) (fun r3 =>
    if r3.1 = 1 then
      some ((2, r3.2))
    else
      bd (f_X12_puts v1 4 1 r3.2) (fun r5 =>
      lt (wI r5 128 7 0) (fun m6 =>
      bd (lo (b_X12_mends_36 v1) 2048 (0, m6)) (fun s11 =>
      some ((0, s11.2)))))))
set_option maxRecDepth 20000 in
set_option maxHeartbeats 4000000 in
theorem lb_X12_mends_36 (hfl : g.1.stackTraces = false) (hS : pS 128 137 S) {v1 : Int32} {s : Int32 × me} {r : (Int32 × me) ⊕ (Int32 × me)} (h : b_X12_mends_36 v1 s = some r) (hN : ∀ s', r = .inl s' → (fun z9 : Int32 × me => pm_G g mX12_mends X 36 [some (.ref 128), some (.int v1), some (.int z9.1)] [] (en S z9.2) 0 0) s') (hT : ∀ t, r = .inr t → (fun z9 : Int32 × me => pm_G g mX12_mends X 67 [some (.ref 128), some (.int v1), some (.int z9.1)] [] (en S z9.2) 0 0) t) : (fun z9 : Int32 × me => pm_G g mX12_mends X 36 [some (.ref 128), some (.int v1), some (.int z9.1)] [] (en S z9.2) 0 0) s := by
  unfold b_X12_mends_36 at h
  show pm_G g mX12_mends X 36 [some (.ref 128), some (.int v1), some (.int s.1)] [] (en S s.2) 0 0
  refine pg_iload_n dX12_mends_36 rfl ?_
  refine pg_aload_n dX12_mends_37 rfl ?_
  refine eg_get dX12_mends_38 fa_X12_7 hS sp128 (Nat.le_of_ble_eq_true rfl) (Nat.le_of_ble_eq_true rfl) rfl rfl ?_
  refine pg_iconst 5 dX12_mends_41 rfl ?_
  refine eg_ialdJ 5 dX12_mends_42 hS sp129 (Nat.le_of_ble_eq_true rfl) (Nat.le_of_ble_eq_true rfl) rfl (inR_vp rfl) rfl ?_
  refine pg_icmp_ge 67 dX12_mends_43 (by decide) (fun c7 => ?_) (fun c7 => ?_)
  · rw [if_pos c7] at h
    obtain rfl := Option.some.inj h
    exact hT _ rfl
  · rw [if_neg c7] at h
    refine pg_aload_n dX12_mends_46 rfl ?_
    refine pg_dup dX12_mends_47 rfl ?_
    refine eg_get dX12_mends_48 fa_X12_82 hS sp128 (Nat.le_of_ble_eq_true rfl) (Nat.le_of_ble_eq_true rfl) rfl rfl ?_
    refine pg_aload_n dX12_mends_51 rfl ?_
    refine pg_iload_n dX12_mends_52 rfl ?_
    refine pg_iconst 4 dX12_mends_53 rfl ?_
    obtain ⟨r8, h_r8, h⟩ := bd_at h
    refine eg_cVi (C := mX12_of) (as := [(.int s.1), (.int 4)]) dX12_mends_54 mw863 cv_X12_of hS sp128 (Nat.le_of_ble_eq_true rfl) (Nat.le_of_ble_eq_true rfl) rfl rfl rfl (Nat.le_of_ble_eq_true rfl) rfl ⟨(Nat.le_of_ble_eq_true rfl), (Nat.le_of_ble_eq_true rfl)⟩ (ct_X12_of hfl (hS.sub (Nat.le_of_ble_eq_true rfl) (Nat.le_of_ble_eq_true rfl)) h_r8) ?_
    refine pg_iadd dX12_mends_57 ?_
    refine eg_put dX12_mends_58 fa_X12_82 hS sp128 (Nat.le_of_ble_eq_true rfl) (Nat.le_of_ble_eq_true rfl) rfl (Nat.le_of_ble_eq_true rfl) rfl (fun m9 e_m9 => ?_)
    replace h := lt_at h e_m9
    obtain ⟨w10, e_w10⟩ : ∃ z : Int32, z = s.1 + 1 := ⟨_, rfl⟩
    replace h := lt_at h e_w10
    refine eg_iinc [some (.ref 128), some (.int v1), some (.int w10)] w10 1 dX12_mends_61 rfl rfl e_w10 rfl ?_
    refine pg_goto 36 dX12_mends_64 (by decide) ?_
    obtain rfl := Option.some.inj h
    exact hN _ rfl
set_option maxRecDepth 20000 in
set_option maxHeartbeats 4000000 in
theorem ct_X12_mends (hfl : g.1.stackTraces = false) (hS : pS 128 137 S) {v1 : Int32} {m0 : me} {x : (Int32 × me)} (h : f_X12_mends v1 m0 = some x) : pm_Ct g mX12_mends [.ref 128, .int v1] (en S m0) 0 0 (qI S x) qF := by
  refine pm_of (by decide +kernel) rfl hfl (Nat.le_of_ble_eq_true rfl) (fun X hE => ?_)
  show pm_G g mX12_mends X 0 [some (.ref 128), some (.int v1), none] [] (en S m0) 0 0
  unfold f_X12_mends at h
  refine pg_aload_n dX12_mends_0 rfl ?_
  refine pg_iload_n dX12_mends_1 rfl ?_
  obtain ⟨r1, h_r1, h⟩ := bd_at h
  refine eg_cVi (C := mX12_isLink) (as := [(.int v1)]) dX12_mends_2 mw858 cv_X12_isLink hS sp128 (Nat.le_of_ble_eq_true rfl) (Nat.le_of_ble_eq_true rfl) rfl rfl rfl (Nat.le_of_ble_eq_true rfl) rfl ⟨(Nat.le_of_ble_eq_true rfl), (Nat.le_of_ble_eq_true rfl)⟩ (ct_X12_isLink hfl (hS.sub (Nat.le_of_ble_eq_true rfl) (Nat.le_of_ble_eq_true rfl)) h_r1) ?_
  refine pg_if_ne 10 dX12_mends_5 (by decide) (fun c2 => ?_) (fun c2 => ?_)
  · rw [if_neg c2] at h
    refine pg_aload_n dX12_mends_10 rfl ?_
    refine pg_iload_n dX12_mends_11 rfl ?_
    refine pg_iconst 4 dX12_mends_12 rfl ?_
    obtain ⟨r3, h_r3, h⟩ := bd_at h
    refine eg_cVi (C := mX12_of) (as := [(.int v1), (.int 4)]) dX12_mends_13 mw863 cv_X12_of hS sp128 (Nat.le_of_ble_eq_true rfl) (Nat.le_of_ble_eq_true rfl) rfl rfl rfl (Nat.le_of_ble_eq_true rfl) rfl ⟨(Nat.le_of_ble_eq_true rfl), (Nat.le_of_ble_eq_true rfl)⟩ (ct_X12_of hfl (hS.sub (Nat.le_of_ble_eq_true rfl) (Nat.le_of_ble_eq_true rfl)) h_r3) ?_
    refine pg_iconst 1 dX12_mends_16 rfl ?_
    refine pg_icmp_ne 22 dX12_mends_17 (by decide) (fun c4 => ?_) (fun c4 => ?_)
    · rw [if_neg c4] at h
      refine pg_aload_n dX12_mends_22 rfl ?_
      refine pg_iload_n dX12_mends_23 rfl ?_
      refine pg_iconst 4 dX12_mends_24 rfl ?_
      refine pg_iconst 1 dX12_mends_25 rfl ?_
      obtain ⟨r5, h_r5, h⟩ := bd_at h
      refine eg_cVv (C := mX12_puts) (as := [(.int v1), (.int 4), (.int 1)]) dX12_mends_26 mw848 cv_X12_puts hS sp128 (Nat.le_of_ble_eq_true rfl) (Nat.le_of_ble_eq_true rfl) rfl rfl rfl (Nat.le_of_ble_eq_true rfl) rfl ⟨(Nat.le_of_ble_eq_true rfl), (Nat.le_of_ble_eq_true rfl)⟩ (ct_X12_puts hfl (hS.sub (Nat.le_of_ble_eq_true rfl) (Nat.le_of_ble_eq_true rfl)) h_r5) ?_
      refine pg_aload_n dX12_mends_29 rfl ?_
      refine pg_iconst 0 dX12_mends_30 rfl ?_
      refine eg_put dX12_mends_31 fa_X12_82 hS sp128 (Nat.le_of_ble_eq_true rfl) (Nat.le_of_ble_eq_true rfl) rfl (Nat.le_of_ble_eq_true rfl) rfl (fun m6 e_m6 => ?_)
      replace h := lt_at h e_m6
      refine pg_iconst 0 dX12_mends_34 rfl ?_
      refine eg_istore_n [some (.ref 128), some (.int v1), some (.int 0)] 0 dX12_mends_35 rfl (Nat.le_of_ble_eq_true rfl) rfl ?_
      obtain ⟨s11, h_s11, h⟩ := bd_at h
      refine lo_at (b := b_X12_mends_36 v1) (G := (fun z9 : Int32 × me => pm_G g mX12_mends X 36 [some (.ref 128), some (.int v1), some (.int z9.1)] [] (en S z9.2) 0 0)) (T := (fun z9 : Int32 × me => pm_G g mX12_mends X 67 [some (.ref 128), some (.int v1), some (.int z9.1)] [] (en S z9.2) 0 0)) (fun q9 r9 h1 h2 h3 => lb_X12_mends_36 hfl hS h1 h2 h3) 2048 (0, m6) s11 h_s11 ?_
      show pm_G g mX12_mends X 67 [some (.ref 128), some (.int v1), some (.int s11.1)] [] (en S s11.2) 0 0
      refine pg_iconst 0 dX12_mends_67 rfl ?_
      obtain rfl := Option.some.inj h
      exact hE.2.1 _ _ _ _ _ _ .int dX12_mends_68 rfl rfl (Nat.zero_le _) (Nat.zero_le _) ⟨rfl, rfl⟩
    · rw [if_pos c4] at h
      refine pg_iconst 2 dX12_mends_20 rfl ?_
      obtain rfl := Option.some.inj h
      exact hE.2.1 _ _ _ _ _ _ .int dX12_mends_21 rfl rfl (Nat.zero_le _) (Nat.zero_le _) ⟨rfl, rfl⟩
  · rw [if_pos c2] at h
    refine pg_iconst 1 dX12_mends_8 rfl ?_
    obtain rfl := Option.some.inj h
    exact hE.2.1 _ _ _ _ _ _ .int dX12_mends_9 rfl rfl (Nat.zero_le _) (Nat.zero_le _) ⟨rfl, rfl⟩
def f_X12_fix (v1 : Int32) (m0 : me) : Option (Int32 × me) :=
  bd (f_X12_hold m0) (fun r1 =>
  bd (f_X12_mends v1 r1) (fun r2 =>
  bd (f_X12_done r2.1 r2.2) (fun r3 =>
  some ((r3.1, r3.2)))))
set_option maxRecDepth 20000 in
set_option maxHeartbeats 4000000 in
theorem ct_X12_fix (hfl : g.1.stackTraces = false) (hS : pS 128 137 S) {v1 : Int32} {m0 : me} {x : (Int32 × me)} (h : f_X12_fix v1 m0 = some x) : pm_Ct g mX12_fix [.ref 128, .int v1] (en S m0) 0 0 (qI S x) qF := by
  refine pm_of (by decide +kernel) rfl hfl (Nat.le_of_ble_eq_true rfl) (fun X hE => ?_)
  show pm_G g mX12_fix X 0 [some (.ref 128), some (.int v1)] [] (en S m0) 0 0
  unfold f_X12_fix at h
  refine pg_aload_n dX12_fix_0 rfl ?_
  obtain ⟨r1, h_r1, h⟩ := bd_at h
  refine eg_cVv (C := mX12_hold) (as := []) dX12_fix_1 mw811 cv_X12_hold hS sp128 (Nat.le_of_ble_eq_true rfl) (Nat.le_of_ble_eq_true rfl) rfl rfl rfl (Nat.le_of_ble_eq_true rfl) rfl ⟨(Nat.le_of_ble_eq_true rfl), (Nat.le_of_ble_eq_true rfl)⟩ (ct_X12_hold hfl (hS.sub (Nat.le_of_ble_eq_true rfl) (Nat.le_of_ble_eq_true rfl)) h_r1) ?_
  refine pg_aload_n dX12_fix_4 rfl ?_
  refine pg_aload_n dX12_fix_5 rfl ?_
  refine pg_iload_n dX12_fix_6 rfl ?_
  obtain ⟨r2, h_r2, h⟩ := bd_at h
  refine eg_cVi (C := mX12_mends) (as := [(.int v1)]) dX12_fix_7 mw868 cv_X12_mends hS sp128 (Nat.le_of_ble_eq_true rfl) (Nat.le_of_ble_eq_true rfl) rfl rfl rfl (Nat.le_of_ble_eq_true rfl) rfl ⟨(Nat.le_of_ble_eq_true rfl), (Nat.le_of_ble_eq_true rfl)⟩ (ct_X12_mends hfl (hS.sub (Nat.le_of_ble_eq_true rfl) (Nat.le_of_ble_eq_true rfl)) h_r2) ?_
  obtain ⟨r3, h_r3, h⟩ := bd_at h
  refine eg_cVi (C := mX12_done) (as := [(.int r2.1)]) dX12_fix_10 mw832 cv_X12_done hS sp128 (Nat.le_of_ble_eq_true rfl) (Nat.le_of_ble_eq_true rfl) rfl rfl rfl (Nat.le_of_ble_eq_true rfl) rfl ⟨(Nat.le_of_ble_eq_true rfl), (Nat.le_of_ble_eq_true rfl)⟩ (ct_X12_done hfl (hS.sub (Nat.le_of_ble_eq_true rfl) (Nat.le_of_ble_eq_true rfl)) h_r3) ?_
  obtain rfl := Option.some.inj h
  exact hE.2.1 _ _ _ _ _ _ .int dX12_fix_13 rfl rfl (Nat.zero_le _) (Nat.zero_le _) ⟨rfl, rfl⟩
end
