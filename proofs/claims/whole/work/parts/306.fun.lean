section
variable {g : pm_Gl} {X : pm_X} {S : List sF}
def f_X12_entryOf (v1 : Int32) (v2 : Int32) (m0 : me) : Option (Int32 × me) :=
  gd (inR ((51 + (16 * v1)) + (2 * v2)) 487) (
  lt (m0.1 129 (((51 + (16 * v1)) + (2 * v2)).toNatClampNeg)) (fun w1 =>
  if w1 = (-1) then
    some (((-1), m0))
  else
    gd (inR (((51 + (16 * v1)) + (2 * v2)) + 1) 487) (
    if 50 < ((m0.1 129 1) - (m0.1 129 ((((51 + (16 * v1)) + (2 * v2)) + 1).toNatClampNeg))) then
      some (((-1), m0))
    else
      some ((w1, m0)))))
set_option maxRecDepth 20000 in
set_option maxHeartbeats 4000000 in
theorem ct_X12_entryOf (hfl : g.1.stackTraces = false) (hS : pS 128 137 S) {v1 : Int32} {v2 : Int32} {m0 : me} {x : (Int32 × me)} (h : f_X12_entryOf v1 v2 m0 = some x) : pm_Ct g mX12_entryOf [.ref 128, .int v1, .int v2] (en S m0) 0 0 (qI S x) qF := by
  refine pm_of (by decide +kernel) rfl hfl (Nat.le_of_ble_eq_true rfl) (fun X hE => ?_)
  show pm_G g mX12_entryOf X 0 [some (.ref 128), some (.int v1), some (.int v2), none] [] (en S m0) 0 0
  unfold f_X12_entryOf at h
  refine pg_aload_n dX12_entryOf_0 rfl ?_
  refine eg_get dX12_entryOf_1 fa_X12_7 hS sp128 (Nat.le_of_ble_eq_true rfl) (Nat.le_of_ble_eq_true rfl) rfl rfl ?_
  refine pg_bipush 51 dX12_entryOf_4 rfl ?_
  refine pg_bipush 16 dX12_entryOf_6 rfl ?_
  refine pg_iload_n dX12_entryOf_8 rfl ?_
  refine pg_imul dX12_entryOf_9 ?_
  refine pg_iadd dX12_entryOf_10 ?_
  refine pg_iconst 2 dX12_entryOf_11 rfl ?_
  refine pg_iload_n dX12_entryOf_12 rfl ?_
  refine pg_imul dX12_entryOf_13 ?_
  refine pg_iadd dX12_entryOf_14 ?_
  obtain ⟨g1, h⟩ := gd_at h
  refine eg_ialdJ (((51 + (16 * v1)) + (2 * v2)).toNatClampNeg) dX12_entryOf_15 hS sp129 (Nat.le_of_ble_eq_true rfl) (Nat.le_of_ble_eq_true rfl) rfl (inR_vp g1) rfl ?_
  obtain ⟨w1, e_w1⟩ : ∃ z : Int32, z = m0.1 129 (((51 + (16 * v1)) + (2 * v2)).toNatClampNeg) := ⟨_, rfl⟩
  replace h := lt_at h e_w1
  refine eg_istore_n [some (.ref 128), some (.int v1), some (.int v2), some (.int w1)] w1 dX12_entryOf_16 e_w1 (Nat.le_of_ble_eq_true rfl) rfl ?_
  refine pg_iload_n dX12_entryOf_17 rfl ?_
  refine pg_iconst (-1) dX12_entryOf_18 rfl ?_
  refine pg_icmp_eq 56 dX12_entryOf_19 (by decide) (fun c2 => ?_) (fun c2 => ?_)
  · rw [if_pos c2] at h
    refine pg_iconst (-1) dX12_entryOf_56 rfl ?_
    obtain rfl := Option.some.inj h
    exact hE.2.1 _ _ _ _ _ _ .int dX12_entryOf_57 rfl rfl (Nat.zero_le _) (Nat.zero_le _) ⟨rfl, rfl⟩
  · rw [if_neg c2] at h
    refine pg_aload_n dX12_entryOf_22 rfl ?_
    refine eg_get dX12_entryOf_23 fa_X12_7 hS sp128 (Nat.le_of_ble_eq_true rfl) (Nat.le_of_ble_eq_true rfl) rfl rfl ?_
    refine pg_iconst 1 dX12_entryOf_26 rfl ?_
    refine eg_ialdJ 1 dX12_entryOf_27 hS sp129 (Nat.le_of_ble_eq_true rfl) (Nat.le_of_ble_eq_true rfl) rfl (inR_vp rfl) rfl ?_
    refine pg_aload_n dX12_entryOf_28 rfl ?_
    refine eg_get dX12_entryOf_29 fa_X12_7 hS sp128 (Nat.le_of_ble_eq_true rfl) (Nat.le_of_ble_eq_true rfl) rfl rfl ?_
    refine pg_bipush 51 dX12_entryOf_32 rfl ?_
    refine pg_bipush 16 dX12_entryOf_34 rfl ?_
    refine pg_iload_n dX12_entryOf_36 rfl ?_
    refine pg_imul dX12_entryOf_37 ?_
    refine pg_iadd dX12_entryOf_38 ?_
    refine pg_iconst 2 dX12_entryOf_39 rfl ?_
    refine pg_iload_n dX12_entryOf_40 rfl ?_
    refine pg_imul dX12_entryOf_41 ?_
    refine pg_iadd dX12_entryOf_42 ?_
    refine pg_iconst 1 dX12_entryOf_43 rfl ?_
    refine pg_iadd dX12_entryOf_44 ?_
    obtain ⟨g1, h⟩ := gd_at h
    refine eg_ialdJ ((((51 + (16 * v1)) + (2 * v2)) + 1).toNatClampNeg) dX12_entryOf_45 hS sp129 (Nat.le_of_ble_eq_true rfl) (Nat.le_of_ble_eq_true rfl) rfl (inR_vp g1) rfl ?_
    refine pg_isub dX12_entryOf_46 ?_
    refine pg_bipush 50 dX12_entryOf_47 rfl ?_
    refine pg_icmp_gt 56 dX12_entryOf_49 (by decide) (fun c3 => ?_) (fun c3 => ?_)
    · rw [if_pos c3] at h
      refine pg_iconst (-1) dX12_entryOf_56 rfl ?_
      obtain rfl := Option.some.inj h
      exact hE.2.1 _ _ _ _ _ _ .int dX12_entryOf_57 rfl rfl (Nat.zero_le _) (Nat.zero_le _) ⟨rfl, rfl⟩
    · rw [if_neg c3] at h
      refine pg_iload_n dX12_entryOf_52 rfl ?_
      refine pg_goto 57 dX12_entryOf_53 (by decide) ?_
      obtain rfl := Option.some.inj h
      exact hE.2.1 _ _ _ _ _ _ .int dX12_entryOf_57 rfl rfl (Nat.zero_le _) (Nat.zero_le _) ⟨rfl, rfl⟩
def j_X12_send_14 (m0 : me) : Option (Int32 × me) :=
  bd (f_X12_fails 1 m0) (fun r3 =>
  some ((r3.1, r3.2)))
def j_X12_send_263 (v1 : Int32) (v2 : Int32) (v3 : Int32) (v4 : Int32) (v5 : Int32) (v6 : Int32) (v7 : Int32) (v8 : Int32) (v9 : Int32) (v10 : Int32) (v11 : Int32) (v12 : Int32) (m0 : me) : Option ((Int32 × Int32 × Int32 × Int32 × me) ⊕ (Int32 × Int32 × Int32 × Int32 × me)) :=
  bd (f_X12_other v12 v8 m0) (fun r29 =>
  lt (v5 + 1) (fun w30 =>
  if ((v4 >>> (r29.1 &&& 31)) &&& 1) = 0 then
    lt (v4 ||| (1 <<< (r29.1 &&& 31))) (fun w33 =>
    gd (inR v3 8) (
    lt (wI r29.2 134 v3.toNatClampNeg r29.1) (fun m34 =>
    gd (inR v3 8) (
    lt (wI m34 135 v3.toNatClampNeg v12) (fun m35 =>
    lt (v3 + 1) (fun w36 =>
    bd (f_X12_learns r29.1 v1 v12 m35) (fun r37 =>
    lt (v12 + 1) (fun w38 =>
    some (.inl (w36, w33, w30, w38, r37))))))))))
  else
    lt (v12 + 1) (fun w32 =>
    some (.inl (v3, v4, w30, w32, r29.2)))))
def b_X12_send_200 (v1 : Int32) (v2 : Int32) (v6 : Int32) (v7 : Int32) (v8 : Int32) (v9 : Int32) (v10 : Int32) (v11 : Int32) (s : Int32 × Int32 × Int32 × Int32 × me) : Option ((Int32 × Int32 × Int32 × Int32 × me) ⊕ (Int32 × Int32 × Int32 × Int32 × me)) :=
  if (s.2.2.2.2.1 129 5) ≤ s.2.2.2.1 then
    some (.inr (s.1, s.2.1, s.2.2.1, s.2.2.2.1, s.2.2.2.2))
  else
    if v11 = 0 then
      bd (f_X12_isAt s.2.2.2.1 v8 s.2.2.2.2) (fun r20 =>
      if r20.1 = 0 then
        lt (s.2.2.2.1 + 1) (fun w22 =>
        some (.inl (s.1, s.2.1, s.2.2.1, w22, r20.2)))
      else
        bd (f_X12_carries s.2.2.2.1 r20.2) (fun r23 =>
        if r23.1 = 0 then
          lt (s.2.2.2.1 + 1) (fun w25 =>
          some (.inl (s.1, s.2.1, s.2.2.1, w25, r23.2)))
        else
          if v10 = 0 then
            gd (inR v7 8) (
            if s.2.2.2.1 = (r23.2.1 135 v7.toNatClampNeg) then
              lt (s.2.2.2.1 + 1) (fun w28 =>
              some (.inl (s.1, s.2.1, s.2.2.1, w28, r23.2)))
            else
              j_X12_send_263 v1 v2 s.1 s.2.1 s.2.2.1 v6 v7 v8 v9 v10 v11 s.2.2.2.1 r23.2)
          else
            if s.2.2.2.1 = v9 then
              j_X12_send_263 v1 v2 s.1 s.2.1 s.2.2.1 v6 v7 v8 v9 v10 v11 s.2.2.2.1 r23.2
            else
              lt (s.2.2.2.1 + 1) (fun w40 =>
              some (.inl (s.1, s.2.1, s.2.2.1, w40, r23.2)))))
    else
      some (.inr (s.1, s.2.1, s.2.2.1, s.2.2.2.1, s.2.2.2.2))
def j_X12_send_195 (v1 : Int32) (v2 : Int32) (v3 : Int32) (v4 : Int32) (v5 : Int32) (v6 : Int32) (v7 : Int32) (v8 : Int32) (v9 : Int32) (v10 : Int32) (v11 : Int32) (u0 : Int32) (m0 : me) : Option ((Int32 × Int32 × Int32 × Int32 × Int32 × me) ⊕ (Int32 × Int32 × Int32 × Int32 × Int32 × me)) :=
  bd (lo (b_X12_send_200 v1 v2 u0 v7 v8 v9 v10 v11) 2048 (v3, v4, v5, 0, m0)) (fun s41 =>
  lt (v7 + 1) (fun w42 =>
  some (.inl (s41.1, s41.2.1, s41.2.2.1, u0, w42, s41.2.2.2.2))))
def j_X12_send_180 (v1 : Int32) (v2 : Int32) (v3 : Int32) (v4 : Int32) (v5 : Int32) (v6 : Int32) (v7 : Int32) (v8 : Int32) (v9 : Int32) (v10 : Int32) (u0 : Int32) (m0 : me) : Option ((Int32 × Int32 × Int32 × Int32 × Int32 × me) ⊕ (Int32 × Int32 × Int32 × Int32 × Int32 × me)) :=
  if u0 = 0 then
    j_X12_send_195 v1 v2 v3 v4 v5 v6 v7 v8 v9 v10 u0 v6 m0
  else
    j_X12_send_195 v1 v2 v3 v4 v5 v6 v7 v8 v9 v10 u0 1000 m0
def j_X12_send_158 (v1 : Int32) (v2 : Int32) (v3 : Int32) (v4 : Int32) (v5 : Int32) (v6 : Int32) (v7 : Int32) (v8 : Int32) (v9 : Int32) (u0 : Int32) (m0 : me) : Option ((Int32 × Int32 × Int32 × Int32 × Int32 × me) ⊕ (Int32 × Int32 × Int32 × Int32 × Int32 × me)) :=
  gd (inR (179 + v2) 487) (
  if (m0.1 129 ((179 + v2).toNatClampNeg)) = v8 then
    j_X12_send_180 v1 v2 v3 v4 v5 v6 v7 v8 v9 u0 1 m0
  else
    j_X12_send_180 v1 v2 v3 v4 v5 v6 v7 v8 v9 u0 0 m0)
def j_X12_send_157 (v1 : Int32) (v2 : Int32) (v3 : Int32) (v4 : Int32) (v5 : Int32) (v6 : Int32) (v7 : Int32) (v8 : Int32) (v9 : Int32) (m0 : me) : Option ((Int32 × Int32 × Int32 × Int32 × Int32 × me) ⊕ (Int32 × Int32 × Int32 × Int32 × Int32 × me)) :=
  j_X12_send_158 v1 v2 v3 v4 v5 v6 v7 v8 v9 0 m0
def b_X12_send_96 (v1 : Int32) (v2 : Int32) (s : Int32 × Int32 × Int32 × Int32 × Int32 × me) : Option ((Int32 × Int32 × Int32 × Int32 × Int32 × me) ⊕ (Int32 × Int32 × Int32 × Int32 × Int32 × me)) :=
  if s.1 ≤ s.2.2.2.2.1 then
    some (.inr (s.1, s.2.1, s.2.2.1, s.2.2.2.1, s.2.2.2.2.1, s.2.2.2.2.2))
  else
    gd (inR s.2.2.2.2.1 8) (
    lt (s.2.2.2.2.2.1 134 s.2.2.2.2.1.toNatClampNeg) (fun w13 =>
    bd (f_X12_entryOf w13 v2 s.2.2.2.2.2) (fun r14 =>
    if r14.1 < 0 then
      j_X12_send_157 v1 v2 s.1 s.2.1 s.2.2.1 s.2.2.2.1 s.2.2.2.2.1 w13 r14.1 r14.2
    else
      if 100 ≤ r14.1 then
        j_X12_send_157 v1 v2 s.1 s.2.1 s.2.2.1 s.2.2.2.1 s.2.2.2.2.1 w13 r14.1 r14.2
      else
        bd (f_X12_carries r14.1 r14.2) (fun r44 =>
        if r44.1 = 0 then
          j_X12_send_157 v1 v2 s.1 s.2.1 s.2.2.1 s.2.2.2.1 s.2.2.2.2.1 w13 r14.1 r44.2
        else
          gd (inR s.2.2.2.2.1 8) (
          if r14.1 = (r44.2.1 135 s.2.2.2.2.1.toNatClampNeg) then
            j_X12_send_157 v1 v2 s.1 s.2.1 s.2.2.1 s.2.2.2.1 s.2.2.2.2.1 w13 r14.1 r44.2
          else
            j_X12_send_158 v1 v2 s.1 s.2.1 s.2.2.1 s.2.2.2.1 s.2.2.2.2.1 w13 r14.1 1 r44.2)))))
def f_X12_send (v1 : Int32) (v2 : Int32) (m0 : me) : Option (Int32 × me) :=
  bd (f_X12_isHost v1 m0) (fun r1 =>
  if r1.1 = 0 then
    j_X12_send_14 r1.2
  else
    bd (f_X12_isHost v2 r1.2) (fun r4 =>
    if r4.1 = 0 then
      j_X12_send_14 r4.2
    else
      if v1 = v2 then
        bd (f_X12_fails 2 r4.2) (fun r52 =>
        some ((r52.1, r52.2)))
      else
        bd (f_X12_hold r4.2) (fun r7 =>
        gd (inR (179 + v1) 487) (
        lt (1 <<< ((r7.1 129 ((179 + v1).toNatClampNeg)) &&& 31)) (fun w8 =>
        gd (inR (179 + v1) 487) (
        lt (wI r7 134 0 (r7.1 129 ((179 + v1).toNatClampNeg))) (fun m9 =>
        lt (wI m9 135 0 (-1)) (fun m10 =>
        bd (f_X12_learns (m10.1 134 0) v1 100 m10) (fun r11 =>
        bd (lo (b_X12_send_96 v1 v2) 2048 (1, w8, 0, 0, 0, r11)) (fun s47 =>
        lt (wI s47.2.2.2.2.2 129 8 ((s47.2.2.2.2.2.1 129 8) + 1)) (fun m48 =>
        lt (wI m48 129 9 ((m48.1 129 9) + (s47.2.2.2.1 / 1000))) (fun m49 =>
        lt (wI m49 129 10 ((m49.1 129 10) + s47.2.2.1)) (fun m50 =>
        bd (f_X12_ends (s47.2.2.1 + s47.2.2.2.1) m50) (fun r51 =>
        some ((r51.1, r51.2))))))))))))))))
set_option maxRecDepth 20000 in
set_option maxHeartbeats 4000000 in
theorem lj_X12_send_14 (hfl : g.1.stackTraces = false) (hS : pS 128 137 S) {m0 : me} {r : (Int32 × me)} (h : j_X12_send_14 m0 = some r) (hE : pm_End g mX12_send X 0 0 (qI S r) qF) : pm_G g mX12_send X 14 [some (.ref 128), none, none, none, none, none, none, none, none, none, none, none, none, none] [] (en S m0) 0 0 := by
  unfold j_X12_send_14 at h
  refine pg_aload_n dX12_send_14 rfl ?_
  refine pg_iconst 1 dX12_send_15 rfl ?_
  obtain ⟨r3, h_r3, h⟩ := bd_at h
  refine eg_cVi (C := mX12_fails) (as := [(.int 1)]) dX12_send_16 mw806 cv_X12_fails hS sp128 (Nat.le_of_ble_eq_true rfl) (Nat.le_of_ble_eq_true rfl) rfl rfl rfl (Nat.le_of_ble_eq_true rfl) rfl ⟨(Nat.le_of_ble_eq_true rfl), (Nat.le_of_ble_eq_true rfl)⟩ (ct_X12_fails hfl (hS.sub (Nat.le_of_ble_eq_true rfl) (Nat.le_of_ble_eq_true rfl)) h_r3) ?_
  obtain rfl := Option.some.inj h
  exact hE.2.1 _ _ _ _ _ _ .int dX12_send_19 rfl rfl (Nat.zero_le _) (Nat.zero_le _) ⟨rfl, rfl⟩
set_option maxRecDepth 20000 in
set_option maxHeartbeats 4000000 in
theorem lj_X12_send_263 (hfl : g.1.stackTraces = false) (hS : pS 128 137 S) {v1 : Int32} {v2 : Int32} {v3 : Int32} {v4 : Int32} {v5 : Int32} {v6 : Int32} {v7 : Int32} {v8 : Int32} {v9 : Int32} {v10 : Int32} {v11 : Int32} {v12 : Int32} {m0 : me} {r : (Int32 × Int32 × Int32 × Int32 × me) ⊕ (Int32 × Int32 × Int32 × Int32 × me)} (h : j_X12_send_263 v1 v2 v3 v4 v5 v6 v7 v8 v9 v10 v11 v12 m0 = some r) (hN : ∀ s', r = .inl s' → (fun z9 : Int32 × Int32 × Int32 × Int32 × me => pm_G g mX12_send X 200 [some (.ref 128), some (.int v1), some (.int v2), some (.int z9.1), some (.int z9.2.1), some (.int z9.2.2.1), some (.int v6), some (.int v7), some (.int v8), some (.int v9), some (.int v10), some (.int v11), some (.int z9.2.2.2.1), none] [] (en S z9.2.2.2.2) 0 0) s') (hT : ∀ t, r = .inr t → (fun z9 : Int32 × Int32 × Int32 × Int32 × me => pm_G g mX12_send X 329 [some (.ref 128), some (.int v1), some (.int v2), some (.int z9.1), some (.int z9.2.1), some (.int z9.2.2.1), some (.int v6), some (.int v7), some (.int v8), some (.int v9), some (.int v10), some (.int v11), some (.int z9.2.2.2.1), none] [] (en S z9.2.2.2.2) 0 0) t) : pm_G g mX12_send X 263 [some (.ref 128), some (.int v1), some (.int v2), some (.int v3), some (.int v4), some (.int v5), some (.int v6), some (.int v7), some (.int v8), some (.int v9), some (.int v10), some (.int v11), some (.int v12), none] [] (en S m0) 0 0 := by
  unfold j_X12_send_263 at h
  refine pg_aload_n dX12_send_263 rfl ?_
  refine pg_iload dX12_send_264 rfl ?_
  refine pg_iload dX12_send_266 rfl ?_
  obtain ⟨r29, h_r29, h⟩ := bd_at h
  refine eg_cVi (C := mX12_other) (as := [(.int v12), (.int v8)]) dX12_send_268 mw937 cv_X12_other hS sp128 (Nat.le_of_ble_eq_true rfl) (Nat.le_of_ble_eq_true rfl) rfl rfl rfl (Nat.le_of_ble_eq_true rfl) rfl ⟨(Nat.le_of_ble_eq_true rfl), (Nat.le_of_ble_eq_true rfl)⟩ (ct_X12_other hfl (hS.sub (Nat.le_of_ble_eq_true rfl) (Nat.le_of_ble_eq_true rfl)) h_r29) ?_
  refine eg_istore [some (.ref 128), some (.int v1), some (.int v2), some (.int v3), some (.int v4), some (.int v5), some (.int v6), some (.int v7), some (.int v8), some (.int v9), some (.int v10), some (.int v11), some (.int v12), some (.int r29.1)] r29.1 dX12_send_271 rfl (Nat.le_of_ble_eq_true rfl) rfl ?_
  obtain ⟨w30, e_w30⟩ : ∃ z : Int32, z = v5 + 1 := ⟨_, rfl⟩
  replace h := lt_at h e_w30
  refine eg_iinc [some (.ref 128), some (.int v1), some (.int v2), some (.int v3), some (.int v4), some (.int w30), some (.int v6), some (.int v7), some (.int v8), some (.int v9), some (.int v10), some (.int v11), some (.int v12), some (.int r29.1)] w30 1 dX12_send_273 rfl rfl e_w30 rfl ?_
  refine pg_iload dX12_send_276 rfl ?_
  refine pg_iload dX12_send_278 rfl ?_
  refine pg_ishr dX12_send_280 ?_
  refine pg_iconst 1 dX12_send_281 rfl ?_
  refine pg_iand dX12_send_282 ?_
  refine pg_if_ne 323 dX12_send_283 (by decide) (fun c31 => ?_) (fun c31 => ?_)
  · rw [if_neg c31] at h
    obtain ⟨w32, e_w32⟩ : ∃ z : Int32, z = v12 + 1 := ⟨_, rfl⟩
    replace h := lt_at h e_w32
    refine eg_iinc [some (.ref 128), some (.int v1), some (.int v2), some (.int v3), some (.int v4), some (.int w30), some (.int v6), some (.int v7), some (.int v8), some (.int v9), some (.int v10), some (.int v11), some (.int w32), some (.int r29.1)] w32 1 dX12_send_323 rfl rfl e_w32 rfl ?_
    refine pg_goto 200 dX12_send_326 (by decide) ?_
    obtain rfl := Option.some.inj h
    refine eg_forget [some (.ref 128), some (.int v1), some (.int v2), some (.int v3), some (.int v4), some (.int w30), some (.int v6), some (.int v7), some (.int v8), some (.int v9), some (.int v10), some (.int v11), some (.int w32), none] (show pm_sub _ _ from ⟨rfl, ⟨rfl, ⟨rfl, ⟨rfl, ⟨rfl, ⟨rfl, ⟨rfl, ⟨rfl, ⟨rfl, ⟨rfl, ⟨rfl, ⟨rfl, ⟨rfl, trivial⟩⟩⟩⟩⟩⟩⟩⟩⟩⟩⟩⟩⟩) ?_
    exact hN _ rfl
  · rw [if_pos c31] at h
    refine pg_iload dX12_send_286 rfl ?_
    refine pg_iconst 1 dX12_send_288 rfl ?_
    refine pg_iload dX12_send_289 rfl ?_
    refine pg_ishl dX12_send_291 ?_
    refine pg_ior dX12_send_292 ?_
    obtain ⟨w33, e_w33⟩ : ∃ z : Int32, z = v4 ||| (1 <<< (r29.1 &&& 31)) := ⟨_, rfl⟩
    replace h := lt_at h e_w33
    refine eg_istore [some (.ref 128), some (.int v1), some (.int v2), some (.int v3), some (.int w33), some (.int w30), some (.int v6), some (.int v7), some (.int v8), some (.int v9), some (.int v10), some (.int v11), some (.int v12), some (.int r29.1)] w33 dX12_send_293 e_w33 (Nat.le_of_ble_eq_true rfl) rfl ?_
    refine pg_aload_n dX12_send_295 rfl ?_
    refine eg_get dX12_send_296 fa_X12_25 hS sp128 (Nat.le_of_ble_eq_true rfl) (Nat.le_of_ble_eq_true rfl) rfl rfl ?_
    refine pg_iload_n dX12_send_299 rfl ?_
    refine pg_iload dX12_send_300 rfl ?_
    obtain ⟨g1, h⟩ := gd_at h
    refine eg_iastJ v3.toNatClampNeg dX12_send_302 hS sp134 (Nat.le_of_ble_eq_true rfl) (Nat.le_of_ble_eq_true rfl) (fun _ _ _ => rfl) (inR_vp g1) rfl (fun m34 e_m34 => ?_)
    replace h := lt_at h e_m34
    refine pg_aload_n dX12_send_303 rfl ?_
    refine eg_get dX12_send_304 fa_X12_28 hS sp128 (Nat.le_of_ble_eq_true rfl) (Nat.le_of_ble_eq_true rfl) rfl rfl ?_
    refine pg_iload_n dX12_send_307 rfl ?_
    refine pg_iload dX12_send_308 rfl ?_
    obtain ⟨g1, h⟩ := gd_at h
    refine eg_iastJ v3.toNatClampNeg dX12_send_310 hS sp135 (Nat.le_of_ble_eq_true rfl) (Nat.le_of_ble_eq_true rfl) (fun _ _ _ => rfl) (inR_vp g1) rfl (fun m35 e_m35 => ?_)
    replace h := lt_at h e_m35
    obtain ⟨w36, e_w36⟩ : ∃ z : Int32, z = v3 + 1 := ⟨_, rfl⟩
    replace h := lt_at h e_w36
    refine eg_iinc [some (.ref 128), some (.int v1), some (.int v2), some (.int w36), some (.int w33), some (.int w30), some (.int v6), some (.int v7), some (.int v8), some (.int v9), some (.int v10), some (.int v11), some (.int v12), some (.int r29.1)] w36 1 dX12_send_311 rfl rfl e_w36 rfl ?_
    refine pg_aload_n dX12_send_314 rfl ?_
    refine pg_iload dX12_send_315 rfl ?_
    refine pg_iload_n dX12_send_317 rfl ?_
    refine pg_iload dX12_send_318 rfl ?_
    obtain ⟨r37, h_r37, h⟩ := bd_at h
    refine eg_cVv (C := mX12_learns) (as := [(.int r29.1), (.int v1), (.int v12)]) dX12_send_320 mw972 cv_X12_learns hS sp128 (Nat.le_of_ble_eq_true rfl) (Nat.le_of_ble_eq_true rfl) rfl rfl rfl (Nat.le_of_ble_eq_true rfl) rfl ⟨(Nat.le_of_ble_eq_true rfl), (Nat.le_of_ble_eq_true rfl)⟩ (ct_X12_learns hfl (hS.sub (Nat.le_of_ble_eq_true rfl) (Nat.le_of_ble_eq_true rfl)) h_r37) ?_
    obtain ⟨w38, e_w38⟩ : ∃ z : Int32, z = v12 + 1 := ⟨_, rfl⟩
    replace h := lt_at h e_w38
    refine eg_iinc [some (.ref 128), some (.int v1), some (.int v2), some (.int w36), some (.int w33), some (.int w30), some (.int v6), some (.int v7), some (.int v8), some (.int v9), some (.int v10), some (.int v11), some (.int w38), some (.int r29.1)] w38 1 dX12_send_323 rfl rfl e_w38 rfl ?_
    refine pg_goto 200 dX12_send_326 (by decide) ?_
    obtain rfl := Option.some.inj h
    refine eg_forget [some (.ref 128), some (.int v1), some (.int v2), some (.int w36), some (.int w33), some (.int w30), some (.int v6), some (.int v7), some (.int v8), some (.int v9), some (.int v10), some (.int v11), some (.int w38), none] (show pm_sub _ _ from ⟨rfl, ⟨rfl, ⟨rfl, ⟨rfl, ⟨rfl, ⟨rfl, ⟨rfl, ⟨rfl, ⟨rfl, ⟨rfl, ⟨rfl, ⟨rfl, ⟨rfl, trivial⟩⟩⟩⟩⟩⟩⟩⟩⟩⟩⟩⟩⟩) ?_
    exact hN _ rfl
set_option maxRecDepth 20000 in
set_option maxHeartbeats 4000000 in
theorem lb_X12_send_200 (hfl : g.1.stackTraces = false) (hS : pS 128 137 S) {v1 : Int32} {v2 : Int32} {v6 : Int32} {v7 : Int32} {v8 : Int32} {v9 : Int32} {v10 : Int32} {v11 : Int32} {s : Int32 × Int32 × Int32 × Int32 × me} {r : (Int32 × Int32 × Int32 × Int32 × me) ⊕ (Int32 × Int32 × Int32 × Int32 × me)} (h : b_X12_send_200 v1 v2 v6 v7 v8 v9 v10 v11 s = some r) (hN : ∀ s', r = .inl s' → (fun z9 : Int32 × Int32 × Int32 × Int32 × me => pm_G g mX12_send X 200 [some (.ref 128), some (.int v1), some (.int v2), some (.int z9.1), some (.int z9.2.1), some (.int z9.2.2.1), some (.int v6), some (.int v7), some (.int v8), some (.int v9), some (.int v10), some (.int v11), some (.int z9.2.2.2.1), none] [] (en S z9.2.2.2.2) 0 0) s') (hT : ∀ t, r = .inr t → (fun z9 : Int32 × Int32 × Int32 × Int32 × me => pm_G g mX12_send X 329 [some (.ref 128), some (.int v1), some (.int v2), some (.int z9.1), some (.int z9.2.1), some (.int z9.2.2.1), some (.int v6), some (.int v7), some (.int v8), some (.int v9), some (.int v10), some (.int v11), some (.int z9.2.2.2.1), none] [] (en S z9.2.2.2.2) 0 0) t) : (fun z9 : Int32 × Int32 × Int32 × Int32 × me => pm_G g mX12_send X 200 [some (.ref 128), some (.int v1), some (.int v2), some (.int z9.1), some (.int z9.2.1), some (.int z9.2.2.1), some (.int v6), some (.int v7), some (.int v8), some (.int v9), some (.int v10), some (.int v11), some (.int z9.2.2.2.1), none] [] (en S z9.2.2.2.2) 0 0) s := by
  unfold b_X12_send_200 at h
  show pm_G g mX12_send X 200 [some (.ref 128), some (.int v1), some (.int v2), some (.int s.1), some (.int s.2.1), some (.int s.2.2.1), some (.int v6), some (.int v7), some (.int v8), some (.int v9), some (.int v10), some (.int v11), some (.int s.2.2.2.1), none] [] (en S s.2.2.2.2) 0 0
  refine pg_iload dX12_send_200 rfl ?_
  refine pg_aload_n dX12_send_202 rfl ?_
  refine eg_get dX12_send_203 fa_X12_7 hS sp128 (Nat.le_of_ble_eq_true rfl) (Nat.le_of_ble_eq_true rfl) rfl rfl ?_
  refine pg_iconst 5 dX12_send_206 rfl ?_
  refine eg_ialdJ 5 dX12_send_207 hS sp129 (Nat.le_of_ble_eq_true rfl) (Nat.le_of_ble_eq_true rfl) rfl (inR_vp rfl) rfl ?_
  refine pg_icmp_ge 329 dX12_send_208 (by decide) (fun c18 => ?_) (fun c18 => ?_)
  · rw [if_pos c18] at h
    obtain rfl := Option.some.inj h
    exact hT _ rfl
  · rw [if_neg c18] at h
    refine pg_iload dX12_send_211 rfl ?_
    refine pg_if_ne 329 dX12_send_213 (by decide) (fun c19 => ?_) (fun c19 => ?_)
    · rw [if_neg c19] at h
      obtain rfl := Option.some.inj h
      exact hT _ rfl
    · rw [if_pos c19] at h
      refine pg_aload_n dX12_send_216 rfl ?_
      refine pg_iload dX12_send_217 rfl ?_
      refine pg_iload dX12_send_219 rfl ?_
      obtain ⟨r20, h_r20, h⟩ := bd_at h
      refine eg_cVi (C := mX12_isAt) (as := [(.int s.2.2.2.1), (.int v8)]) dX12_send_221 mw942 cv_X12_isAt hS sp128 (Nat.le_of_ble_eq_true rfl) (Nat.le_of_ble_eq_true rfl) rfl rfl rfl (Nat.le_of_ble_eq_true rfl) rfl ⟨(Nat.le_of_ble_eq_true rfl), (Nat.le_of_ble_eq_true rfl)⟩ (ct_X12_isAt hfl (hS.sub (Nat.le_of_ble_eq_true rfl) (Nat.le_of_ble_eq_true rfl)) h_r20) ?_
      refine pg_if_eq 323 dX12_send_224 (by decide) (fun c21 => ?_) (fun c21 => ?_)
      · rw [if_pos c21] at h
        obtain ⟨w22, e_w22⟩ : ∃ z : Int32, z = s.2.2.2.1 + 1 := ⟨_, rfl⟩
        replace h := lt_at h e_w22
        refine eg_iinc [some (.ref 128), some (.int v1), some (.int v2), some (.int s.1), some (.int s.2.1), some (.int s.2.2.1), some (.int v6), some (.int v7), some (.int v8), some (.int v9), some (.int v10), some (.int v11), some (.int w22), none] w22 1 dX12_send_323 rfl rfl e_w22 rfl ?_
        refine pg_goto 200 dX12_send_326 (by decide) ?_
        obtain rfl := Option.some.inj h
        exact hN _ rfl
      · rw [if_neg c21] at h
        refine pg_aload_n dX12_send_227 rfl ?_
        refine pg_iload dX12_send_228 rfl ?_
        obtain ⟨r23, h_r23, h⟩ := bd_at h
        refine eg_cVi (C := mX12_carries) (as := [(.int s.2.2.2.1)]) dX12_send_230 mw967 cv_X12_carries hS sp128 (Nat.le_of_ble_eq_true rfl) (Nat.le_of_ble_eq_true rfl) rfl rfl rfl (Nat.le_of_ble_eq_true rfl) rfl ⟨(Nat.le_of_ble_eq_true rfl), (Nat.le_of_ble_eq_true rfl)⟩ (ct_X12_carries hfl (hS.sub (Nat.le_of_ble_eq_true rfl) (Nat.le_of_ble_eq_true rfl)) h_r23) ?_
        refine pg_if_eq 323 dX12_send_233 (by decide) (fun c24 => ?_) (fun c24 => ?_)
        · rw [if_pos c24] at h
          obtain ⟨w25, e_w25⟩ : ∃ z : Int32, z = s.2.2.2.1 + 1 := ⟨_, rfl⟩
          replace h := lt_at h e_w25
          refine eg_iinc [some (.ref 128), some (.int v1), some (.int v2), some (.int s.1), some (.int s.2.1), some (.int s.2.2.1), some (.int v6), some (.int v7), some (.int v8), some (.int v9), some (.int v10), some (.int v11), some (.int w25), none] w25 1 dX12_send_323 rfl rfl e_w25 rfl ?_
          refine pg_goto 200 dX12_send_326 (by decide) ?_
          obtain rfl := Option.some.inj h
          exact hN _ rfl
        · rw [if_neg c24] at h
          refine pg_iload dX12_send_236 rfl ?_
          refine pg_if_eq 251 dX12_send_238 (by decide) (fun c26 => ?_) (fun c26 => ?_)
          · rw [if_pos c26] at h
            refine pg_iload dX12_send_251 rfl ?_
            refine pg_aload_n dX12_send_253 rfl ?_
            refine eg_get dX12_send_254 fa_X12_28 hS sp128 (Nat.le_of_ble_eq_true rfl) (Nat.le_of_ble_eq_true rfl) rfl rfl ?_
            refine pg_iload dX12_send_257 rfl ?_
            obtain ⟨g1, h⟩ := gd_at h
            refine eg_ialdJ v7.toNatClampNeg dX12_send_259 hS sp135 (Nat.le_of_ble_eq_true rfl) (Nat.le_of_ble_eq_true rfl) rfl (inR_vp g1) rfl ?_
            refine pg_icmp_eq 323 dX12_send_260 (by decide) (fun c27 => ?_) (fun c27 => ?_)
            · rw [if_pos c27] at h
              obtain ⟨w28, e_w28⟩ : ∃ z : Int32, z = s.2.2.2.1 + 1 := ⟨_, rfl⟩
              replace h := lt_at h e_w28
              refine eg_iinc [some (.ref 128), some (.int v1), some (.int v2), some (.int s.1), some (.int s.2.1), some (.int s.2.2.1), some (.int v6), some (.int v7), some (.int v8), some (.int v9), some (.int v10), some (.int v11), some (.int w28), none] w28 1 dX12_send_323 rfl rfl e_w28 rfl ?_
              refine pg_goto 200 dX12_send_326 (by decide) ?_
              obtain rfl := Option.some.inj h
              exact hN _ rfl
            · rw [if_neg c27] at h
              exact lj_X12_send_263 hfl hS h hN hT
          · rw [if_neg c26] at h
            refine pg_iload dX12_send_241 rfl ?_
            refine pg_iload dX12_send_243 rfl ?_
            refine pg_icmp_ne 323 dX12_send_245 (by decide) (fun c39 => ?_) (fun c39 => ?_)
            · rw [if_neg c39] at h
              obtain ⟨w40, e_w40⟩ : ∃ z : Int32, z = s.2.2.2.1 + 1 := ⟨_, rfl⟩
              replace h := lt_at h e_w40
              refine eg_iinc [some (.ref 128), some (.int v1), some (.int v2), some (.int s.1), some (.int s.2.1), some (.int s.2.2.1), some (.int v6), some (.int v7), some (.int v8), some (.int v9), some (.int v10), some (.int v11), some (.int w40), none] w40 1 dX12_send_323 rfl rfl e_w40 rfl ?_
              refine pg_goto 200 dX12_send_326 (by decide) ?_
              obtain rfl := Option.some.inj h
              exact hN _ rfl
            · rw [if_pos c39] at h
              refine pg_goto 263 dX12_send_248 (by decide) ?_
              exact lj_X12_send_263 hfl hS h hN hT
set_option maxRecDepth 20000 in
set_option maxHeartbeats 4000000 in
theorem lj_X12_send_195 (hfl : g.1.stackTraces = false) (hS : pS 128 137 S) {v1 : Int32} {v2 : Int32} {v3 : Int32} {v4 : Int32} {v5 : Int32} {v6 : Int32} {v7 : Int32} {v8 : Int32} {v9 : Int32} {v10 : Int32} {v11 : Int32} {u0 : Int32} {m0 : me} {r : (Int32 × Int32 × Int32 × Int32 × Int32 × me) ⊕ (Int32 × Int32 × Int32 × Int32 × Int32 × me)} (h : j_X12_send_195 v1 v2 v3 v4 v5 v6 v7 v8 v9 v10 v11 u0 m0 = some r) (hN : ∀ s', r = .inl s' → (fun z9 : Int32 × Int32 × Int32 × Int32 × Int32 × me => pm_G g mX12_send X 96 [some (.ref 128), some (.int v1), some (.int v2), some (.int z9.1), some (.int z9.2.1), some (.int z9.2.2.1), some (.int z9.2.2.2.1), some (.int z9.2.2.2.2.1), none, none, none, none, none, none] [] (en S z9.2.2.2.2.2) 0 0) s') (hT : ∀ t, r = .inr t → (fun z9 : Int32 × Int32 × Int32 × Int32 × Int32 × me => pm_G g mX12_send X 335 [some (.ref 128), some (.int v1), some (.int v2), some (.int z9.1), some (.int z9.2.1), some (.int z9.2.2.1), some (.int z9.2.2.2.1), some (.int z9.2.2.2.2.1), none, none, none, none, none, none] [] (en S z9.2.2.2.2.2) 0 0) t) : pm_G g mX12_send X 195 [some (.ref 128), some (.int v1), some (.int v2), some (.int v3), some (.int v4), some (.int v5), some (.int v6), some (.int v7), some (.int v8), some (.int v9), some (.int v10), some (.int v11), none, none] [(.int u0)] (en S m0) 0 0 := by
  unfold j_X12_send_195 at h
  refine eg_istore [some (.ref 128), some (.int v1), some (.int v2), some (.int v3), some (.int v4), some (.int v5), some (.int u0), some (.int v7), some (.int v8), some (.int v9), some (.int v10), some (.int v11), none, none] u0 dX12_send_195 rfl (Nat.le_of_ble_eq_true rfl) rfl ?_
  refine pg_iconst 0 dX12_send_197 rfl ?_
  refine eg_istore [some (.ref 128), some (.int v1), some (.int v2), some (.int v3), some (.int v4), some (.int v5), some (.int u0), some (.int v7), some (.int v8), some (.int v9), some (.int v10), some (.int v11), some (.int 0), none] 0 dX12_send_198 rfl (Nat.le_of_ble_eq_true rfl) rfl ?_
  obtain ⟨s41, h_s41, h⟩ := bd_at h
  refine lo_at (b := b_X12_send_200 v1 v2 u0 v7 v8 v9 v10 v11) (G := (fun z9 : Int32 × Int32 × Int32 × Int32 × me => pm_G g mX12_send X 200 [some (.ref 128), some (.int v1), some (.int v2), some (.int z9.1), some (.int z9.2.1), some (.int z9.2.2.1), some (.int u0), some (.int v7), some (.int v8), some (.int v9), some (.int v10), some (.int v11), some (.int z9.2.2.2.1), none] [] (en S z9.2.2.2.2) 0 0)) (T := (fun z9 : Int32 × Int32 × Int32 × Int32 × me => pm_G g mX12_send X 329 [some (.ref 128), some (.int v1), some (.int v2), some (.int z9.1), some (.int z9.2.1), some (.int z9.2.2.1), some (.int u0), some (.int v7), some (.int v8), some (.int v9), some (.int v10), some (.int v11), some (.int z9.2.2.2.1), none] [] (en S z9.2.2.2.2) 0 0)) (fun q9 r9 h1 h2 h3 => lb_X12_send_200 hfl hS h1 h2 h3) 2048 (v3, v4, v5, 0, m0) s41 h_s41 ?_
  show pm_G g mX12_send X 329 [some (.ref 128), some (.int v1), some (.int v2), some (.int s41.1), some (.int s41.2.1), some (.int s41.2.2.1), some (.int u0), some (.int v7), some (.int v8), some (.int v9), some (.int v10), some (.int v11), some (.int s41.2.2.2.1), none] [] (en S s41.2.2.2.2) 0 0
  obtain ⟨w42, e_w42⟩ : ∃ z : Int32, z = v7 + 1 := ⟨_, rfl⟩
  replace h := lt_at h e_w42
  refine eg_iinc [some (.ref 128), some (.int v1), some (.int v2), some (.int s41.1), some (.int s41.2.1), some (.int s41.2.2.1), some (.int u0), some (.int w42), some (.int v8), some (.int v9), some (.int v10), some (.int v11), some (.int s41.2.2.2.1), none] w42 1 dX12_send_329 rfl rfl e_w42 rfl ?_
  refine pg_goto 96 dX12_send_332 (by decide) ?_
  obtain rfl := Option.some.inj h
  refine eg_forget [some (.ref 128), some (.int v1), some (.int v2), some (.int s41.1), some (.int s41.2.1), some (.int s41.2.2.1), some (.int u0), some (.int w42), none, none, none, none, none, none] (show pm_sub _ _ from ⟨rfl, ⟨rfl, ⟨rfl, ⟨rfl, ⟨rfl, ⟨rfl, ⟨rfl, ⟨rfl, trivial⟩⟩⟩⟩⟩⟩⟩⟩) ?_
  exact hN _ rfl
set_option maxRecDepth 20000 in
set_option maxHeartbeats 4000000 in
theorem lj_X12_send_180 (hfl : g.1.stackTraces = false) (hS : pS 128 137 S) {v1 : Int32} {v2 : Int32} {v3 : Int32} {v4 : Int32} {v5 : Int32} {v6 : Int32} {v7 : Int32} {v8 : Int32} {v9 : Int32} {v10 : Int32} {u0 : Int32} {m0 : me} {r : (Int32 × Int32 × Int32 × Int32 × Int32 × me) ⊕ (Int32 × Int32 × Int32 × Int32 × Int32 × me)} (h : j_X12_send_180 v1 v2 v3 v4 v5 v6 v7 v8 v9 v10 u0 m0 = some r) (hN : ∀ s', r = .inl s' → (fun z9 : Int32 × Int32 × Int32 × Int32 × Int32 × me => pm_G g mX12_send X 96 [some (.ref 128), some (.int v1), some (.int v2), some (.int z9.1), some (.int z9.2.1), some (.int z9.2.2.1), some (.int z9.2.2.2.1), some (.int z9.2.2.2.2.1), none, none, none, none, none, none] [] (en S z9.2.2.2.2.2) 0 0) s') (hT : ∀ t, r = .inr t → (fun z9 : Int32 × Int32 × Int32 × Int32 × Int32 × me => pm_G g mX12_send X 335 [some (.ref 128), some (.int v1), some (.int v2), some (.int z9.1), some (.int z9.2.1), some (.int z9.2.2.1), some (.int z9.2.2.2.1), some (.int z9.2.2.2.2.1), none, none, none, none, none, none] [] (en S z9.2.2.2.2.2) 0 0) t) : pm_G g mX12_send X 180 [some (.ref 128), some (.int v1), some (.int v2), some (.int v3), some (.int v4), some (.int v5), some (.int v6), some (.int v7), some (.int v8), some (.int v9), some (.int v10), none, none, none] [(.int u0)] (en S m0) 0 0 := by
  unfold j_X12_send_180 at h
  refine eg_istore [some (.ref 128), some (.int v1), some (.int v2), some (.int v3), some (.int v4), some (.int v5), some (.int v6), some (.int v7), some (.int v8), some (.int v9), some (.int v10), some (.int u0), none, none] u0 dX12_send_180 rfl (Nat.le_of_ble_eq_true rfl) rfl ?_
  refine pg_iload dX12_send_182 rfl ?_
  refine pg_if_eq 193 dX12_send_184 (by decide) (fun c17 => ?_) (fun c17 => ?_)
  · rw [if_pos c17] at h
    refine pg_iload dX12_send_193 rfl ?_
    exact lj_X12_send_195 hfl hS h hN hT
  · rw [if_neg c17] at h
    refine pg_sipush 1000 dX12_send_187 rfl ?_
    refine pg_goto 195 dX12_send_190 (by decide) ?_
    exact lj_X12_send_195 hfl hS h hN hT
set_option maxRecDepth 20000 in
set_option maxHeartbeats 4000000 in
theorem lj_X12_send_158 (hfl : g.1.stackTraces = false) (hS : pS 128 137 S) {v1 : Int32} {v2 : Int32} {v3 : Int32} {v4 : Int32} {v5 : Int32} {v6 : Int32} {v7 : Int32} {v8 : Int32} {v9 : Int32} {u0 : Int32} {m0 : me} {r : (Int32 × Int32 × Int32 × Int32 × Int32 × me) ⊕ (Int32 × Int32 × Int32 × Int32 × Int32 × me)} (h : j_X12_send_158 v1 v2 v3 v4 v5 v6 v7 v8 v9 u0 m0 = some r) (hN : ∀ s', r = .inl s' → (fun z9 : Int32 × Int32 × Int32 × Int32 × Int32 × me => pm_G g mX12_send X 96 [some (.ref 128), some (.int v1), some (.int v2), some (.int z9.1), some (.int z9.2.1), some (.int z9.2.2.1), some (.int z9.2.2.2.1), some (.int z9.2.2.2.2.1), none, none, none, none, none, none] [] (en S z9.2.2.2.2.2) 0 0) s') (hT : ∀ t, r = .inr t → (fun z9 : Int32 × Int32 × Int32 × Int32 × Int32 × me => pm_G g mX12_send X 335 [some (.ref 128), some (.int v1), some (.int v2), some (.int z9.1), some (.int z9.2.1), some (.int z9.2.2.1), some (.int z9.2.2.2.1), some (.int z9.2.2.2.2.1), none, none, none, none, none, none] [] (en S z9.2.2.2.2.2) 0 0) t) : pm_G g mX12_send X 158 [some (.ref 128), some (.int v1), some (.int v2), some (.int v3), some (.int v4), some (.int v5), some (.int v6), some (.int v7), some (.int v8), some (.int v9), none, none, none, none] [(.int u0)] (en S m0) 0 0 := by
  unfold j_X12_send_158 at h
  refine eg_istore [some (.ref 128), some (.int v1), some (.int v2), some (.int v3), some (.int v4), some (.int v5), some (.int v6), some (.int v7), some (.int v8), some (.int v9), some (.int u0), none, none, none] u0 dX12_send_158 rfl (Nat.le_of_ble_eq_true rfl) rfl ?_
  refine pg_aload_n dX12_send_160 rfl ?_
  refine eg_get dX12_send_161 fa_X12_7 hS sp128 (Nat.le_of_ble_eq_true rfl) (Nat.le_of_ble_eq_true rfl) rfl rfl ?_
  refine pg_sipush 179 dX12_send_164 rfl ?_
  refine pg_iload_n dX12_send_167 rfl ?_
  refine pg_iadd dX12_send_168 ?_
  obtain ⟨g1, h⟩ := gd_at h
  refine eg_ialdJ ((179 + v2).toNatClampNeg) dX12_send_169 hS sp129 (Nat.le_of_ble_eq_true rfl) (Nat.le_of_ble_eq_true rfl) rfl (inR_vp g1) rfl ?_
  refine pg_iload dX12_send_170 rfl ?_
  refine pg_icmp_ne 179 dX12_send_172 (by decide) (fun c16 => ?_) (fun c16 => ?_)
  · rw [if_neg c16] at h
    refine pg_iconst 0 dX12_send_179 rfl ?_
    exact lj_X12_send_180 hfl hS h hN hT
  · rw [if_pos c16] at h
    refine pg_iconst 1 dX12_send_175 rfl ?_
    refine pg_goto 180 dX12_send_176 (by decide) ?_
    exact lj_X12_send_180 hfl hS h hN hT
set_option maxRecDepth 20000 in
set_option maxHeartbeats 4000000 in
theorem lj_X12_send_157 (hfl : g.1.stackTraces = false) (hS : pS 128 137 S) {v1 : Int32} {v2 : Int32} {v3 : Int32} {v4 : Int32} {v5 : Int32} {v6 : Int32} {v7 : Int32} {v8 : Int32} {v9 : Int32} {m0 : me} {r : (Int32 × Int32 × Int32 × Int32 × Int32 × me) ⊕ (Int32 × Int32 × Int32 × Int32 × Int32 × me)} (h : j_X12_send_157 v1 v2 v3 v4 v5 v6 v7 v8 v9 m0 = some r) (hN : ∀ s', r = .inl s' → (fun z9 : Int32 × Int32 × Int32 × Int32 × Int32 × me => pm_G g mX12_send X 96 [some (.ref 128), some (.int v1), some (.int v2), some (.int z9.1), some (.int z9.2.1), some (.int z9.2.2.1), some (.int z9.2.2.2.1), some (.int z9.2.2.2.2.1), none, none, none, none, none, none] [] (en S z9.2.2.2.2.2) 0 0) s') (hT : ∀ t, r = .inr t → (fun z9 : Int32 × Int32 × Int32 × Int32 × Int32 × me => pm_G g mX12_send X 335 [some (.ref 128), some (.int v1), some (.int v2), some (.int z9.1), some (.int z9.2.1), some (.int z9.2.2.1), some (.int z9.2.2.2.1), some (.int z9.2.2.2.2.1), none, none, none, none, none, none] [] (en S z9.2.2.2.2.2) 0 0) t) : pm_G g mX12_send X 157 [some (.ref 128), some (.int v1), some (.int v2), some (.int v3), some (.int v4), some (.int v5), some (.int v6), some (.int v7), some (.int v8), some (.int v9), none, none, none, none] [] (en S m0) 0 0 := by
  unfold j_X12_send_157 at h
  refine pg_iconst 0 dX12_send_157 rfl ?_
  exact lj_X12_send_158 hfl hS h hN hT
set_option maxRecDepth 20000 in
set_option maxHeartbeats 4000000 in
theorem lb_X12_send_96 (hfl : g.1.stackTraces = false) (hS : pS 128 137 S) {v1 : Int32} {v2 : Int32} {s : Int32 × Int32 × Int32 × Int32 × Int32 × me} {r : (Int32 × Int32 × Int32 × Int32 × Int32 × me) ⊕ (Int32 × Int32 × Int32 × Int32 × Int32 × me)} (h : b_X12_send_96 v1 v2 s = some r) (hN : ∀ s', r = .inl s' → (fun z9 : Int32 × Int32 × Int32 × Int32 × Int32 × me => pm_G g mX12_send X 96 [some (.ref 128), some (.int v1), some (.int v2), some (.int z9.1), some (.int z9.2.1), some (.int z9.2.2.1), some (.int z9.2.2.2.1), some (.int z9.2.2.2.2.1), none, none, none, none, none, none] [] (en S z9.2.2.2.2.2) 0 0) s') (hT : ∀ t, r = .inr t → (fun z9 : Int32 × Int32 × Int32 × Int32 × Int32 × me => pm_G g mX12_send X 335 [some (.ref 128), some (.int v1), some (.int v2), some (.int z9.1), some (.int z9.2.1), some (.int z9.2.2.1), some (.int z9.2.2.2.1), some (.int z9.2.2.2.2.1), none, none, none, none, none, none] [] (en S z9.2.2.2.2.2) 0 0) t) : (fun z9 : Int32 × Int32 × Int32 × Int32 × Int32 × me => pm_G g mX12_send X 96 [some (.ref 128), some (.int v1), some (.int v2), some (.int z9.1), some (.int z9.2.1), some (.int z9.2.2.1), some (.int z9.2.2.2.1), some (.int z9.2.2.2.2.1), none, none, none, none, none, none] [] (en S z9.2.2.2.2.2) 0 0) s := by
  unfold b_X12_send_96 at h
  show pm_G g mX12_send X 96 [some (.ref 128), some (.int v1), some (.int v2), some (.int s.1), some (.int s.2.1), some (.int s.2.2.1), some (.int s.2.2.2.1), some (.int s.2.2.2.2.1), none, none, none, none, none, none] [] (en S s.2.2.2.2.2) 0 0
  refine pg_iload dX12_send_96 rfl ?_
  refine pg_iload_n dX12_send_98 rfl ?_
  refine pg_icmp_ge 335 dX12_send_99 (by decide) (fun c12 => ?_) (fun c12 => ?_)
  · rw [if_pos c12] at h
    obtain rfl := Option.some.inj h
    exact hT _ rfl
  · rw [if_neg c12] at h
    refine pg_aload_n dX12_send_102 rfl ?_
    refine eg_get dX12_send_103 fa_X12_25 hS sp128 (Nat.le_of_ble_eq_true rfl) (Nat.le_of_ble_eq_true rfl) rfl rfl ?_
    refine pg_iload dX12_send_106 rfl ?_
    obtain ⟨g1, h⟩ := gd_at h
    refine eg_ialdJ s.2.2.2.2.1.toNatClampNeg dX12_send_108 hS sp134 (Nat.le_of_ble_eq_true rfl) (Nat.le_of_ble_eq_true rfl) rfl (inR_vp g1) rfl ?_
    obtain ⟨w13, e_w13⟩ : ∃ z : Int32, z = s.2.2.2.2.2.1 134 s.2.2.2.2.1.toNatClampNeg := ⟨_, rfl⟩
    replace h := lt_at h e_w13
    refine eg_istore [some (.ref 128), some (.int v1), some (.int v2), some (.int s.1), some (.int s.2.1), some (.int s.2.2.1), some (.int s.2.2.2.1), some (.int s.2.2.2.2.1), some (.int w13), none, none, none, none, none] w13 dX12_send_109 e_w13 (Nat.le_of_ble_eq_true rfl) rfl ?_
    refine pg_aload_n dX12_send_111 rfl ?_
    refine pg_iload dX12_send_112 rfl ?_
    refine pg_iload_n dX12_send_114 rfl ?_
    obtain ⟨r14, h_r14, h⟩ := bd_at h
    refine eg_cVi (C := mX12_entryOf) (as := [(.int w13), (.int v2)]) dX12_send_115 mw977 cv_X12_entryOf hS sp128 (Nat.le_of_ble_eq_true rfl) (Nat.le_of_ble_eq_true rfl) rfl rfl rfl (Nat.le_of_ble_eq_true rfl) rfl ⟨(Nat.le_of_ble_eq_true rfl), (Nat.le_of_ble_eq_true rfl)⟩ (ct_X12_entryOf hfl (hS.sub (Nat.le_of_ble_eq_true rfl) (Nat.le_of_ble_eq_true rfl)) h_r14) ?_
    refine eg_istore [some (.ref 128), some (.int v1), some (.int v2), some (.int s.1), some (.int s.2.1), some (.int s.2.2.1), some (.int s.2.2.2.1), some (.int s.2.2.2.2.1), some (.int w13), some (.int r14.1), none, none, none, none] r14.1 dX12_send_118 rfl (Nat.le_of_ble_eq_true rfl) rfl ?_
    refine pg_iload dX12_send_120 rfl ?_
    refine pg_if_lt 157 dX12_send_122 (by decide) (fun c15 => ?_) (fun c15 => ?_)
    · rw [if_pos c15] at h
      exact lj_X12_send_157 hfl hS h hN hT
    · rw [if_neg c15] at h
      refine pg_iload dX12_send_125 rfl ?_
      refine pg_bipush 100 dX12_send_127 rfl ?_
      refine pg_icmp_ge 157 dX12_send_129 (by decide) (fun c43 => ?_) (fun c43 => ?_)
      · rw [if_pos c43] at h
        exact lj_X12_send_157 hfl hS h hN hT
      · rw [if_neg c43] at h
        refine pg_aload_n dX12_send_132 rfl ?_
        refine pg_iload dX12_send_133 rfl ?_
        obtain ⟨r44, h_r44, h⟩ := bd_at h
        refine eg_cVi (C := mX12_carries) (as := [(.int r14.1)]) dX12_send_135 mw967 cv_X12_carries hS sp128 (Nat.le_of_ble_eq_true rfl) (Nat.le_of_ble_eq_true rfl) rfl rfl rfl (Nat.le_of_ble_eq_true rfl) rfl ⟨(Nat.le_of_ble_eq_true rfl), (Nat.le_of_ble_eq_true rfl)⟩ (ct_X12_carries hfl (hS.sub (Nat.le_of_ble_eq_true rfl) (Nat.le_of_ble_eq_true rfl)) h_r44) ?_
        refine pg_if_eq 157 dX12_send_138 (by decide) (fun c45 => ?_) (fun c45 => ?_)
        · rw [if_pos c45] at h
          exact lj_X12_send_157 hfl hS h hN hT
        · rw [if_neg c45] at h
          refine pg_iload dX12_send_141 rfl ?_
          refine pg_aload_n dX12_send_143 rfl ?_
          refine eg_get dX12_send_144 fa_X12_28 hS sp128 (Nat.le_of_ble_eq_true rfl) (Nat.le_of_ble_eq_true rfl) rfl rfl ?_
          refine pg_iload dX12_send_147 rfl ?_
          obtain ⟨g1, h⟩ := gd_at h
          refine eg_ialdJ s.2.2.2.2.1.toNatClampNeg dX12_send_149 hS sp135 (Nat.le_of_ble_eq_true rfl) (Nat.le_of_ble_eq_true rfl) rfl (inR_vp g1) rfl ?_
          refine pg_icmp_eq 157 dX12_send_150 (by decide) (fun c46 => ?_) (fun c46 => ?_)
          · rw [if_pos c46] at h
            exact lj_X12_send_157 hfl hS h hN hT
          · rw [if_neg c46] at h
            refine pg_iconst 1 dX12_send_153 rfl ?_
            refine pg_goto 158 dX12_send_154 (by decide) ?_
            exact lj_X12_send_158 hfl hS h hN hT
set_option maxRecDepth 20000 in
set_option maxHeartbeats 4000000 in
theorem ct_X12_send (hfl : g.1.stackTraces = false) (hS : pS 128 137 S) {v1 : Int32} {v2 : Int32} {m0 : me} {x : (Int32 × me)} (h : f_X12_send v1 v2 m0 = some x) : pm_Ct g mX12_send [.ref 128, .int v1, .int v2] (en S m0) 0 0 (qI S x) qF := by
  refine pm_of (by decide +kernel) rfl hfl (Nat.le_of_ble_eq_true rfl) (fun X hE => ?_)
  show pm_G g mX12_send X 0 [some (.ref 128), some (.int v1), some (.int v2), none, none, none, none, none, none, none, none, none, none, none] [] (en S m0) 0 0
  unfold f_X12_send at h
  refine pg_iload_n dX12_send_0 rfl ?_
  obtain ⟨r1, h_r1, h⟩ := bd_at h
  refine eg_cSi (C := mX12_isHost) (as := [(.int v1)]) dX12_send_1 mw878 cs_X12_isHost rfl rfl (Nat.le_of_ble_eq_true rfl) rfl ⟨(Nat.le_of_ble_eq_true rfl), (Nat.le_of_ble_eq_true rfl)⟩ (ct_X12_isHost hfl h_r1) ?_
  refine pg_if_eq 14 dX12_send_4 (by decide) (fun c2 => ?_) (fun c2 => ?_)
  · rw [if_pos c2] at h
    refine eg_forget [some (.ref 128), none, none, none, none, none, none, none, none, none, none, none, none, none] (show pm_sub _ _ from ⟨rfl, trivial⟩) ?_
    exact lj_X12_send_14 hfl hS h hE
  · rw [if_neg c2] at h
    refine pg_iload_n dX12_send_7 rfl ?_
    obtain ⟨r4, h_r4, h⟩ := bd_at h
    refine eg_cSi (C := mX12_isHost) (as := [(.int v2)]) dX12_send_8 mw878 cs_X12_isHost rfl rfl (Nat.le_of_ble_eq_true rfl) rfl ⟨(Nat.le_of_ble_eq_true rfl), (Nat.le_of_ble_eq_true rfl)⟩ (ct_X12_isHost hfl h_r4) ?_
    refine pg_if_ne 20 dX12_send_11 (by decide) (fun c5 => ?_) (fun c5 => ?_)
    · rw [if_neg c5] at h
      refine pg_iload_n dX12_send_20 rfl ?_
      refine pg_iload_n dX12_send_21 rfl ?_
      refine pg_icmp_ne 31 dX12_send_22 (by decide) (fun c6 => ?_) (fun c6 => ?_)
      · rw [if_neg c6] at h
        refine pg_aload_n dX12_send_31 rfl ?_
        obtain ⟨r7, h_r7, h⟩ := bd_at h
        refine eg_cVv (C := mX12_hold) (as := []) dX12_send_32 mw811 cv_X12_hold hS sp128 (Nat.le_of_ble_eq_true rfl) (Nat.le_of_ble_eq_true rfl) rfl rfl rfl (Nat.le_of_ble_eq_true rfl) rfl ⟨(Nat.le_of_ble_eq_true rfl), (Nat.le_of_ble_eq_true rfl)⟩ (ct_X12_hold hfl (hS.sub (Nat.le_of_ble_eq_true rfl) (Nat.le_of_ble_eq_true rfl)) h_r7) ?_
        refine pg_iconst 1 dX12_send_35 rfl ?_
        refine eg_istore_n [some (.ref 128), some (.int v1), some (.int v2), some (.int 1), none, none, none, none, none, none, none, none, none, none] 1 dX12_send_36 rfl (Nat.le_of_ble_eq_true rfl) rfl ?_
        refine pg_iconst 1 dX12_send_37 rfl ?_
        refine pg_aload_n dX12_send_38 rfl ?_
        refine eg_get dX12_send_39 fa_X12_7 hS sp128 (Nat.le_of_ble_eq_true rfl) (Nat.le_of_ble_eq_true rfl) rfl rfl ?_
        refine pg_sipush 179 dX12_send_42 rfl ?_
        refine pg_iload_n dX12_send_45 rfl ?_
        refine pg_iadd dX12_send_46 ?_
        obtain ⟨g1, h⟩ := gd_at h
        refine eg_ialdJ ((179 + v1).toNatClampNeg) dX12_send_47 hS sp129 (Nat.le_of_ble_eq_true rfl) (Nat.le_of_ble_eq_true rfl) rfl (inR_vp g1) rfl ?_
        refine pg_ishl dX12_send_48 ?_
        obtain ⟨w8, e_w8⟩ : ∃ z : Int32, z = 1 <<< ((r7.1 129 ((179 + v1).toNatClampNeg)) &&& 31) := ⟨_, rfl⟩
        replace h := lt_at h e_w8
        refine eg_istore [some (.ref 128), some (.int v1), some (.int v2), some (.int 1), some (.int w8), none, none, none, none, none, none, none, none, none] w8 dX12_send_49 e_w8 (Nat.le_of_ble_eq_true rfl) rfl ?_
        refine pg_iconst 0 dX12_send_51 rfl ?_
        refine eg_istore [some (.ref 128), some (.int v1), some (.int v2), some (.int 1), some (.int w8), some (.int 0), none, none, none, none, none, none, none, none] 0 dX12_send_52 rfl (Nat.le_of_ble_eq_true rfl) rfl ?_
        refine pg_iconst 0 dX12_send_54 rfl ?_
        refine eg_istore [some (.ref 128), some (.int v1), some (.int v2), some (.int 1), some (.int w8), some (.int 0), some (.int 0), none, none, none, none, none, none, none] 0 dX12_send_55 rfl (Nat.le_of_ble_eq_true rfl) rfl ?_
        refine pg_aload_n dX12_send_57 rfl ?_
        refine eg_get dX12_send_58 fa_X12_25 hS sp128 (Nat.le_of_ble_eq_true rfl) (Nat.le_of_ble_eq_true rfl) rfl rfl ?_
        refine pg_iconst 0 dX12_send_61 rfl ?_
        refine pg_aload_n dX12_send_62 rfl ?_
        refine eg_get dX12_send_63 fa_X12_7 hS sp128 (Nat.le_of_ble_eq_true rfl) (Nat.le_of_ble_eq_true rfl) rfl rfl ?_
        refine pg_sipush 179 dX12_send_66 rfl ?_
        refine pg_iload_n dX12_send_69 rfl ?_
        refine pg_iadd dX12_send_70 ?_
        obtain ⟨g1, h⟩ := gd_at h
        refine eg_ialdJ ((179 + v1).toNatClampNeg) dX12_send_71 hS sp129 (Nat.le_of_ble_eq_true rfl) (Nat.le_of_ble_eq_true rfl) rfl (inR_vp g1) rfl ?_
        refine eg_iastJ 0 dX12_send_72 hS sp134 (Nat.le_of_ble_eq_true rfl) (Nat.le_of_ble_eq_true rfl) (fun _ _ _ => rfl) (inR_vp rfl) rfl (fun m9 e_m9 => ?_)
        replace h := lt_at h e_m9
        refine pg_aload_n dX12_send_73 rfl ?_
        refine eg_get dX12_send_74 fa_X12_28 hS sp128 (Nat.le_of_ble_eq_true rfl) (Nat.le_of_ble_eq_true rfl) rfl rfl ?_
        refine pg_iconst 0 dX12_send_77 rfl ?_
        refine pg_iconst (-1) dX12_send_78 rfl ?_
        refine eg_iastJ 0 dX12_send_79 hS sp135 (Nat.le_of_ble_eq_true rfl) (Nat.le_of_ble_eq_true rfl) (fun _ _ _ => rfl) (inR_vp rfl) rfl (fun m10 e_m10 => ?_)
        replace h := lt_at h e_m10
        refine pg_aload_n dX12_send_80 rfl ?_
        refine pg_aload_n dX12_send_81 rfl ?_
        refine eg_get dX12_send_82 fa_X12_25 hS sp128 (Nat.le_of_ble_eq_true rfl) (Nat.le_of_ble_eq_true rfl) rfl rfl ?_
        refine pg_iconst 0 dX12_send_85 rfl ?_
        refine eg_ialdJ 0 dX12_send_86 hS sp134 (Nat.le_of_ble_eq_true rfl) (Nat.le_of_ble_eq_true rfl) rfl (inR_vp rfl) rfl ?_
        refine pg_iload_n dX12_send_87 rfl ?_
        refine pg_bipush 100 dX12_send_88 rfl ?_
        obtain ⟨r11, h_r11, h⟩ := bd_at h
        refine eg_cVv (C := mX12_learns) (as := [(.int (m10.1 134 0)), (.int v1), (.int 100)]) dX12_send_90 mw972 cv_X12_learns hS sp128 (Nat.le_of_ble_eq_true rfl) (Nat.le_of_ble_eq_true rfl) rfl rfl rfl (Nat.le_of_ble_eq_true rfl) rfl ⟨(Nat.le_of_ble_eq_true rfl), (Nat.le_of_ble_eq_true rfl)⟩ (ct_X12_learns hfl (hS.sub (Nat.le_of_ble_eq_true rfl) (Nat.le_of_ble_eq_true rfl)) h_r11) ?_
        refine pg_iconst 0 dX12_send_93 rfl ?_
        refine eg_istore [some (.ref 128), some (.int v1), some (.int v2), some (.int 1), some (.int w8), some (.int 0), some (.int 0), some (.int 0), none, none, none, none, none, none] 0 dX12_send_94 rfl (Nat.le_of_ble_eq_true rfl) rfl ?_
        obtain ⟨s47, h_s47, h⟩ := bd_at h
        refine lo_at (b := b_X12_send_96 v1 v2) (G := (fun z9 : Int32 × Int32 × Int32 × Int32 × Int32 × me => pm_G g mX12_send X 96 [some (.ref 128), some (.int v1), some (.int v2), some (.int z9.1), some (.int z9.2.1), some (.int z9.2.2.1), some (.int z9.2.2.2.1), some (.int z9.2.2.2.2.1), none, none, none, none, none, none] [] (en S z9.2.2.2.2.2) 0 0)) (T := (fun z9 : Int32 × Int32 × Int32 × Int32 × Int32 × me => pm_G g mX12_send X 335 [some (.ref 128), some (.int v1), some (.int v2), some (.int z9.1), some (.int z9.2.1), some (.int z9.2.2.1), some (.int z9.2.2.2.1), some (.int z9.2.2.2.2.1), none, none, none, none, none, none] [] (en S z9.2.2.2.2.2) 0 0)) (fun q9 r9 h1 h2 h3 => lb_X12_send_96 hfl hS h1 h2 h3) 2048 (1, w8, 0, 0, 0, r11) s47 h_s47 ?_
        show pm_G g mX12_send X 335 [some (.ref 128), some (.int v1), some (.int v2), some (.int s47.1), some (.int s47.2.1), some (.int s47.2.2.1), some (.int s47.2.2.2.1), some (.int s47.2.2.2.2.1), none, none, none, none, none, none] [] (en S s47.2.2.2.2.2) 0 0
        refine pg_aload_n dX12_send_335 rfl ?_
        refine eg_get dX12_send_336 fa_X12_7 hS sp128 (Nat.le_of_ble_eq_true rfl) (Nat.le_of_ble_eq_true rfl) rfl rfl ?_
        refine pg_bipush 8 dX12_send_339 rfl ?_
        refine pg_dup2 dX12_send_341 rfl rfl ?_
        refine eg_ialdJ 8 dX12_send_342 hS sp129 (Nat.le_of_ble_eq_true rfl) (Nat.le_of_ble_eq_true rfl) rfl (inR_vp rfl) rfl ?_
        refine pg_iconst 1 dX12_send_343 rfl ?_
        refine pg_iadd dX12_send_344 ?_
        refine eg_iastJ 8 dX12_send_345 hS sp129 (Nat.le_of_ble_eq_true rfl) (Nat.le_of_ble_eq_true rfl) (fun _ _ _ => rfl) (inR_vp rfl) rfl (fun m48 e_m48 => ?_)
        replace h := lt_at h e_m48
        refine pg_aload_n dX12_send_346 rfl ?_
        refine eg_get dX12_send_347 fa_X12_7 hS sp128 (Nat.le_of_ble_eq_true rfl) (Nat.le_of_ble_eq_true rfl) rfl rfl ?_
        refine pg_bipush 9 dX12_send_350 rfl ?_
        refine pg_dup2 dX12_send_352 rfl rfl ?_
        refine eg_ialdJ 9 dX12_send_353 hS sp129 (Nat.le_of_ble_eq_true rfl) (Nat.le_of_ble_eq_true rfl) rfl (inR_vp rfl) rfl ?_
        refine pg_iload dX12_send_354 rfl ?_
        refine pg_sipush 1000 dX12_send_356 rfl ?_
        refine pg_idiv dX12_send_359 (by decide) ?_
        refine pg_iadd dX12_send_360 ?_
        refine eg_iastJ 9 dX12_send_361 hS sp129 (Nat.le_of_ble_eq_true rfl) (Nat.le_of_ble_eq_true rfl) (fun _ _ _ => rfl) (inR_vp rfl) rfl (fun m49 e_m49 => ?_)
        replace h := lt_at h e_m49
        refine pg_aload_n dX12_send_362 rfl ?_
        refine eg_get dX12_send_363 fa_X12_7 hS sp128 (Nat.le_of_ble_eq_true rfl) (Nat.le_of_ble_eq_true rfl) rfl rfl ?_
        refine pg_bipush 10 dX12_send_366 rfl ?_
        refine pg_dup2 dX12_send_368 rfl rfl ?_
        refine eg_ialdJ 10 dX12_send_369 hS sp129 (Nat.le_of_ble_eq_true rfl) (Nat.le_of_ble_eq_true rfl) rfl (inR_vp rfl) rfl ?_
        refine pg_iload dX12_send_370 rfl ?_
        refine pg_iadd dX12_send_372 ?_
        refine eg_iastJ 10 dX12_send_373 hS sp129 (Nat.le_of_ble_eq_true rfl) (Nat.le_of_ble_eq_true rfl) (fun _ _ _ => rfl) (inR_vp rfl) rfl (fun m50 e_m50 => ?_)
        replace h := lt_at h e_m50
        refine pg_aload_n dX12_send_374 rfl ?_
        refine pg_iload dX12_send_375 rfl ?_
        refine pg_iload dX12_send_377 rfl ?_
        refine pg_iadd dX12_send_379 ?_
        obtain ⟨r51, h_r51, h⟩ := bd_at h
        refine eg_cVi (C := mX12_ends) (as := [(.int (s47.2.2.1 + s47.2.2.2.1))]) dX12_send_380 mw816 cv_X12_ends hS sp128 (Nat.le_of_ble_eq_true rfl) (Nat.le_of_ble_eq_true rfl) rfl rfl rfl (Nat.le_of_ble_eq_true rfl) rfl ⟨(Nat.le_of_ble_eq_true rfl), (Nat.le_of_ble_eq_true rfl)⟩ (ct_X12_ends hfl (hS.sub (Nat.le_of_ble_eq_true rfl) (Nat.le_of_ble_eq_true rfl)) h_r51) ?_
        obtain rfl := Option.some.inj h
        exact hE.2.1 _ _ _ _ _ _ .int dX12_send_383 rfl rfl (Nat.zero_le _) (Nat.zero_le _) ⟨rfl, rfl⟩
      · rw [if_pos c6] at h
        refine pg_aload_n dX12_send_25 rfl ?_
        refine pg_iconst 2 dX12_send_26 rfl ?_
        obtain ⟨r52, h_r52, h⟩ := bd_at h
        refine eg_cVi (C := mX12_fails) (as := [(.int 2)]) dX12_send_27 mw806 cv_X12_fails hS sp128 (Nat.le_of_ble_eq_true rfl) (Nat.le_of_ble_eq_true rfl) rfl rfl rfl (Nat.le_of_ble_eq_true rfl) rfl ⟨(Nat.le_of_ble_eq_true rfl), (Nat.le_of_ble_eq_true rfl)⟩ (ct_X12_fails hfl (hS.sub (Nat.le_of_ble_eq_true rfl) (Nat.le_of_ble_eq_true rfl)) h_r52) ?_
        obtain rfl := Option.some.inj h
        exact hE.2.1 _ _ _ _ _ _ .int dX12_send_30 rfl rfl (Nat.zero_le _) (Nat.zero_le _) ⟨rfl, rfl⟩
    · rw [if_pos c5] at h
      refine eg_forget [some (.ref 128), none, none, none, none, none, none, none, none, none, none, none, none, none] (show pm_sub _ _ from ⟨rfl, trivial⟩) ?_
      exact lj_X12_send_14 hfl hS h hE
def b_X12_entries_4 (v1 : Int32) (s : Int32 × Int32 × me) : Option ((Int32 × Int32 × me) ⊕ (Int32 × Int32 × me)) :=
  if 8 ≤ s.2.1 then
    some (.inr (s.1, s.2.1, s.2.2))
  else
    gd (inR ((51 + (16 * v1)) + (2 * s.2.1)) 487) (
    if (s.2.2.1 129 (((51 + (16 * v1)) + (2 * s.2.1)).toNatClampNeg)) = (-1) then
      lt (s.1 + 0) (fun w3 =>
      lt (s.2.1 + 1) (fun w4 =>
      some (.inl (w3, w4, s.2.2))))
    else
      lt (s.1 + 1) (fun w5 =>
      lt (s.2.1 + 1) (fun w6 =>
      some (.inl (w5, w6, s.2.2)))))
def f_X12_entries (v1 : Int32) (m0 : me) : Option (Int32 × me) :=
  bd (lo (b_X12_entries_4 v1) 2048 (0, 0, m0)) (fun s7 =>
  some ((s7.1, s7.2.2)))
set_option maxRecDepth 20000 in
set_option maxHeartbeats 4000000 in
theorem lb_X12_entries_4 (hfl : g.1.stackTraces = false) (hS : pS 128 137 S) {v1 : Int32} {s : Int32 × Int32 × me} {r : (Int32 × Int32 × me) ⊕ (Int32 × Int32 × me)} (h : b_X12_entries_4 v1 s = some r) (hN : ∀ s', r = .inl s' → (fun z9 : Int32 × Int32 × me => pm_G g mX12_entries X 4 [some (.ref 128), some (.int v1), some (.int z9.1), some (.int z9.2.1)] [] (en S z9.2.2) 0 0) s') (hT : ∀ t, r = .inr t → (fun z9 : Int32 × Int32 × me => pm_G g mX12_entries X 44 [some (.ref 128), some (.int v1), some (.int z9.1), some (.int z9.2.1)] [] (en S z9.2.2) 0 0) t) : (fun z9 : Int32 × Int32 × me => pm_G g mX12_entries X 4 [some (.ref 128), some (.int v1), some (.int z9.1), some (.int z9.2.1)] [] (en S z9.2.2) 0 0) s := by
  unfold b_X12_entries_4 at h
  show pm_G g mX12_entries X 4 [some (.ref 128), some (.int v1), some (.int s.1), some (.int s.2.1)] [] (en S s.2.2) 0 0
  refine pg_iload_n dX12_entries_4 rfl ?_
  refine pg_bipush 8 dX12_entries_5 rfl ?_
  refine pg_icmp_ge 44 dX12_entries_7 (by decide) (fun c1 => ?_) (fun c1 => ?_)
  · rw [if_pos c1] at h
    obtain rfl := Option.some.inj h
    exact hT _ rfl
  · rw [if_neg c1] at h
    refine pg_iload_n dX12_entries_10 rfl ?_
    refine pg_aload_n dX12_entries_11 rfl ?_
    refine eg_get dX12_entries_12 fa_X12_7 hS sp128 (Nat.le_of_ble_eq_true rfl) (Nat.le_of_ble_eq_true rfl) rfl rfl ?_
    refine pg_bipush 51 dX12_entries_15 rfl ?_
    refine pg_bipush 16 dX12_entries_17 rfl ?_
    refine pg_iload_n dX12_entries_19 rfl ?_
    refine pg_imul dX12_entries_20 ?_
    refine pg_iadd dX12_entries_21 ?_
    refine pg_iconst 2 dX12_entries_22 rfl ?_
    refine pg_iload_n dX12_entries_23 rfl ?_
    refine pg_imul dX12_entries_24 ?_
    refine pg_iadd dX12_entries_25 ?_
    obtain ⟨g1, h⟩ := gd_at h
    refine eg_ialdJ (((51 + (16 * v1)) + (2 * s.2.1)).toNatClampNeg) dX12_entries_26 hS sp129 (Nat.le_of_ble_eq_true rfl) (Nat.le_of_ble_eq_true rfl) rfl (inR_vp g1) rfl ?_
    refine pg_iconst (-1) dX12_entries_27 rfl ?_
    refine pg_icmp_eq 35 dX12_entries_28 (by decide) (fun c2 => ?_) (fun c2 => ?_)
    · rw [if_pos c2] at h
      refine pg_iconst 0 dX12_entries_35 rfl ?_
      refine pg_iadd dX12_entries_36 ?_
      obtain ⟨w3, e_w3⟩ : ∃ z : Int32, z = s.1 + 0 := ⟨_, rfl⟩
      replace h := lt_at h e_w3
      refine eg_istore_n [some (.ref 128), some (.int v1), some (.int w3), some (.int s.2.1)] w3 dX12_entries_37 e_w3 (Nat.le_of_ble_eq_true rfl) rfl ?_
      obtain ⟨w4, e_w4⟩ : ∃ z : Int32, z = s.2.1 + 1 := ⟨_, rfl⟩
      replace h := lt_at h e_w4
      refine eg_iinc [some (.ref 128), some (.int v1), some (.int w3), some (.int w4)] w4 1 dX12_entries_38 rfl rfl e_w4 rfl ?_
      refine pg_goto 4 dX12_entries_41 (by decide) ?_
      obtain rfl := Option.some.inj h
      exact hN _ rfl
    · rw [if_neg c2] at h
      refine pg_iconst 1 dX12_entries_31 rfl ?_
      refine pg_goto 36 dX12_entries_32 (by decide) ?_
      refine pg_iadd dX12_entries_36 ?_
      obtain ⟨w5, e_w5⟩ : ∃ z : Int32, z = s.1 + 1 := ⟨_, rfl⟩
      replace h := lt_at h e_w5
      refine eg_istore_n [some (.ref 128), some (.int v1), some (.int w5), some (.int s.2.1)] w5 dX12_entries_37 e_w5 (Nat.le_of_ble_eq_true rfl) rfl ?_
      obtain ⟨w6, e_w6⟩ : ∃ z : Int32, z = s.2.1 + 1 := ⟨_, rfl⟩
      replace h := lt_at h e_w6
      refine eg_iinc [some (.ref 128), some (.int v1), some (.int w5), some (.int w6)] w6 1 dX12_entries_38 rfl rfl e_w6 rfl ?_
      refine pg_goto 4 dX12_entries_41 (by decide) ?_
      obtain rfl := Option.some.inj h
      exact hN _ rfl
set_option maxRecDepth 20000 in
set_option maxHeartbeats 4000000 in
theorem ct_X12_entries (hfl : g.1.stackTraces = false) (hS : pS 128 137 S) {v1 : Int32} {m0 : me} {x : (Int32 × me)} (h : f_X12_entries v1 m0 = some x) : pm_Ct g mX12_entries [.ref 128, .int v1] (en S m0) 0 0 (qI S x) qF := by
  refine pm_of (by decide +kernel) rfl hfl (Nat.le_of_ble_eq_true rfl) (fun X hE => ?_)
  show pm_G g mX12_entries X 0 [some (.ref 128), some (.int v1), none, none] [] (en S m0) 0 0
  unfold f_X12_entries at h
  refine pg_iconst 0 dX12_entries_0 rfl ?_
  refine eg_istore_n [some (.ref 128), some (.int v1), some (.int 0), none] 0 dX12_entries_1 rfl (Nat.le_of_ble_eq_true rfl) rfl ?_
  refine pg_iconst 0 dX12_entries_2 rfl ?_
  refine eg_istore_n [some (.ref 128), some (.int v1), some (.int 0), some (.int 0)] 0 dX12_entries_3 rfl (Nat.le_of_ble_eq_true rfl) rfl ?_
  obtain ⟨s7, h_s7, h⟩ := bd_at h
  refine lo_at (b := b_X12_entries_4 v1) (G := (fun z9 : Int32 × Int32 × me => pm_G g mX12_entries X 4 [some (.ref 128), some (.int v1), some (.int z9.1), some (.int z9.2.1)] [] (en S z9.2.2) 0 0)) (T := (fun z9 : Int32 × Int32 × me => pm_G g mX12_entries X 44 [some (.ref 128), some (.int v1), some (.int z9.1), some (.int z9.2.1)] [] (en S z9.2.2) 0 0)) (fun q9 r9 h1 h2 h3 => lb_X12_entries_4 hfl hS h1 h2 h3) 2048 (0, 0, m0) s7 h_s7 ?_
  show pm_G g mX12_entries X 44 [some (.ref 128), some (.int v1), some (.int s7.1), some (.int s7.2.1)] [] (en S s7.2.2) 0 0
  refine pg_iload_n dX12_entries_44 rfl ?_
  obtain rfl := Option.some.inj h
  exact hE.2.1 _ _ _ _ _ _ .int dX12_entries_45 rfl rfl (Nat.zero_le _) (Nat.zero_le _) ⟨rfl, rfl⟩
end
