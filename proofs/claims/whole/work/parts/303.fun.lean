section
variable {g : pm_Gl} {X : pm_X} {S : List sF}
def j_X12_finds_160 (v1 : Int32) (v2 : Int32) (v3 : Int32) (v4 : Int32) (v5 : Int32) (v6 : Int32) (v7 : Int32) (v9 : Int32) (v10 : Int32) (v11 : Int32) (m0 : me) : Option ((Int32 × Int32 × Int32 × Int32 × Int32 × Int32 × me) ⊕ (Int32 × Int32 × Int32 × Int32 × Int32 × Int32 × me)) :=
  gd (inR (v9 + 1) 487) (
  lt (m0.1 129 ((v9 + 1).toNatClampNeg)) (fun w18 =>
  gd (inR (v9 + 3) 487) (
  lt ((m0.1 129 ((v9 + 3).toNatClampNeg)) + 1) (fun w19 =>
  lt (v7 + 1) (fun w20 =>
  some (.inl (w18, v10, w19, v7, v11, w20, m0)))))))
def b_X12_finds_24 (v1 : Int32) (s : Int32 × Int32 × Int32 × Int32 × Int32 × Int32 × me) : Option ((Int32 × Int32 × Int32 × Int32 × Int32 × Int32 × me) ⊕ (Int32 × Int32 × Int32 × Int32 × Int32 × Int32 × me)) :=
  if (s.2.2.2.2.2.2.1 129 5) ≤ s.2.2.2.2.2.1 then
    some (.inr (s.1, s.2.1, s.2.2.1, s.2.2.2.1, s.2.2.2.2.1, s.2.2.2.2.2.1, s.2.2.2.2.2.2))
  else
    bd (f_X12_other s.2.2.2.2.2.1 v1 s.2.2.2.2.2.2) (fun r4 =>
    lt (11 + (5 * r4.1)) (fun w5 =>
    bd (f_X12_isAt s.2.2.2.2.2.1 v1 r4.2) (fun r6 =>
    if r6.1 = 0 then
      lt (s.2.2.2.2.2.1 + 1) (fun w8 =>
      some (.inl (s.1, s.2.1, s.2.2.1, s.2.2.2.1, s.2.2.2.2.1, w8, r6.2)))
    else
      bd (f_X12_of s.2.2.2.2.2.1 4 r6.2) (fun r9 =>
      if r9.1 = 1 then
        gd (inR (w5 + 3) 487) (
        if 10 ≤ (r9.2.1 129 ((w5 + 3).toNatClampNeg)) then
          lt (s.2.2.2.2.2.1 + 1) (fun w13 =>
          some (.inl (s.1, s.2.1, s.2.2.1, s.2.2.2.1, s.2.2.2.2.1, w13, r9.2)))
        else
          gd (inR (w5 + 2) 487) (
          bd (f_X12_of s.2.2.2.2.2.1 3 r9.2) (fun r14 =>
          lt ((r9.2.1 129 ((w5 + 2).toNatClampNeg)) + r14.1) (fun w15 =>
          bd (f_X12_idOf r4.1 r14.2) (fun r16 =>
          gd (inR (w5 + 1) 487) (
          if (r16.2.1 129 ((w5 + 1).toNatClampNeg)) < s.1 then
            j_X12_finds_160 v1 s.1 s.2.1 s.2.2.1 s.2.2.2.1 s.2.2.2.2.1 s.2.2.2.2.2.1 w5 w15 r16.1 r16.2
          else
            gd (inR (w5 + 1) 487) (
            if (r16.2.1 129 ((w5 + 1).toNatClampNeg)) = s.1 then
              if w15 < s.2.1 then
                j_X12_finds_160 v1 s.1 s.2.1 s.2.2.1 s.2.2.2.1 s.2.2.2.2.1 s.2.2.2.2.2.1 w5 w15 r16.1 r16.2
              else
                if w15 = s.2.1 then
                  if s.2.2.2.2.1 ≤ r16.1 then
                    lt (s.2.2.2.2.2.1 + 1) (fun w27 =>
                    some (.inl (s.1, s.2.1, s.2.2.1, s.2.2.2.1, s.2.2.2.2.1, w27, r16.2)))
                  else
                    j_X12_finds_160 v1 s.1 s.2.1 s.2.2.1 s.2.2.2.1 s.2.2.2.2.1 s.2.2.2.2.2.1 w5 w15 r16.1 r16.2
                else
                  lt (s.2.2.2.2.2.1 + 1) (fun w25 =>
                  some (.inl (s.1, s.2.1, s.2.2.1, s.2.2.2.1, s.2.2.2.2.1, w25, r16.2)))
            else
              lt (s.2.2.2.2.2.1 + 1) (fun w22 =>
              some (.inl (s.1, s.2.1, s.2.2.1, s.2.2.2.1, s.2.2.2.2.1, w22, r16.2))))))))))
      else
        lt (s.2.2.2.2.2.1 + 1) (fun w11 =>
        some (.inl (s.1, s.2.1, s.2.2.1, s.2.2.2.1, s.2.2.2.2.1, w11, r9.2)))))))
def f_X12_finds (v1 : Int32) (m0 : me) : Option me :=
  bd (f_X12_idOf v1 m0) (fun r1 =>
  bd (f_X12_idOf v1 r1.2) (fun r2 =>
  bd (lo (b_X12_finds_24 v1) 2048 (r1.1, 0, 0, (-1), r2.1, 0, r2.2)) (fun s28 =>
  gd (inR (4 * v1) 32) (
  lt (wI s28.2.2.2.2.2.2 133 ((4 * v1).toNatClampNeg) s28.1) (fun m29 =>
  gd (inR ((4 * v1) + 1) 32) (
  lt (wI m29 133 (((4 * v1) + 1).toNatClampNeg) s28.2.1) (fun m30 =>
  gd (inR ((4 * v1) + 2) 32) (
  lt (wI m30 133 (((4 * v1) + 2).toNatClampNeg) s28.2.2.1) (fun m31 =>
  gd (inR ((4 * v1) + 3) 32) (
  lt (wI m31 133 (((4 * v1) + 3).toNatClampNeg) s28.2.2.2.1) (fun m32 =>
  some (m32))))))))))))
set_option maxRecDepth 20000 in
set_option maxHeartbeats 4000000 in
theorem lj_X12_finds_160 (hfl : g.1.stackTraces = false) (hS : pS 128 137 S) {v1 : Int32} {v2 : Int32} {v3 : Int32} {v4 : Int32} {v5 : Int32} {v6 : Int32} {v7 : Int32} {v9 : Int32} {v10 : Int32} {v11 : Int32} {m0 : me} {r : (Int32 × Int32 × Int32 × Int32 × Int32 × Int32 × me) ⊕ (Int32 × Int32 × Int32 × Int32 × Int32 × Int32 × me)} (h : j_X12_finds_160 v1 v2 v3 v4 v5 v6 v7 v9 v10 v11 m0 = some r) (hN : ∀ s', r = .inl s' → (fun z9 : Int32 × Int32 × Int32 × Int32 × Int32 × Int32 × me => pm_G g mX12_finds X 24 [some (.ref 128), some (.int v1), some (.int z9.1), some (.int z9.2.1), some (.int z9.2.2.1), some (.int z9.2.2.2.1), some (.int z9.2.2.2.2.1), some (.int z9.2.2.2.2.2.1), none, none, none, none] [] (en S z9.2.2.2.2.2.2) 0 0) s') (hT : ∀ t, r = .inr t → (fun z9 : Int32 × Int32 × Int32 × Int32 × Int32 × Int32 × me => pm_G g mX12_finds X 200 [some (.ref 128), some (.int v1), some (.int z9.1), some (.int z9.2.1), some (.int z9.2.2.1), some (.int z9.2.2.2.1), some (.int z9.2.2.2.2.1), some (.int z9.2.2.2.2.2.1), none, none, none, none] [] (en S z9.2.2.2.2.2.2) 0 0) t) : pm_G g mX12_finds X 160 [some (.ref 128), some (.int v1), some (.int v2), some (.int v3), some (.int v4), some (.int v5), some (.int v6), some (.int v7), none, some (.int v9), some (.int v10), some (.int v11)] [] (en S m0) 0 0 := by
  unfold j_X12_finds_160 at h
  refine pg_aload_n dX12_finds_160 rfl ?_
  refine eg_get dX12_finds_161 fa_X12_7 hS sp128 (Nat.le_of_ble_eq_true rfl) (Nat.le_of_ble_eq_true rfl) rfl rfl ?_
  refine pg_iload dX12_finds_164 rfl ?_
  refine pg_iconst 1 dX12_finds_166 rfl ?_
  refine pg_iadd dX12_finds_167 ?_
  obtain ⟨g1, h⟩ := gd_at h
  refine eg_ialdJ ((v9 + 1).toNatClampNeg) dX12_finds_168 hS sp129 (Nat.le_of_ble_eq_true rfl) (Nat.le_of_ble_eq_true rfl) rfl (inR_vp g1) rfl ?_
  obtain ⟨w18, e_w18⟩ : ∃ z : Int32, z = m0.1 129 ((v9 + 1).toNatClampNeg) := ⟨_, rfl⟩
  replace h := lt_at h e_w18
  refine eg_istore_n [some (.ref 128), some (.int v1), some (.int w18), some (.int v3), some (.int v4), some (.int v5), some (.int v6), some (.int v7), none, some (.int v9), some (.int v10), some (.int v11)] w18 dX12_finds_169 e_w18 (Nat.le_of_ble_eq_true rfl) rfl ?_
  refine pg_iload dX12_finds_170 rfl ?_
  refine eg_istore_n [some (.ref 128), some (.int v1), some (.int w18), some (.int v10), some (.int v4), some (.int v5), some (.int v6), some (.int v7), none, some (.int v9), some (.int v10), some (.int v11)] v10 dX12_finds_172 rfl (Nat.le_of_ble_eq_true rfl) rfl ?_
  refine pg_aload_n dX12_finds_173 rfl ?_
  refine eg_get dX12_finds_174 fa_X12_7 hS sp128 (Nat.le_of_ble_eq_true rfl) (Nat.le_of_ble_eq_true rfl) rfl rfl ?_
  refine pg_iload dX12_finds_177 rfl ?_
  refine pg_iconst 3 dX12_finds_179 rfl ?_
  refine pg_iadd dX12_finds_180 ?_
  obtain ⟨g1, h⟩ := gd_at h
  refine eg_ialdJ ((v9 + 3).toNatClampNeg) dX12_finds_181 hS sp129 (Nat.le_of_ble_eq_true rfl) (Nat.le_of_ble_eq_true rfl) rfl (inR_vp g1) rfl ?_
  refine pg_iconst 1 dX12_finds_182 rfl ?_
  refine pg_iadd dX12_finds_183 ?_
  obtain ⟨w19, e_w19⟩ : ∃ z : Int32, z = (m0.1 129 ((v9 + 3).toNatClampNeg)) + 1 := ⟨_, rfl⟩
  replace h := lt_at h e_w19
  refine eg_istore [some (.ref 128), some (.int v1), some (.int w18), some (.int v10), some (.int w19), some (.int v5), some (.int v6), some (.int v7), none, some (.int v9), some (.int v10), some (.int v11)] w19 dX12_finds_184 e_w19 (Nat.le_of_ble_eq_true rfl) rfl ?_
  refine pg_iload dX12_finds_186 rfl ?_
  refine eg_istore [some (.ref 128), some (.int v1), some (.int w18), some (.int v10), some (.int w19), some (.int v7), some (.int v6), some (.int v7), none, some (.int v9), some (.int v10), some (.int v11)] v7 dX12_finds_188 rfl (Nat.le_of_ble_eq_true rfl) rfl ?_
  refine pg_iload dX12_finds_190 rfl ?_
  refine eg_istore [some (.ref 128), some (.int v1), some (.int w18), some (.int v10), some (.int w19), some (.int v7), some (.int v11), some (.int v7), none, some (.int v9), some (.int v10), some (.int v11)] v11 dX12_finds_192 rfl (Nat.le_of_ble_eq_true rfl) rfl ?_
  obtain ⟨w20, e_w20⟩ : ∃ z : Int32, z = v7 + 1 := ⟨_, rfl⟩
  replace h := lt_at h e_w20
  refine eg_iinc [some (.ref 128), some (.int v1), some (.int w18), some (.int v10), some (.int w19), some (.int v7), some (.int v11), some (.int w20), none, some (.int v9), some (.int v10), some (.int v11)] w20 1 dX12_finds_194 rfl rfl e_w20 rfl ?_
  refine pg_goto 24 dX12_finds_197 (by decide) ?_
  obtain rfl := Option.some.inj h
  refine eg_forget [some (.ref 128), some (.int v1), some (.int w18), some (.int v10), some (.int w19), some (.int v7), some (.int v11), some (.int w20), none, none, none, none] (show pm_sub _ _ from ⟨rfl, ⟨rfl, ⟨rfl, ⟨rfl, ⟨rfl, ⟨rfl, ⟨rfl, ⟨rfl, trivial⟩⟩⟩⟩⟩⟩⟩⟩) ?_
  exact hN _ rfl
set_option maxRecDepth 20000 in
set_option maxHeartbeats 4000000 in
theorem lb_X12_finds_24 (hfl : g.1.stackTraces = false) (hS : pS 128 137 S) {v1 : Int32} {s : Int32 × Int32 × Int32 × Int32 × Int32 × Int32 × me} {r : (Int32 × Int32 × Int32 × Int32 × Int32 × Int32 × me) ⊕ (Int32 × Int32 × Int32 × Int32 × Int32 × Int32 × me)} (h : b_X12_finds_24 v1 s = some r) (hN : ∀ s', r = .inl s' → (fun z9 : Int32 × Int32 × Int32 × Int32 × Int32 × Int32 × me => pm_G g mX12_finds X 24 [some (.ref 128), some (.int v1), some (.int z9.1), some (.int z9.2.1), some (.int z9.2.2.1), some (.int z9.2.2.2.1), some (.int z9.2.2.2.2.1), some (.int z9.2.2.2.2.2.1), none, none, none, none] [] (en S z9.2.2.2.2.2.2) 0 0) s') (hT : ∀ t, r = .inr t → (fun z9 : Int32 × Int32 × Int32 × Int32 × Int32 × Int32 × me => pm_G g mX12_finds X 200 [some (.ref 128), some (.int v1), some (.int z9.1), some (.int z9.2.1), some (.int z9.2.2.1), some (.int z9.2.2.2.1), some (.int z9.2.2.2.2.1), some (.int z9.2.2.2.2.2.1), none, none, none, none] [] (en S z9.2.2.2.2.2.2) 0 0) t) : (fun z9 : Int32 × Int32 × Int32 × Int32 × Int32 × Int32 × me => pm_G g mX12_finds X 24 [some (.ref 128), some (.int v1), some (.int z9.1), some (.int z9.2.1), some (.int z9.2.2.1), some (.int z9.2.2.2.1), some (.int z9.2.2.2.2.1), some (.int z9.2.2.2.2.2.1), none, none, none, none] [] (en S z9.2.2.2.2.2.2) 0 0) s := by
  unfold b_X12_finds_24 at h
  show pm_G g mX12_finds X 24 [some (.ref 128), some (.int v1), some (.int s.1), some (.int s.2.1), some (.int s.2.2.1), some (.int s.2.2.2.1), some (.int s.2.2.2.2.1), some (.int s.2.2.2.2.2.1), none, none, none, none] [] (en S s.2.2.2.2.2.2) 0 0
  refine pg_iload dX12_finds_24 rfl ?_
  refine pg_aload_n dX12_finds_26 rfl ?_
  refine eg_get dX12_finds_27 fa_X12_7 hS sp128 (Nat.le_of_ble_eq_true rfl) (Nat.le_of_ble_eq_true rfl) rfl rfl ?_
  refine pg_iconst 5 dX12_finds_30 rfl ?_
  refine eg_ialdJ 5 dX12_finds_31 hS sp129 (Nat.le_of_ble_eq_true rfl) (Nat.le_of_ble_eq_true rfl) rfl (inR_vp rfl) rfl ?_
  refine pg_icmp_ge 200 dX12_finds_32 (by decide) (fun c3 => ?_) (fun c3 => ?_)
  · rw [if_pos c3] at h
    obtain rfl := Option.some.inj h
    exact hT _ rfl
  · rw [if_neg c3] at h
    refine pg_aload_n dX12_finds_35 rfl ?_
    refine pg_iload dX12_finds_36 rfl ?_
    refine pg_iload_n dX12_finds_38 rfl ?_
    obtain ⟨r4, h_r4, h⟩ := bd_at h
    refine eg_cVi (C := mX12_other) (as := [(.int s.2.2.2.2.2.1), (.int v1)]) dX12_finds_39 mw937 cv_X12_other hS sp128 (Nat.le_of_ble_eq_true rfl) (Nat.le_of_ble_eq_true rfl) rfl rfl rfl (Nat.le_of_ble_eq_true rfl) rfl ⟨(Nat.le_of_ble_eq_true rfl), (Nat.le_of_ble_eq_true rfl)⟩ (ct_X12_other hfl (hS.sub (Nat.le_of_ble_eq_true rfl) (Nat.le_of_ble_eq_true rfl)) h_r4) ?_
    refine eg_istore [some (.ref 128), some (.int v1), some (.int s.1), some (.int s.2.1), some (.int s.2.2.1), some (.int s.2.2.2.1), some (.int s.2.2.2.2.1), some (.int s.2.2.2.2.2.1), some (.int r4.1), none, none, none] r4.1 dX12_finds_42 rfl (Nat.le_of_ble_eq_true rfl) rfl ?_
    refine pg_bipush 11 dX12_finds_44 rfl ?_
    refine pg_iconst 5 dX12_finds_46 rfl ?_
    refine pg_iload dX12_finds_47 rfl ?_
    refine pg_imul dX12_finds_49 ?_
    refine pg_iadd dX12_finds_50 ?_
    obtain ⟨w5, e_w5⟩ : ∃ z : Int32, z = 11 + (5 * r4.1) := ⟨_, rfl⟩
    replace h := lt_at h e_w5
    refine eg_istore [some (.ref 128), some (.int v1), some (.int s.1), some (.int s.2.1), some (.int s.2.2.1), some (.int s.2.2.2.1), some (.int s.2.2.2.2.1), some (.int s.2.2.2.2.2.1), some (.int r4.1), some (.int w5), none, none] w5 dX12_finds_51 e_w5 (Nat.le_of_ble_eq_true rfl) rfl ?_
    refine pg_aload_n dX12_finds_53 rfl ?_
    refine pg_iload dX12_finds_54 rfl ?_
    refine pg_iload_n dX12_finds_56 rfl ?_
    obtain ⟨r6, h_r6, h⟩ := bd_at h
    refine eg_cVi (C := mX12_isAt) (as := [(.int s.2.2.2.2.2.1), (.int v1)]) dX12_finds_57 mw942 cv_X12_isAt hS sp128 (Nat.le_of_ble_eq_true rfl) (Nat.le_of_ble_eq_true rfl) rfl rfl rfl (Nat.le_of_ble_eq_true rfl) rfl ⟨(Nat.le_of_ble_eq_true rfl), (Nat.le_of_ble_eq_true rfl)⟩ (ct_X12_isAt hfl (hS.sub (Nat.le_of_ble_eq_true rfl) (Nat.le_of_ble_eq_true rfl)) h_r6) ?_
    refine pg_if_eq 194 dX12_finds_60 (by decide) (fun c7 => ?_) (fun c7 => ?_)
    · rw [if_pos c7] at h
      obtain ⟨w8, e_w8⟩ : ∃ z : Int32, z = s.2.2.2.2.2.1 + 1 := ⟨_, rfl⟩
      replace h := lt_at h e_w8
      refine eg_iinc [some (.ref 128), some (.int v1), some (.int s.1), some (.int s.2.1), some (.int s.2.2.1), some (.int s.2.2.2.1), some (.int s.2.2.2.2.1), some (.int w8), some (.int r4.1), some (.int w5), none, none] w8 1 dX12_finds_194 rfl rfl e_w8 rfl ?_
      refine pg_goto 24 dX12_finds_197 (by decide) ?_
      obtain rfl := Option.some.inj h
      refine eg_forget [some (.ref 128), some (.int v1), some (.int s.1), some (.int s.2.1), some (.int s.2.2.1), some (.int s.2.2.2.1), some (.int s.2.2.2.2.1), some (.int w8), none, none, none, none] (show pm_sub _ _ from ⟨rfl, ⟨rfl, ⟨rfl, ⟨rfl, ⟨rfl, ⟨rfl, ⟨rfl, ⟨rfl, trivial⟩⟩⟩⟩⟩⟩⟩⟩) ?_
      exact hN _ rfl
    · rw [if_neg c7] at h
      refine pg_aload_n dX12_finds_63 rfl ?_
      refine pg_iload dX12_finds_64 rfl ?_
      refine pg_iconst 4 dX12_finds_66 rfl ?_
      obtain ⟨r9, h_r9, h⟩ := bd_at h
      refine eg_cVi (C := mX12_of) (as := [(.int s.2.2.2.2.2.1), (.int 4)]) dX12_finds_67 mw863 cv_X12_of hS sp128 (Nat.le_of_ble_eq_true rfl) (Nat.le_of_ble_eq_true rfl) rfl rfl rfl (Nat.le_of_ble_eq_true rfl) rfl ⟨(Nat.le_of_ble_eq_true rfl), (Nat.le_of_ble_eq_true rfl)⟩ (ct_X12_of hfl (hS.sub (Nat.le_of_ble_eq_true rfl) (Nat.le_of_ble_eq_true rfl)) h_r9) ?_
      refine pg_iconst 1 dX12_finds_70 rfl ?_
      refine pg_icmp_ne 194 dX12_finds_71 (by decide) (fun c10 => ?_) (fun c10 => ?_)
      · rw [if_neg c10] at h
        obtain ⟨w11, e_w11⟩ : ∃ z : Int32, z = s.2.2.2.2.2.1 + 1 := ⟨_, rfl⟩
        replace h := lt_at h e_w11
        refine eg_iinc [some (.ref 128), some (.int v1), some (.int s.1), some (.int s.2.1), some (.int s.2.2.1), some (.int s.2.2.2.1), some (.int s.2.2.2.2.1), some (.int w11), some (.int r4.1), some (.int w5), none, none] w11 1 dX12_finds_194 rfl rfl e_w11 rfl ?_
        refine pg_goto 24 dX12_finds_197 (by decide) ?_
        obtain rfl := Option.some.inj h
        refine eg_forget [some (.ref 128), some (.int v1), some (.int s.1), some (.int s.2.1), some (.int s.2.2.1), some (.int s.2.2.2.1), some (.int s.2.2.2.2.1), some (.int w11), none, none, none, none] (show pm_sub _ _ from ⟨rfl, ⟨rfl, ⟨rfl, ⟨rfl, ⟨rfl, ⟨rfl, ⟨rfl, ⟨rfl, trivial⟩⟩⟩⟩⟩⟩⟩⟩) ?_
        exact hN _ rfl
      · rw [if_pos c10] at h
        refine pg_aload_n dX12_finds_74 rfl ?_
        refine eg_get dX12_finds_75 fa_X12_7 hS sp128 (Nat.le_of_ble_eq_true rfl) (Nat.le_of_ble_eq_true rfl) rfl rfl ?_
        refine pg_iload dX12_finds_78 rfl ?_
        refine pg_iconst 3 dX12_finds_80 rfl ?_
        refine pg_iadd dX12_finds_81 ?_
        obtain ⟨g1, h⟩ := gd_at h
        refine eg_ialdJ ((w5 + 3).toNatClampNeg) dX12_finds_82 hS sp129 (Nat.le_of_ble_eq_true rfl) (Nat.le_of_ble_eq_true rfl) rfl (inR_vp g1) rfl ?_
        refine pg_bipush 10 dX12_finds_83 rfl ?_
        refine pg_icmp_ge 194 dX12_finds_85 (by decide) (fun c12 => ?_) (fun c12 => ?_)
        · rw [if_pos c12] at h
          obtain ⟨w13, e_w13⟩ : ∃ z : Int32, z = s.2.2.2.2.2.1 + 1 := ⟨_, rfl⟩
          replace h := lt_at h e_w13
          refine eg_iinc [some (.ref 128), some (.int v1), some (.int s.1), some (.int s.2.1), some (.int s.2.2.1), some (.int s.2.2.2.1), some (.int s.2.2.2.2.1), some (.int w13), some (.int r4.1), some (.int w5), none, none] w13 1 dX12_finds_194 rfl rfl e_w13 rfl ?_
          refine pg_goto 24 dX12_finds_197 (by decide) ?_
          obtain rfl := Option.some.inj h
          refine eg_forget [some (.ref 128), some (.int v1), some (.int s.1), some (.int s.2.1), some (.int s.2.2.1), some (.int s.2.2.2.1), some (.int s.2.2.2.2.1), some (.int w13), none, none, none, none] (show pm_sub _ _ from ⟨rfl, ⟨rfl, ⟨rfl, ⟨rfl, ⟨rfl, ⟨rfl, ⟨rfl, ⟨rfl, trivial⟩⟩⟩⟩⟩⟩⟩⟩) ?_
          exact hN _ rfl
        · rw [if_neg c12] at h
          refine pg_aload_n dX12_finds_88 rfl ?_
          refine eg_get dX12_finds_89 fa_X12_7 hS sp128 (Nat.le_of_ble_eq_true rfl) (Nat.le_of_ble_eq_true rfl) rfl rfl ?_
          refine pg_iload dX12_finds_92 rfl ?_
          refine pg_iconst 2 dX12_finds_94 rfl ?_
          refine pg_iadd dX12_finds_95 ?_
          obtain ⟨g1, h⟩ := gd_at h
          refine eg_ialdJ ((w5 + 2).toNatClampNeg) dX12_finds_96 hS sp129 (Nat.le_of_ble_eq_true rfl) (Nat.le_of_ble_eq_true rfl) rfl (inR_vp g1) rfl ?_
          refine pg_aload_n dX12_finds_97 rfl ?_
          refine pg_iload dX12_finds_98 rfl ?_
          refine pg_iconst 3 dX12_finds_100 rfl ?_
          obtain ⟨r14, h_r14, h⟩ := bd_at h
          refine eg_cVi (C := mX12_of) (as := [(.int s.2.2.2.2.2.1), (.int 3)]) dX12_finds_101 mw863 cv_X12_of hS sp128 (Nat.le_of_ble_eq_true rfl) (Nat.le_of_ble_eq_true rfl) rfl rfl rfl (Nat.le_of_ble_eq_true rfl) rfl ⟨(Nat.le_of_ble_eq_true rfl), (Nat.le_of_ble_eq_true rfl)⟩ (ct_X12_of hfl (hS.sub (Nat.le_of_ble_eq_true rfl) (Nat.le_of_ble_eq_true rfl)) h_r14) ?_
          refine pg_iadd dX12_finds_104 ?_
          obtain ⟨w15, e_w15⟩ : ∃ z : Int32, z = (r9.2.1 129 ((w5 + 2).toNatClampNeg)) + r14.1 := ⟨_, rfl⟩
          replace h := lt_at h e_w15
          refine eg_istore [some (.ref 128), some (.int v1), some (.int s.1), some (.int s.2.1), some (.int s.2.2.1), some (.int s.2.2.2.1), some (.int s.2.2.2.2.1), some (.int s.2.2.2.2.2.1), some (.int r4.1), some (.int w5), some (.int w15), none] w15 dX12_finds_105 e_w15 (Nat.le_of_ble_eq_true rfl) rfl ?_
          refine pg_aload_n dX12_finds_107 rfl ?_
          refine pg_iload dX12_finds_108 rfl ?_
          obtain ⟨r16, h_r16, h⟩ := bd_at h
          refine eg_cVi (C := mX12_idOf) (as := [(.int r4.1)]) dX12_finds_110 mw800 cv_X12_idOf hS sp128 (Nat.le_of_ble_eq_true rfl) (Nat.le_of_ble_eq_true rfl) rfl rfl rfl (Nat.le_of_ble_eq_true rfl) rfl ⟨(Nat.le_of_ble_eq_true rfl), (Nat.le_of_ble_eq_true rfl)⟩ (ct_X12_idOf hfl (hS.sub (Nat.le_of_ble_eq_true rfl) (Nat.le_of_ble_eq_true rfl)) h_r16) ?_
          refine eg_istore [some (.ref 128), some (.int v1), some (.int s.1), some (.int s.2.1), some (.int s.2.2.1), some (.int s.2.2.2.1), some (.int s.2.2.2.2.1), some (.int s.2.2.2.2.2.1), some (.int r4.1), some (.int w5), some (.int w15), some (.int r16.1)] r16.1 dX12_finds_113 rfl (Nat.le_of_ble_eq_true rfl) rfl ?_
          refine pg_aload_n dX12_finds_115 rfl ?_
          refine eg_get dX12_finds_116 fa_X12_7 hS sp128 (Nat.le_of_ble_eq_true rfl) (Nat.le_of_ble_eq_true rfl) rfl rfl ?_
          refine pg_iload dX12_finds_119 rfl ?_
          refine pg_iconst 1 dX12_finds_121 rfl ?_
          refine pg_iadd dX12_finds_122 ?_
          obtain ⟨g1, h⟩ := gd_at h
          refine eg_ialdJ ((w5 + 1).toNatClampNeg) dX12_finds_123 hS sp129 (Nat.le_of_ble_eq_true rfl) (Nat.le_of_ble_eq_true rfl) rfl (inR_vp g1) rfl ?_
          refine pg_iload_n dX12_finds_124 rfl ?_
          refine pg_icmp_lt 160 dX12_finds_125 (by decide) (fun c17 => ?_) (fun c17 => ?_)
          · rw [if_pos c17] at h
            refine eg_forget [some (.ref 128), some (.int v1), some (.int s.1), some (.int s.2.1), some (.int s.2.2.1), some (.int s.2.2.2.1), some (.int s.2.2.2.2.1), some (.int s.2.2.2.2.2.1), none, some (.int w5), some (.int w15), some (.int r16.1)] (show pm_sub _ _ from ⟨rfl, ⟨rfl, ⟨rfl, ⟨rfl, ⟨rfl, ⟨rfl, ⟨rfl, ⟨rfl, ⟨rfl, ⟨rfl, ⟨rfl, trivial⟩⟩⟩⟩⟩⟩⟩⟩⟩⟩⟩) ?_
            exact lj_X12_finds_160 hfl hS h hN hT
          · rw [if_neg c17] at h
            refine pg_aload_n dX12_finds_128 rfl ?_
            refine eg_get dX12_finds_129 fa_X12_7 hS sp128 (Nat.le_of_ble_eq_true rfl) (Nat.le_of_ble_eq_true rfl) rfl rfl ?_
            refine pg_iload dX12_finds_132 rfl ?_
            refine pg_iconst 1 dX12_finds_134 rfl ?_
            refine pg_iadd dX12_finds_135 ?_
            obtain ⟨g1, h⟩ := gd_at h
            refine eg_ialdJ ((w5 + 1).toNatClampNeg) dX12_finds_136 hS sp129 (Nat.le_of_ble_eq_true rfl) (Nat.le_of_ble_eq_true rfl) rfl (inR_vp g1) rfl ?_
            refine pg_iload_n dX12_finds_137 rfl ?_
            refine pg_icmp_ne 194 dX12_finds_138 (by decide) (fun c21 => ?_) (fun c21 => ?_)
            · rw [if_neg c21] at h
              obtain ⟨w22, e_w22⟩ : ∃ z : Int32, z = s.2.2.2.2.2.1 + 1 := ⟨_, rfl⟩
              replace h := lt_at h e_w22
              refine eg_iinc [some (.ref 128), some (.int v1), some (.int s.1), some (.int s.2.1), some (.int s.2.2.1), some (.int s.2.2.2.1), some (.int s.2.2.2.2.1), some (.int w22), some (.int r4.1), some (.int w5), some (.int w15), some (.int r16.1)] w22 1 dX12_finds_194 rfl rfl e_w22 rfl ?_
              refine pg_goto 24 dX12_finds_197 (by decide) ?_
              obtain rfl := Option.some.inj h
              refine eg_forget [some (.ref 128), some (.int v1), some (.int s.1), some (.int s.2.1), some (.int s.2.2.1), some (.int s.2.2.2.1), some (.int s.2.2.2.2.1), some (.int w22), none, none, none, none] (show pm_sub _ _ from ⟨rfl, ⟨rfl, ⟨rfl, ⟨rfl, ⟨rfl, ⟨rfl, ⟨rfl, ⟨rfl, trivial⟩⟩⟩⟩⟩⟩⟩⟩) ?_
              exact hN _ rfl
            · rw [if_pos c21] at h
              refine pg_iload dX12_finds_141 rfl ?_
              refine pg_iload_n dX12_finds_143 rfl ?_
              refine pg_icmp_lt 160 dX12_finds_144 (by decide) (fun c23 => ?_) (fun c23 => ?_)
              · rw [if_pos c23] at h
                refine eg_forget [some (.ref 128), some (.int v1), some (.int s.1), some (.int s.2.1), some (.int s.2.2.1), some (.int s.2.2.2.1), some (.int s.2.2.2.2.1), some (.int s.2.2.2.2.2.1), none, some (.int w5), some (.int w15), some (.int r16.1)] (show pm_sub _ _ from ⟨rfl, ⟨rfl, ⟨rfl, ⟨rfl, ⟨rfl, ⟨rfl, ⟨rfl, ⟨rfl, ⟨rfl, ⟨rfl, ⟨rfl, trivial⟩⟩⟩⟩⟩⟩⟩⟩⟩⟩⟩) ?_
                exact lj_X12_finds_160 hfl hS h hN hT
              · rw [if_neg c23] at h
                refine pg_iload dX12_finds_147 rfl ?_
                refine pg_iload_n dX12_finds_149 rfl ?_
                refine pg_icmp_ne 194 dX12_finds_150 (by decide) (fun c24 => ?_) (fun c24 => ?_)
                · rw [if_neg c24] at h
                  obtain ⟨w25, e_w25⟩ : ∃ z : Int32, z = s.2.2.2.2.2.1 + 1 := ⟨_, rfl⟩
                  replace h := lt_at h e_w25
                  refine eg_iinc [some (.ref 128), some (.int v1), some (.int s.1), some (.int s.2.1), some (.int s.2.2.1), some (.int s.2.2.2.1), some (.int s.2.2.2.2.1), some (.int w25), some (.int r4.1), some (.int w5), some (.int w15), some (.int r16.1)] w25 1 dX12_finds_194 rfl rfl e_w25 rfl ?_
                  refine pg_goto 24 dX12_finds_197 (by decide) ?_
                  obtain rfl := Option.some.inj h
                  refine eg_forget [some (.ref 128), some (.int v1), some (.int s.1), some (.int s.2.1), some (.int s.2.2.1), some (.int s.2.2.2.1), some (.int s.2.2.2.2.1), some (.int w25), none, none, none, none] (show pm_sub _ _ from ⟨rfl, ⟨rfl, ⟨rfl, ⟨rfl, ⟨rfl, ⟨rfl, ⟨rfl, ⟨rfl, trivial⟩⟩⟩⟩⟩⟩⟩⟩) ?_
                  exact hN _ rfl
                · rw [if_pos c24] at h
                  refine pg_iload dX12_finds_153 rfl ?_
                  refine pg_iload dX12_finds_155 rfl ?_
                  refine pg_icmp_ge 194 dX12_finds_157 (by decide) (fun c26 => ?_) (fun c26 => ?_)
                  · rw [if_pos c26] at h
                    obtain ⟨w27, e_w27⟩ : ∃ z : Int32, z = s.2.2.2.2.2.1 + 1 := ⟨_, rfl⟩
                    replace h := lt_at h e_w27
                    refine eg_iinc [some (.ref 128), some (.int v1), some (.int s.1), some (.int s.2.1), some (.int s.2.2.1), some (.int s.2.2.2.1), some (.int s.2.2.2.2.1), some (.int w27), some (.int r4.1), some (.int w5), some (.int w15), some (.int r16.1)] w27 1 dX12_finds_194 rfl rfl e_w27 rfl ?_
                    refine pg_goto 24 dX12_finds_197 (by decide) ?_
                    obtain rfl := Option.some.inj h
                    refine eg_forget [some (.ref 128), some (.int v1), some (.int s.1), some (.int s.2.1), some (.int s.2.2.1), some (.int s.2.2.2.1), some (.int s.2.2.2.2.1), some (.int w27), none, none, none, none] (show pm_sub _ _ from ⟨rfl, ⟨rfl, ⟨rfl, ⟨rfl, ⟨rfl, ⟨rfl, ⟨rfl, ⟨rfl, trivial⟩⟩⟩⟩⟩⟩⟩⟩) ?_
                    exact hN _ rfl
                  · rw [if_neg c26] at h
                    refine eg_forget [some (.ref 128), some (.int v1), some (.int s.1), some (.int s.2.1), some (.int s.2.2.1), some (.int s.2.2.2.1), some (.int s.2.2.2.2.1), some (.int s.2.2.2.2.2.1), none, some (.int w5), some (.int w15), some (.int r16.1)] (show pm_sub _ _ from ⟨rfl, ⟨rfl, ⟨rfl, ⟨rfl, ⟨rfl, ⟨rfl, ⟨rfl, ⟨rfl, ⟨rfl, ⟨rfl, ⟨rfl, trivial⟩⟩⟩⟩⟩⟩⟩⟩⟩⟩⟩) ?_
                    exact lj_X12_finds_160 hfl hS h hN hT
set_option maxRecDepth 20000 in
set_option maxHeartbeats 4000000 in
theorem ct_X12_finds (hfl : g.1.stackTraces = false) (hS : pS 128 137 S) {v1 : Int32} {m0 : me} {x : me} (h : f_X12_finds v1 m0 = some x) : pm_Ct g mX12_finds [.ref 128, .int v1] (en S m0) 0 0 (qV S x) qF := by
  refine pm_of (by decide +kernel) rfl hfl (Nat.le_of_ble_eq_true rfl) (fun X hE => ?_)
  show pm_G g mX12_finds X 0 [some (.ref 128), some (.int v1), none, none, none, none, none, none, none, none, none, none] [] (en S m0) 0 0
  unfold f_X12_finds at h
  refine pg_aload_n dX12_finds_0 rfl ?_
  refine pg_iload_n dX12_finds_1 rfl ?_
  obtain ⟨r1, h_r1, h⟩ := bd_at h
  refine eg_cVi (C := mX12_idOf) (as := [(.int v1)]) dX12_finds_2 mw800 cv_X12_idOf hS sp128 (Nat.le_of_ble_eq_true rfl) (Nat.le_of_ble_eq_true rfl) rfl rfl rfl (Nat.le_of_ble_eq_true rfl) rfl ⟨(Nat.le_of_ble_eq_true rfl), (Nat.le_of_ble_eq_true rfl)⟩ (ct_X12_idOf hfl (hS.sub (Nat.le_of_ble_eq_true rfl) (Nat.le_of_ble_eq_true rfl)) h_r1) ?_
  refine eg_istore_n [some (.ref 128), some (.int v1), some (.int r1.1), none, none, none, none, none, none, none, none, none] r1.1 dX12_finds_5 rfl (Nat.le_of_ble_eq_true rfl) rfl ?_
  refine pg_iconst 0 dX12_finds_6 rfl ?_
  refine eg_istore_n [some (.ref 128), some (.int v1), some (.int r1.1), some (.int 0), none, none, none, none, none, none, none, none] 0 dX12_finds_7 rfl (Nat.le_of_ble_eq_true rfl) rfl ?_
  refine pg_iconst 0 dX12_finds_8 rfl ?_
  refine eg_istore [some (.ref 128), some (.int v1), some (.int r1.1), some (.int 0), some (.int 0), none, none, none, none, none, none, none] 0 dX12_finds_9 rfl (Nat.le_of_ble_eq_true rfl) rfl ?_
  refine pg_iconst (-1) dX12_finds_11 rfl ?_
  refine eg_istore [some (.ref 128), some (.int v1), some (.int r1.1), some (.int 0), some (.int 0), some (.int (-1)), none, none, none, none, none, none] (-1) dX12_finds_12 rfl (Nat.le_of_ble_eq_true rfl) rfl ?_
  refine pg_aload_n dX12_finds_14 rfl ?_
  refine pg_iload_n dX12_finds_15 rfl ?_
  obtain ⟨r2, h_r2, h⟩ := bd_at h
  refine eg_cVi (C := mX12_idOf) (as := [(.int v1)]) dX12_finds_16 mw800 cv_X12_idOf hS sp128 (Nat.le_of_ble_eq_true rfl) (Nat.le_of_ble_eq_true rfl) rfl rfl rfl (Nat.le_of_ble_eq_true rfl) rfl ⟨(Nat.le_of_ble_eq_true rfl), (Nat.le_of_ble_eq_true rfl)⟩ (ct_X12_idOf hfl (hS.sub (Nat.le_of_ble_eq_true rfl) (Nat.le_of_ble_eq_true rfl)) h_r2) ?_
  refine eg_istore [some (.ref 128), some (.int v1), some (.int r1.1), some (.int 0), some (.int 0), some (.int (-1)), some (.int r2.1), none, none, none, none, none] r2.1 dX12_finds_19 rfl (Nat.le_of_ble_eq_true rfl) rfl ?_
  refine pg_iconst 0 dX12_finds_21 rfl ?_
  refine eg_istore [some (.ref 128), some (.int v1), some (.int r1.1), some (.int 0), some (.int 0), some (.int (-1)), some (.int r2.1), some (.int 0), none, none, none, none] 0 dX12_finds_22 rfl (Nat.le_of_ble_eq_true rfl) rfl ?_
  obtain ⟨s28, h_s28, h⟩ := bd_at h
  refine lo_at (b := b_X12_finds_24 v1) (G := (fun z9 : Int32 × Int32 × Int32 × Int32 × Int32 × Int32 × me => pm_G g mX12_finds X 24 [some (.ref 128), some (.int v1), some (.int z9.1), some (.int z9.2.1), some (.int z9.2.2.1), some (.int z9.2.2.2.1), some (.int z9.2.2.2.2.1), some (.int z9.2.2.2.2.2.1), none, none, none, none] [] (en S z9.2.2.2.2.2.2) 0 0)) (T := (fun z9 : Int32 × Int32 × Int32 × Int32 × Int32 × Int32 × me => pm_G g mX12_finds X 200 [some (.ref 128), some (.int v1), some (.int z9.1), some (.int z9.2.1), some (.int z9.2.2.1), some (.int z9.2.2.2.1), some (.int z9.2.2.2.2.1), some (.int z9.2.2.2.2.2.1), none, none, none, none] [] (en S z9.2.2.2.2.2.2) 0 0)) (fun q9 r9 h1 h2 h3 => lb_X12_finds_24 hfl hS h1 h2 h3) 2048 (r1.1, 0, 0, (-1), r2.1, 0, r2.2) s28 h_s28 ?_
  show pm_G g mX12_finds X 200 [some (.ref 128), some (.int v1), some (.int s28.1), some (.int s28.2.1), some (.int s28.2.2.1), some (.int s28.2.2.2.1), some (.int s28.2.2.2.2.1), some (.int s28.2.2.2.2.2.1), none, none, none, none] [] (en S s28.2.2.2.2.2.2) 0 0
  refine pg_aload_n dX12_finds_200 rfl ?_
  refine eg_get dX12_finds_201 fa_X12_22 hS sp128 (Nat.le_of_ble_eq_true rfl) (Nat.le_of_ble_eq_true rfl) rfl rfl ?_
  refine pg_iconst 4 dX12_finds_204 rfl ?_
  refine pg_iload_n dX12_finds_205 rfl ?_
  refine pg_imul dX12_finds_206 ?_
  refine pg_iload_n dX12_finds_207 rfl ?_
  obtain ⟨g1, h⟩ := gd_at h
  refine eg_iastJ ((4 * v1).toNatClampNeg) dX12_finds_208 hS sp133 (Nat.le_of_ble_eq_true rfl) (Nat.le_of_ble_eq_true rfl) (fun _ _ _ => rfl) (inR_vp g1) rfl (fun m29 e_m29 => ?_)
  replace h := lt_at h e_m29
  refine pg_aload_n dX12_finds_209 rfl ?_
  refine eg_get dX12_finds_210 fa_X12_22 hS sp128 (Nat.le_of_ble_eq_true rfl) (Nat.le_of_ble_eq_true rfl) rfl rfl ?_
  refine pg_iconst 4 dX12_finds_213 rfl ?_
  refine pg_iload_n dX12_finds_214 rfl ?_
  refine pg_imul dX12_finds_215 ?_
  refine pg_iconst 1 dX12_finds_216 rfl ?_
  refine pg_iadd dX12_finds_217 ?_
  refine pg_iload_n dX12_finds_218 rfl ?_
  obtain ⟨g1, h⟩ := gd_at h
  refine eg_iastJ (((4 * v1) + 1).toNatClampNeg) dX12_finds_219 hS sp133 (Nat.le_of_ble_eq_true rfl) (Nat.le_of_ble_eq_true rfl) (fun _ _ _ => rfl) (inR_vp g1) rfl (fun m30 e_m30 => ?_)
  replace h := lt_at h e_m30
  refine pg_aload_n dX12_finds_220 rfl ?_
  refine eg_get dX12_finds_221 fa_X12_22 hS sp128 (Nat.le_of_ble_eq_true rfl) (Nat.le_of_ble_eq_true rfl) rfl rfl ?_
  refine pg_iconst 4 dX12_finds_224 rfl ?_
  refine pg_iload_n dX12_finds_225 rfl ?_
  refine pg_imul dX12_finds_226 ?_
  refine pg_iconst 2 dX12_finds_227 rfl ?_
  refine pg_iadd dX12_finds_228 ?_
  refine pg_iload dX12_finds_229 rfl ?_
  obtain ⟨g1, h⟩ := gd_at h
  refine eg_iastJ (((4 * v1) + 2).toNatClampNeg) dX12_finds_231 hS sp133 (Nat.le_of_ble_eq_true rfl) (Nat.le_of_ble_eq_true rfl) (fun _ _ _ => rfl) (inR_vp g1) rfl (fun m31 e_m31 => ?_)
  replace h := lt_at h e_m31
  refine pg_aload_n dX12_finds_232 rfl ?_
  refine eg_get dX12_finds_233 fa_X12_22 hS sp128 (Nat.le_of_ble_eq_true rfl) (Nat.le_of_ble_eq_true rfl) rfl rfl ?_
  refine pg_iconst 4 dX12_finds_236 rfl ?_
  refine pg_iload_n dX12_finds_237 rfl ?_
  refine pg_imul dX12_finds_238 ?_
  refine pg_iconst 3 dX12_finds_239 rfl ?_
  refine pg_iadd dX12_finds_240 ?_
  refine pg_iload dX12_finds_241 rfl ?_
  obtain ⟨g1, h⟩ := gd_at h
  refine eg_iastJ (((4 * v1) + 3).toNatClampNeg) dX12_finds_243 hS sp133 (Nat.le_of_ble_eq_true rfl) (Nat.le_of_ble_eq_true rfl) (fun _ _ _ => rfl) (inR_vp g1) rfl (fun m32 e_m32 => ?_)
  replace h := lt_at h e_m32
  obtain rfl := Option.some.inj h
  exact hE.2.2.1 _ _ _ _ _ dX12_finds_244 rfl (Nat.zero_le _) (Nat.zero_le _) ⟨rfl, rfl⟩
def b_X12_vectors_2 (s : Int32 × me) : Option ((Int32 × me) ⊕ (Int32 × me)) :=
  if (s.2.1 129 0) ≤ s.1 then
    some (.inr (s.1, s.2))
  else
    bd (f_X12_finds s.1 s.2) (fun r2 =>
    lt (s.1 + 1) (fun w3 =>
    some (.inl (w3, r2))))
def b_X12_vectors_37 (v1 : Int32) (s : Int32 × me) : Option ((Int32 × me) ⊕ (Int32 × me)) :=
  if 4 ≤ s.1 then
    some (.inr (s.1, s.2))
  else
    gd (inR ((4 * v1) + s.1) 32) (
    gd (inR (((11 + (5 * v1)) + 1) + s.1) 487) (
    lt (wI s.2 129 ((((11 + (5 * v1)) + 1) + s.1).toNatClampNeg) (s.2.1 133 (((4 * v1) + s.1).toNatClampNeg))) (fun m7 =>
    lt (s.1 + 1) (fun w8 =>
    some (.inl (w8, m7))))))
def b_X12_vectors_25 (s : Int32 × me) : Option ((Int32 × me) ⊕ (Int32 × me)) :=
  if (s.2.1 129 0) ≤ s.1 then
    some (.inr (s.1, s.2))
  else
    bd (lo (b_X12_vectors_37 s.1) 2048 (0, s.2)) (fun s9 =>
    lt (s.1 + 1) (fun w10 =>
    some (.inl (w10, s9.2))))
def f_X12_vectors (m0 : me) : Option me :=
  bd (lo (b_X12_vectors_2) 2048 (0, m0)) (fun s4 =>
  bd (lo (b_X12_vectors_25) 2048 (0, s4.2)) (fun s11 =>
  some (s11.2)))
set_option maxRecDepth 20000 in
set_option maxHeartbeats 4000000 in
theorem lb_X12_vectors_2 (hfl : g.1.stackTraces = false) (hS : pS 128 137 S) {s : Int32 × me} {r : (Int32 × me) ⊕ (Int32 × me)} (h : b_X12_vectors_2 s = some r) (hN : ∀ s', r = .inl s' → (fun z9 : Int32 × me => pm_G g mX12_vectors X 2 [some (.ref 128), some (.int z9.1), none] [] (en S z9.2) 0 0) s') (hT : ∀ t, r = .inr t → (fun z9 : Int32 × me => pm_G g mX12_vectors X 23 [some (.ref 128), some (.int z9.1), none] [] (en S z9.2) 0 0) t) : (fun z9 : Int32 × me => pm_G g mX12_vectors X 2 [some (.ref 128), some (.int z9.1), none] [] (en S z9.2) 0 0) s := by
  unfold b_X12_vectors_2 at h
  show pm_G g mX12_vectors X 2 [some (.ref 128), some (.int s.1), none] [] (en S s.2) 0 0
  refine pg_iload_n dX12_vectors_2 rfl ?_
  refine pg_aload_n dX12_vectors_3 rfl ?_
  refine eg_get dX12_vectors_4 fa_X12_7 hS sp128 (Nat.le_of_ble_eq_true rfl) (Nat.le_of_ble_eq_true rfl) rfl rfl ?_
  refine pg_iconst 0 dX12_vectors_7 rfl ?_
  refine eg_ialdJ 0 dX12_vectors_8 hS sp129 (Nat.le_of_ble_eq_true rfl) (Nat.le_of_ble_eq_true rfl) rfl (inR_vp rfl) rfl ?_
  refine pg_icmp_ge 23 dX12_vectors_9 (by decide) (fun c1 => ?_) (fun c1 => ?_)
  · rw [if_pos c1] at h
    obtain rfl := Option.some.inj h
    exact hT _ rfl
  · rw [if_neg c1] at h
    refine pg_aload_n dX12_vectors_12 rfl ?_
    refine pg_iload_n dX12_vectors_13 rfl ?_
    obtain ⟨r2, h_r2, h⟩ := bd_at h
    refine eg_cVv (C := mX12_finds) (as := [(.int s.1)]) dX12_vectors_14 mw932 cv_X12_finds hS sp128 (Nat.le_of_ble_eq_true rfl) (Nat.le_of_ble_eq_true rfl) rfl rfl rfl (Nat.le_of_ble_eq_true rfl) rfl ⟨(Nat.le_of_ble_eq_true rfl), (Nat.le_of_ble_eq_true rfl)⟩ (ct_X12_finds hfl (hS.sub (Nat.le_of_ble_eq_true rfl) (Nat.le_of_ble_eq_true rfl)) h_r2) ?_
    obtain ⟨w3, e_w3⟩ : ∃ z : Int32, z = s.1 + 1 := ⟨_, rfl⟩
    replace h := lt_at h e_w3
    refine eg_iinc [some (.ref 128), some (.int w3), none] w3 1 dX12_vectors_17 rfl rfl e_w3 rfl ?_
    refine pg_goto 2 dX12_vectors_20 (by decide) ?_
    obtain rfl := Option.some.inj h
    exact hN _ rfl
set_option maxRecDepth 20000 in
set_option maxHeartbeats 4000000 in
theorem lb_X12_vectors_37 (hfl : g.1.stackTraces = false) (hS : pS 128 137 S) {v1 : Int32} {s : Int32 × me} {r : (Int32 × me) ⊕ (Int32 × me)} (h : b_X12_vectors_37 v1 s = some r) (hN : ∀ s', r = .inl s' → (fun z9 : Int32 × me => pm_G g mX12_vectors X 37 [some (.ref 128), some (.int v1), some (.int z9.1)] [] (en S z9.2) 0 0) s') (hT : ∀ t, r = .inr t → (fun z9 : Int32 × me => pm_G g mX12_vectors X 73 [some (.ref 128), some (.int v1), some (.int z9.1)] [] (en S z9.2) 0 0) t) : (fun z9 : Int32 × me => pm_G g mX12_vectors X 37 [some (.ref 128), some (.int v1), some (.int z9.1)] [] (en S z9.2) 0 0) s := by
  unfold b_X12_vectors_37 at h
  show pm_G g mX12_vectors X 37 [some (.ref 128), some (.int v1), some (.int s.1)] [] (en S s.2) 0 0
  refine pg_iload_n dX12_vectors_37 rfl ?_
  refine pg_iconst 4 dX12_vectors_38 rfl ?_
  refine pg_icmp_ge 73 dX12_vectors_39 (by decide) (fun c6 => ?_) (fun c6 => ?_)
  · rw [if_pos c6] at h
    obtain rfl := Option.some.inj h
    exact hT _ rfl
  · rw [if_neg c6] at h
    refine pg_aload_n dX12_vectors_42 rfl ?_
    refine eg_get dX12_vectors_43 fa_X12_7 hS sp128 (Nat.le_of_ble_eq_true rfl) (Nat.le_of_ble_eq_true rfl) rfl rfl ?_
    refine pg_bipush 11 dX12_vectors_46 rfl ?_
    refine pg_iconst 5 dX12_vectors_48 rfl ?_
    refine pg_iload_n dX12_vectors_49 rfl ?_
    refine pg_imul dX12_vectors_50 ?_
    refine pg_iadd dX12_vectors_51 ?_
    refine pg_iconst 1 dX12_vectors_52 rfl ?_
    refine pg_iadd dX12_vectors_53 ?_
    refine pg_iload_n dX12_vectors_54 rfl ?_
    refine pg_iadd dX12_vectors_55 ?_
    refine pg_aload_n dX12_vectors_56 rfl ?_
    refine eg_get dX12_vectors_57 fa_X12_22 hS sp128 (Nat.le_of_ble_eq_true rfl) (Nat.le_of_ble_eq_true rfl) rfl rfl ?_
    refine pg_iconst 4 dX12_vectors_60 rfl ?_
    refine pg_iload_n dX12_vectors_61 rfl ?_
    refine pg_imul dX12_vectors_62 ?_
    refine pg_iload_n dX12_vectors_63 rfl ?_
    refine pg_iadd dX12_vectors_64 ?_
    obtain ⟨g1, h⟩ := gd_at h
    refine eg_ialdJ (((4 * v1) + s.1).toNatClampNeg) dX12_vectors_65 hS sp133 (Nat.le_of_ble_eq_true rfl) (Nat.le_of_ble_eq_true rfl) rfl (inR_vp g1) rfl ?_
    obtain ⟨g1, h⟩ := gd_at h
    refine eg_iastJ ((((11 + (5 * v1)) + 1) + s.1).toNatClampNeg) dX12_vectors_66 hS sp129 (Nat.le_of_ble_eq_true rfl) (Nat.le_of_ble_eq_true rfl) (fun _ _ _ => rfl) (inR_vp g1) rfl (fun m7 e_m7 => ?_)
    replace h := lt_at h e_m7
    obtain ⟨w8, e_w8⟩ : ∃ z : Int32, z = s.1 + 1 := ⟨_, rfl⟩
    replace h := lt_at h e_w8
    refine eg_iinc [some (.ref 128), some (.int v1), some (.int w8)] w8 1 dX12_vectors_67 rfl rfl e_w8 rfl ?_
    refine pg_goto 37 dX12_vectors_70 (by decide) ?_
    obtain rfl := Option.some.inj h
    exact hN _ rfl
set_option maxRecDepth 20000 in
set_option maxHeartbeats 4000000 in
theorem lb_X12_vectors_25 (hfl : g.1.stackTraces = false) (hS : pS 128 137 S) {s : Int32 × me} {r : (Int32 × me) ⊕ (Int32 × me)} (h : b_X12_vectors_25 s = some r) (hN : ∀ s', r = .inl s' → (fun z9 : Int32 × me => pm_G g mX12_vectors X 25 [some (.ref 128), some (.int z9.1), none] [] (en S z9.2) 0 0) s') (hT : ∀ t, r = .inr t → (fun z9 : Int32 × me => pm_G g mX12_vectors X 79 [some (.ref 128), some (.int z9.1), none] [] (en S z9.2) 0 0) t) : (fun z9 : Int32 × me => pm_G g mX12_vectors X 25 [some (.ref 128), some (.int z9.1), none] [] (en S z9.2) 0 0) s := by
  unfold b_X12_vectors_25 at h
  show pm_G g mX12_vectors X 25 [some (.ref 128), some (.int s.1), none] [] (en S s.2) 0 0
  refine pg_iload_n dX12_vectors_25 rfl ?_
  refine pg_aload_n dX12_vectors_26 rfl ?_
  refine eg_get dX12_vectors_27 fa_X12_7 hS sp128 (Nat.le_of_ble_eq_true rfl) (Nat.le_of_ble_eq_true rfl) rfl rfl ?_
  refine pg_iconst 0 dX12_vectors_30 rfl ?_
  refine eg_ialdJ 0 dX12_vectors_31 hS sp129 (Nat.le_of_ble_eq_true rfl) (Nat.le_of_ble_eq_true rfl) rfl (inR_vp rfl) rfl ?_
  refine pg_icmp_ge 79 dX12_vectors_32 (by decide) (fun c5 => ?_) (fun c5 => ?_)
  · rw [if_pos c5] at h
    obtain rfl := Option.some.inj h
    exact hT _ rfl
  · rw [if_neg c5] at h
    refine pg_iconst 0 dX12_vectors_35 rfl ?_
    refine eg_istore_n [some (.ref 128), some (.int s.1), some (.int 0)] 0 dX12_vectors_36 rfl (Nat.le_of_ble_eq_true rfl) rfl ?_
    obtain ⟨s9, h_s9, h⟩ := bd_at h
    refine lo_at (b := b_X12_vectors_37 s.1) (G := (fun z9 : Int32 × me => pm_G g mX12_vectors X 37 [some (.ref 128), some (.int s.1), some (.int z9.1)] [] (en S z9.2) 0 0)) (T := (fun z9 : Int32 × me => pm_G g mX12_vectors X 73 [some (.ref 128), some (.int s.1), some (.int z9.1)] [] (en S z9.2) 0 0)) (fun q9 r9 h1 h2 h3 => lb_X12_vectors_37 hfl hS h1 h2 h3) 2048 (0, s.2) s9 h_s9 ?_
    show pm_G g mX12_vectors X 73 [some (.ref 128), some (.int s.1), some (.int s9.1)] [] (en S s9.2) 0 0
    obtain ⟨w10, e_w10⟩ : ∃ z : Int32, z = s.1 + 1 := ⟨_, rfl⟩
    replace h := lt_at h e_w10
    refine eg_iinc [some (.ref 128), some (.int w10), some (.int s9.1)] w10 1 dX12_vectors_73 rfl rfl e_w10 rfl ?_
    refine pg_goto 25 dX12_vectors_76 (by decide) ?_
    obtain rfl := Option.some.inj h
    refine eg_forget [some (.ref 128), some (.int w10), none] (show pm_sub _ _ from ⟨rfl, ⟨rfl, trivial⟩⟩) ?_
    exact hN _ rfl
set_option maxRecDepth 20000 in
set_option maxHeartbeats 4000000 in
theorem ct_X12_vectors (hfl : g.1.stackTraces = false) (hS : pS 128 137 S) {m0 : me} {x : me} (h : f_X12_vectors m0 = some x) : pm_Ct g mX12_vectors [.ref 128] (en S m0) 0 0 (qV S x) qF := by
  refine pm_of (by decide +kernel) rfl hfl (Nat.le_of_ble_eq_true rfl) (fun X hE => ?_)
  show pm_G g mX12_vectors X 0 [some (.ref 128), none, none] [] (en S m0) 0 0
  unfold f_X12_vectors at h
  refine pg_iconst 0 dX12_vectors_0 rfl ?_
  refine eg_istore_n [some (.ref 128), some (.int 0), none] 0 dX12_vectors_1 rfl (Nat.le_of_ble_eq_true rfl) rfl ?_
  obtain ⟨s4, h_s4, h⟩ := bd_at h
  refine lo_at (b := b_X12_vectors_2) (G := (fun z9 : Int32 × me => pm_G g mX12_vectors X 2 [some (.ref 128), some (.int z9.1), none] [] (en S z9.2) 0 0)) (T := (fun z9 : Int32 × me => pm_G g mX12_vectors X 23 [some (.ref 128), some (.int z9.1), none] [] (en S z9.2) 0 0)) (fun q9 r9 h1 h2 h3 => lb_X12_vectors_2 hfl hS h1 h2 h3) 2048 (0, m0) s4 h_s4 ?_
  show pm_G g mX12_vectors X 23 [some (.ref 128), some (.int s4.1), none] [] (en S s4.2) 0 0
  refine pg_iconst 0 dX12_vectors_23 rfl ?_
  refine eg_istore_n [some (.ref 128), some (.int 0), none] 0 dX12_vectors_24 rfl (Nat.le_of_ble_eq_true rfl) rfl ?_
  obtain ⟨s11, h_s11, h⟩ := bd_at h
  refine lo_at (b := b_X12_vectors_25) (G := (fun z9 : Int32 × me => pm_G g mX12_vectors X 25 [some (.ref 128), some (.int z9.1), none] [] (en S z9.2) 0 0)) (T := (fun z9 : Int32 × me => pm_G g mX12_vectors X 79 [some (.ref 128), some (.int z9.1), none] [] (en S z9.2) 0 0)) (fun q9 r9 h1 h2 h3 => lb_X12_vectors_25 hfl hS h1 h2 h3) 2048 (0, s4.2) s11 h_s11 ?_
  show pm_G g mX12_vectors X 79 [some (.ref 128), some (.int s11.1), none] [] (en S s11.2) 0 0
  obtain rfl := Option.some.inj h
  exact hE.2.2.1 _ _ _ _ _ dX12_vectors_79 rfl (Nat.zero_le _) (Nat.zero_le _) ⟨rfl, rfl⟩
def f_X12_isAhead (v1 : Int32) (v2 : Int32) (m0 : me) : Option (Int32 × me) :=
  lt (11 + (5 * v1)) (fun w1 =>
  lt (11 + (5 * v2)) (fun w2 =>
  gd (inR (w1 + 1) 487) (
  gd (inR (w2 + 1) 487) (
  if (m0.1 129 ((w1 + 1).toNatClampNeg)) = (m0.1 129 ((w2 + 1).toNatClampNeg)) then
    gd (inR (w1 + 2) 487) (
    gd (inR (w2 + 2) 487) (
    if (m0.1 129 ((w1 + 2).toNatClampNeg)) = (m0.1 129 ((w2 + 2).toNatClampNeg)) then
      bd (f_X12_idOf v1 m0) (fun r5 =>
      bd (f_X12_idOf v2 r5.2) (fun r6 =>
      if r6.1 ≤ r5.1 then
        some ((0, r6.2))
      else
        some ((1, r6.2))))
    else
      gd (inR (w1 + 2) 487) (
      gd (inR (w2 + 2) 487) (
      if (m0.1 129 ((w2 + 2).toNatClampNeg)) ≤ (m0.1 129 ((w1 + 2).toNatClampNeg)) then
        some ((0, m0))
      else
        some ((1, m0))))))
  else
    gd (inR (w1 + 1) 487) (
    gd (inR (w2 + 1) 487) (
    if (m0.1 129 ((w2 + 1).toNatClampNeg)) ≤ (m0.1 129 ((w1 + 1).toNatClampNeg)) then
      some ((0, m0))
    else
      some ((1, m0))))))))
set_option maxRecDepth 20000 in
set_option maxHeartbeats 4000000 in
theorem ct_X12_isAhead (hfl : g.1.stackTraces = false) (hS : pS 128 137 S) {v1 : Int32} {v2 : Int32} {m0 : me} {x : (Int32 × me)} (h : f_X12_isAhead v1 v2 m0 = some x) : pm_Ct g mX12_isAhead [.ref 128, .int v1, .int v2] (en S m0) 0 0 (qI S x) qF := by
  refine pm_of (by decide +kernel) rfl hfl (Nat.le_of_ble_eq_true rfl) (fun X hE => ?_)
  show pm_G g mX12_isAhead X 0 [some (.ref 128), some (.int v1), some (.int v2), none, none] [] (en S m0) 0 0
  unfold f_X12_isAhead at h
  refine pg_bipush 11 dX12_isAhead_0 rfl ?_
  refine pg_iconst 5 dX12_isAhead_2 rfl ?_
  refine pg_iload_n dX12_isAhead_3 rfl ?_
  refine pg_imul dX12_isAhead_4 ?_
  refine pg_iadd dX12_isAhead_5 ?_
  obtain ⟨w1, e_w1⟩ : ∃ z : Int32, z = 11 + (5 * v1) := ⟨_, rfl⟩
  replace h := lt_at h e_w1
  refine eg_istore_n [some (.ref 128), some (.int v1), some (.int v2), some (.int w1), none] w1 dX12_isAhead_6 e_w1 (Nat.le_of_ble_eq_true rfl) rfl ?_
  refine pg_bipush 11 dX12_isAhead_7 rfl ?_
  refine pg_iconst 5 dX12_isAhead_9 rfl ?_
  refine pg_iload_n dX12_isAhead_10 rfl ?_
  refine pg_imul dX12_isAhead_11 ?_
  refine pg_iadd dX12_isAhead_12 ?_
  obtain ⟨w2, e_w2⟩ : ∃ z : Int32, z = 11 + (5 * v2) := ⟨_, rfl⟩
  replace h := lt_at h e_w2
  refine eg_istore [some (.ref 128), some (.int v1), some (.int v2), some (.int w1), some (.int w2)] w2 dX12_isAhead_13 e_w2 (Nat.le_of_ble_eq_true rfl) rfl ?_
  refine pg_aload_n dX12_isAhead_15 rfl ?_
  refine eg_get dX12_isAhead_16 fa_X12_7 hS sp128 (Nat.le_of_ble_eq_true rfl) (Nat.le_of_ble_eq_true rfl) rfl rfl ?_
  refine pg_iload_n dX12_isAhead_19 rfl ?_
  refine pg_iconst 1 dX12_isAhead_20 rfl ?_
  refine pg_iadd dX12_isAhead_21 ?_
  obtain ⟨g1, h⟩ := gd_at h
  refine eg_ialdJ ((w1 + 1).toNatClampNeg) dX12_isAhead_22 hS sp129 (Nat.le_of_ble_eq_true rfl) (Nat.le_of_ble_eq_true rfl) rfl (inR_vp g1) rfl ?_
  refine pg_aload_n dX12_isAhead_23 rfl ?_
  refine eg_get dX12_isAhead_24 fa_X12_7 hS sp128 (Nat.le_of_ble_eq_true rfl) (Nat.le_of_ble_eq_true rfl) rfl rfl ?_
  refine pg_iload dX12_isAhead_27 rfl ?_
  refine pg_iconst 1 dX12_isAhead_29 rfl ?_
  refine pg_iadd dX12_isAhead_30 ?_
  obtain ⟨g1, h⟩ := gd_at h
  refine eg_ialdJ ((w2 + 1).toNatClampNeg) dX12_isAhead_31 hS sp129 (Nat.le_of_ble_eq_true rfl) (Nat.le_of_ble_eq_true rfl) rfl (inR_vp g1) rfl ?_
  refine pg_icmp_eq 61 dX12_isAhead_32 (by decide) (fun c3 => ?_) (fun c3 => ?_)
  · rw [if_pos c3] at h
    refine pg_aload_n dX12_isAhead_61 rfl ?_
    refine eg_get dX12_isAhead_62 fa_X12_7 hS sp128 (Nat.le_of_ble_eq_true rfl) (Nat.le_of_ble_eq_true rfl) rfl rfl ?_
    refine pg_iload_n dX12_isAhead_65 rfl ?_
    refine pg_iconst 2 dX12_isAhead_66 rfl ?_
    refine pg_iadd dX12_isAhead_67 ?_
    obtain ⟨g1, h⟩ := gd_at h
    refine eg_ialdJ ((w1 + 2).toNatClampNeg) dX12_isAhead_68 hS sp129 (Nat.le_of_ble_eq_true rfl) (Nat.le_of_ble_eq_true rfl) rfl (inR_vp g1) rfl ?_
    refine pg_aload_n dX12_isAhead_69 rfl ?_
    refine eg_get dX12_isAhead_70 fa_X12_7 hS sp128 (Nat.le_of_ble_eq_true rfl) (Nat.le_of_ble_eq_true rfl) rfl rfl ?_
    refine pg_iload dX12_isAhead_73 rfl ?_
    refine pg_iconst 2 dX12_isAhead_75 rfl ?_
    refine pg_iadd dX12_isAhead_76 ?_
    obtain ⟨g1, h⟩ := gd_at h
    refine eg_ialdJ ((w2 + 2).toNatClampNeg) dX12_isAhead_77 hS sp129 (Nat.le_of_ble_eq_true rfl) (Nat.le_of_ble_eq_true rfl) rfl (inR_vp g1) rfl ?_
    refine pg_icmp_eq 109 dX12_isAhead_78 (by decide) (fun c4 => ?_) (fun c4 => ?_)
    · rw [if_pos c4] at h
      refine pg_aload_n dX12_isAhead_109 rfl ?_
      refine pg_iload_n dX12_isAhead_110 rfl ?_
      obtain ⟨r5, h_r5, h⟩ := bd_at h
      refine eg_cVi (C := mX12_idOf) (as := [(.int v1)]) dX12_isAhead_111 mw800 cv_X12_idOf hS sp128 (Nat.le_of_ble_eq_true rfl) (Nat.le_of_ble_eq_true rfl) rfl rfl rfl (Nat.le_of_ble_eq_true rfl) rfl ⟨(Nat.le_of_ble_eq_true rfl), (Nat.le_of_ble_eq_true rfl)⟩ (ct_X12_idOf hfl (hS.sub (Nat.le_of_ble_eq_true rfl) (Nat.le_of_ble_eq_true rfl)) h_r5) ?_
      refine pg_aload_n dX12_isAhead_114 rfl ?_
      refine pg_iload_n dX12_isAhead_115 rfl ?_
      obtain ⟨r6, h_r6, h⟩ := bd_at h
      refine eg_cVi (C := mX12_idOf) (as := [(.int v2)]) dX12_isAhead_116 mw800 cv_X12_idOf hS sp128 (Nat.le_of_ble_eq_true rfl) (Nat.le_of_ble_eq_true rfl) rfl rfl rfl (Nat.le_of_ble_eq_true rfl) rfl ⟨(Nat.le_of_ble_eq_true rfl), (Nat.le_of_ble_eq_true rfl)⟩ (ct_X12_idOf hfl (hS.sub (Nat.le_of_ble_eq_true rfl) (Nat.le_of_ble_eq_true rfl)) h_r6) ?_
      refine pg_icmp_ge 126 dX12_isAhead_119 (by decide) (fun c7 => ?_) (fun c7 => ?_)
      · rw [if_pos c7] at h
        refine pg_iconst 0 dX12_isAhead_126 rfl ?_
        obtain rfl := Option.some.inj h
        exact hE.2.1 _ _ _ _ _ _ .boolean dX12_isAhead_127 rfl rfl (Nat.zero_le _) (Nat.zero_le _) ⟨rfl, rfl⟩
      · rw [if_neg c7] at h
        refine pg_iconst 1 dX12_isAhead_122 rfl ?_
        refine pg_goto 127 dX12_isAhead_123 (by decide) ?_
        obtain rfl := Option.some.inj h
        exact hE.2.1 _ _ _ _ _ _ .boolean dX12_isAhead_127 rfl rfl (Nat.zero_le _) (Nat.zero_le _) ⟨rfl, rfl⟩
    · rw [if_neg c4] at h
      refine pg_aload_n dX12_isAhead_81 rfl ?_
      refine eg_get dX12_isAhead_82 fa_X12_7 hS sp128 (Nat.le_of_ble_eq_true rfl) (Nat.le_of_ble_eq_true rfl) rfl rfl ?_
      refine pg_iload_n dX12_isAhead_85 rfl ?_
      refine pg_iconst 2 dX12_isAhead_86 rfl ?_
      refine pg_iadd dX12_isAhead_87 ?_
      obtain ⟨g1, h⟩ := gd_at h
      refine eg_ialdJ ((w1 + 2).toNatClampNeg) dX12_isAhead_88 hS sp129 (Nat.le_of_ble_eq_true rfl) (Nat.le_of_ble_eq_true rfl) rfl (inR_vp g1) rfl ?_
      refine pg_aload_n dX12_isAhead_89 rfl ?_
      refine eg_get dX12_isAhead_90 fa_X12_7 hS sp128 (Nat.le_of_ble_eq_true rfl) (Nat.le_of_ble_eq_true rfl) rfl rfl ?_
      refine pg_iload dX12_isAhead_93 rfl ?_
      refine pg_iconst 2 dX12_isAhead_95 rfl ?_
      refine pg_iadd dX12_isAhead_96 ?_
      obtain ⟨g1, h⟩ := gd_at h
      refine eg_ialdJ ((w2 + 2).toNatClampNeg) dX12_isAhead_97 hS sp129 (Nat.le_of_ble_eq_true rfl) (Nat.le_of_ble_eq_true rfl) rfl (inR_vp g1) rfl ?_
      refine pg_icmp_ge 105 dX12_isAhead_98 (by decide) (fun c8 => ?_) (fun c8 => ?_)
      · rw [if_pos c8] at h
        refine pg_iconst 0 dX12_isAhead_105 rfl ?_
        refine pg_goto 127 dX12_isAhead_106 (by decide) ?_
        obtain rfl := Option.some.inj h
        exact hE.2.1 _ _ _ _ _ _ .boolean dX12_isAhead_127 rfl rfl (Nat.zero_le _) (Nat.zero_le _) ⟨rfl, rfl⟩
      · rw [if_neg c8] at h
        refine pg_iconst 1 dX12_isAhead_101 rfl ?_
        refine pg_goto 127 dX12_isAhead_102 (by decide) ?_
        obtain rfl := Option.some.inj h
        exact hE.2.1 _ _ _ _ _ _ .boolean dX12_isAhead_127 rfl rfl (Nat.zero_le _) (Nat.zero_le _) ⟨rfl, rfl⟩
  · rw [if_neg c3] at h
    refine pg_aload_n dX12_isAhead_35 rfl ?_
    refine eg_get dX12_isAhead_36 fa_X12_7 hS sp128 (Nat.le_of_ble_eq_true rfl) (Nat.le_of_ble_eq_true rfl) rfl rfl ?_
    refine pg_iload_n dX12_isAhead_39 rfl ?_
    refine pg_iconst 1 dX12_isAhead_40 rfl ?_
    refine pg_iadd dX12_isAhead_41 ?_
    obtain ⟨g1, h⟩ := gd_at h
    refine eg_ialdJ ((w1 + 1).toNatClampNeg) dX12_isAhead_42 hS sp129 (Nat.le_of_ble_eq_true rfl) (Nat.le_of_ble_eq_true rfl) rfl (inR_vp g1) rfl ?_
    refine pg_aload_n dX12_isAhead_43 rfl ?_
    refine eg_get dX12_isAhead_44 fa_X12_7 hS sp128 (Nat.le_of_ble_eq_true rfl) (Nat.le_of_ble_eq_true rfl) rfl rfl ?_
    refine pg_iload dX12_isAhead_47 rfl ?_
    refine pg_iconst 1 dX12_isAhead_49 rfl ?_
    refine pg_iadd dX12_isAhead_50 ?_
    obtain ⟨g1, h⟩ := gd_at h
    refine eg_ialdJ ((w2 + 1).toNatClampNeg) dX12_isAhead_51 hS sp129 (Nat.le_of_ble_eq_true rfl) (Nat.le_of_ble_eq_true rfl) rfl (inR_vp g1) rfl ?_
    refine pg_icmp_ge 59 dX12_isAhead_52 (by decide) (fun c9 => ?_) (fun c9 => ?_)
    · rw [if_pos c9] at h
      refine pg_iconst 0 dX12_isAhead_59 rfl ?_
      obtain rfl := Option.some.inj h
      exact hE.2.1 _ _ _ _ _ _ .boolean dX12_isAhead_60 rfl rfl (Nat.zero_le _) (Nat.zero_le _) ⟨rfl, rfl⟩
    · rw [if_neg c9] at h
      refine pg_iconst 1 dX12_isAhead_55 rfl ?_
      refine pg_goto 60 dX12_isAhead_56 (by decide) ?_
      obtain rfl := Option.some.inj h
      exact hE.2.1 _ _ _ _ _ _ .boolean dX12_isAhead_60 rfl rfl (Nat.zero_le _) (Nat.zero_le _) ⟨rfl, rfl⟩
def f_X12_roleOf (v1 : Int32) (v2 : Int32) (m0 : me) : Option (Int32 × me) :=
  bd (f_X12_of v1 4 m0) (fun r1 =>
  if r1.1 = 0 then
    some ((2, r1.2))
  else
    gd (inR ((11 + (5 * v2)) + 4) 487) (
    if (r1.2.1 129 (((11 + (5 * v2)) + 4).toNatClampNeg)) = v1 then
      some ((0, r1.2))
    else
      bd (f_X12_other v1 v2 r1.2) (fun r4 =>
      bd (f_X12_isAhead v2 r4.1 r4.2) (fun r5 =>
      if r5.1 = 0 then
        some ((2, r5.2))
      else
        some ((1, r5.2))))))
set_option maxRecDepth 20000 in
set_option maxHeartbeats 4000000 in
theorem ct_X12_roleOf (hfl : g.1.stackTraces = false) (hS : pS 128 137 S) {v1 : Int32} {v2 : Int32} {m0 : me} {x : (Int32 × me)} (h : f_X12_roleOf v1 v2 m0 = some x) : pm_Ct g mX12_roleOf [.ref 128, .int v1, .int v2] (en S m0) 0 0 (qI S x) qF := by
  refine pm_of (by decide +kernel) rfl hfl (Nat.le_of_ble_eq_true rfl) (fun X hE => ?_)
  show pm_G g mX12_roleOf X 0 [some (.ref 128), some (.int v1), some (.int v2)] [] (en S m0) 0 0
  unfold f_X12_roleOf at h
  refine pg_aload_n dX12_roleOf_0 rfl ?_
  refine pg_iload_n dX12_roleOf_1 rfl ?_
  refine pg_iconst 4 dX12_roleOf_2 rfl ?_
  obtain ⟨r1, h_r1, h⟩ := bd_at h
  refine eg_cVi (C := mX12_of) (as := [(.int v1), (.int 4)]) dX12_roleOf_3 mw863 cv_X12_of hS sp128 (Nat.le_of_ble_eq_true rfl) (Nat.le_of_ble_eq_true rfl) rfl rfl rfl (Nat.le_of_ble_eq_true rfl) rfl ⟨(Nat.le_of_ble_eq_true rfl), (Nat.le_of_ble_eq_true rfl)⟩ (ct_X12_of hfl (hS.sub (Nat.le_of_ble_eq_true rfl) (Nat.le_of_ble_eq_true rfl)) h_r1) ?_
  refine pg_if_ne 11 dX12_roleOf_6 (by decide) (fun c2 => ?_) (fun c2 => ?_)
  · rw [if_neg c2] at h
    refine pg_aload_n dX12_roleOf_11 rfl ?_
    refine eg_get dX12_roleOf_12 fa_X12_7 hS sp128 (Nat.le_of_ble_eq_true rfl) (Nat.le_of_ble_eq_true rfl) rfl rfl ?_
    refine pg_bipush 11 dX12_roleOf_15 rfl ?_
    refine pg_iconst 5 dX12_roleOf_17 rfl ?_
    refine pg_iload_n dX12_roleOf_18 rfl ?_
    refine pg_imul dX12_roleOf_19 ?_
    refine pg_iadd dX12_roleOf_20 ?_
    refine pg_iconst 4 dX12_roleOf_21 rfl ?_
    refine pg_iadd dX12_roleOf_22 ?_
    obtain ⟨g1, h⟩ := gd_at h
    refine eg_ialdJ (((11 + (5 * v2)) + 4).toNatClampNeg) dX12_roleOf_23 hS sp129 (Nat.le_of_ble_eq_true rfl) (Nat.le_of_ble_eq_true rfl) rfl (inR_vp g1) rfl ?_
    refine pg_iload_n dX12_roleOf_24 rfl ?_
    refine pg_icmp_ne 32 dX12_roleOf_25 (by decide) (fun c3 => ?_) (fun c3 => ?_)
    · rw [if_neg c3] at h
      refine pg_aload_n dX12_roleOf_32 rfl ?_
      refine pg_iload_n dX12_roleOf_33 rfl ?_
      refine pg_aload_n dX12_roleOf_34 rfl ?_
      refine pg_iload_n dX12_roleOf_35 rfl ?_
      refine pg_iload_n dX12_roleOf_36 rfl ?_
      obtain ⟨r4, h_r4, h⟩ := bd_at h
      refine eg_cVi (C := mX12_other) (as := [(.int v1), (.int v2)]) dX12_roleOf_37 mw937 cv_X12_other hS sp128 (Nat.le_of_ble_eq_true rfl) (Nat.le_of_ble_eq_true rfl) rfl rfl rfl (Nat.le_of_ble_eq_true rfl) rfl ⟨(Nat.le_of_ble_eq_true rfl), (Nat.le_of_ble_eq_true rfl)⟩ (ct_X12_other hfl (hS.sub (Nat.le_of_ble_eq_true rfl) (Nat.le_of_ble_eq_true rfl)) h_r4) ?_
      obtain ⟨r5, h_r5, h⟩ := bd_at h
      refine eg_cVi (C := mX12_isAhead) (as := [(.int v2), (.int r4.1)]) dX12_roleOf_40 mw962 cv_X12_isAhead hS sp128 (Nat.le_of_ble_eq_true rfl) (Nat.le_of_ble_eq_true rfl) rfl rfl rfl (Nat.le_of_ble_eq_true rfl) rfl ⟨(Nat.le_of_ble_eq_true rfl), (Nat.le_of_ble_eq_true rfl)⟩ (ct_X12_isAhead hfl (hS.sub (Nat.le_of_ble_eq_true rfl) (Nat.le_of_ble_eq_true rfl)) h_r5) ?_
      refine pg_if_eq 50 dX12_roleOf_43 (by decide) (fun c6 => ?_) (fun c6 => ?_)
      · rw [if_pos c6] at h
        refine pg_iconst 2 dX12_roleOf_50 rfl ?_
        obtain rfl := Option.some.inj h
        exact hE.2.1 _ _ _ _ _ _ .int dX12_roleOf_51 rfl rfl (Nat.zero_le _) (Nat.zero_le _) ⟨rfl, rfl⟩
      · rw [if_neg c6] at h
        refine pg_iconst 1 dX12_roleOf_46 rfl ?_
        refine pg_goto 51 dX12_roleOf_47 (by decide) ?_
        obtain rfl := Option.some.inj h
        exact hE.2.1 _ _ _ _ _ _ .int dX12_roleOf_51 rfl rfl (Nat.zero_le _) (Nat.zero_le _) ⟨rfl, rfl⟩
    · rw [if_pos c3] at h
      refine pg_iconst 0 dX12_roleOf_28 rfl ?_
      refine pg_goto 51 dX12_roleOf_29 (by decide) ?_
      obtain rfl := Option.some.inj h
      exact hE.2.1 _ _ _ _ _ _ .int dX12_roleOf_51 rfl rfl (Nat.zero_le _) (Nat.zero_le _) ⟨rfl, rfl⟩
  · rw [if_pos c2] at h
    refine pg_iconst 2 dX12_roleOf_9 rfl ?_
    obtain rfl := Option.some.inj h
    exact hE.2.1 _ _ _ _ _ _ .int dX12_roleOf_10 rfl rfl (Nat.zero_le _) (Nat.zero_le _) ⟨rfl, rfl⟩
end
