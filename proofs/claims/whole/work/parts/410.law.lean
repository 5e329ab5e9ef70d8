/-! The law's loop. -/

abbrev mL_law : pm_M := (yL_law, cL_law, 7, 12, 436, some .boolean, [])
section PML
variable {g : pm_Gl} {M C : pm_M} {X : pm_X} {pc k n : Nat} {ls ls' : List (Option Value)} {st : List Value} {S : List sF} {m : me} {a b o : Nat} {F : sF} {hp : List va_E}
theorem eg_laldJ {N : Nat} {i : Int32} (j : Nat) (hd : decode M.2.1 pc = .ok (.laload, 1)) (hS : pS a b S) (hs : shs[o]? = some F) (h1 : a ≤ o) (h2 : o < b) (hF : F (m.1 o) (m.2.1 o) (m.2.2 o) = .inl (2, N, .inr (.inl (m.2.1 o)))) (hi : vp_in i N) (hj : i.toNatClampNeg = j) (kk : pm_G g M X (pc + 1) ls (.long (m.2.1 o j) :: st) (en S m) k n) : pm_G g M X pc ls (.int i :: .ref o :: st) (en S m) k n := by
  subst hj
  exact eg_lald hd hS hs h1 h2 hF hi kk
theorem eg_lVi {np idx ci : Nat} {as st0 fs : List Value} {x : Int32 × me} (hd : decode M.2.1 pc = .ok (.invokevirtual idx, 3)) (hlk : Cond.methodLink M.1.cls idx C.1 ∈ pm_tbl) (hcv : pm_cv C np ci) (hS : pS a b S) (hs : shs[o]? = some F) (h1 : a ≤ o) (h2 : o < b) (hF : F (m.1 o) (m.2.1 o) (m.2.2 o) = .inr (ci, fs)) (hst : st0 = as.reverse ++ .ref o :: st) (hlen : as.length = np) (hw : (st.map fun v => v.category).sum ≤ 8) (hls : ls.length = M.2.2.1) (hroom : C.2.2.2.1 + 1 ≤ M.2.2.2.1 ∧ 8 + (C.2.2.1 + 11) + C.2.2.2.2.1 ≤ M.2.2.2.2.1) (hk : k ≤ pm_kb X ∧ n ≤ pm_nb X) (hc : pm_Ct g C (.ref o :: as) (en S m) 0 0 (qI S x) qF) (kk : pm_G g M X (pc + 3) ls (.int x.1 :: st) (en S x.2) k n) : pm_G g M X pc ls st0 (en S m) k n :=
  pg_callV hd hlk hcv ((en_get ((hS o h1 h2).trans hs)).trans (congrArg some hF)) hst hlen hw hls hroom hk hc (fun r hp' hq => by obtain ⟨rfl, rfl⟩ := hq; exact kk) (fun _ _ h => h.elim)
theorem eg_lVj {np idx ci : Nat} {as st0 fs : List Value} {x : Int64 × me} (hd : decode M.2.1 pc = .ok (.invokevirtual idx, 3)) (hlk : Cond.methodLink M.1.cls idx C.1 ∈ pm_tbl) (hcv : pm_cv C np ci) (hS : pS a b S) (hs : shs[o]? = some F) (h1 : a ≤ o) (h2 : o < b) (hF : F (m.1 o) (m.2.1 o) (m.2.2 o) = .inr (ci, fs)) (hst : st0 = as.reverse ++ .ref o :: st) (hlen : as.length = np) (hw : (st.map fun v => v.category).sum ≤ 8) (hls : ls.length = M.2.2.1) (hroom : C.2.2.2.1 + 1 ≤ M.2.2.2.1 ∧ 8 + (C.2.2.1 + 11) + C.2.2.2.2.1 ≤ M.2.2.2.2.1) (hk : k ≤ pm_kb X ∧ n ≤ pm_nb X) (hc : pm_Ct g C (.ref o :: as) (en S m) 0 0 (qJ S x) qF) (kk : pm_G g M X (pc + 3) ls (.long x.1 :: st) (en S x.2) k n) : pm_G g M X pc ls st0 (en S m) k n :=
  pg_callV hd hlk hcv ((en_get ((hS o h1 h2).trans hs)).trans (congrArg some hF)) hst hlen hw hls hroom hk hc (fun r hp' hq => by obtain ⟨rfl, rfl⟩ := hq; exact kk) (fun _ _ h => h.elim)
theorem eg_ltVj {np idx ci : Nat} {as st0 fs : List Value} {x : (Int64 ⊕ Nat) × me} (hd : decode M.2.1 pc = .ok (.invokevirtual idx, 3)) (hlk : Cond.methodLink M.1.cls idx C.1 ∈ pm_tbl) (hcv : pm_cv C np ci) (hS : pS a b S) (hs : shs[o]? = some F) (h1 : a ≤ o) (h2 : o < b) (hF : F (m.1 o) (m.2.1 o) (m.2.2 o) = .inr (ci, fs)) (hst : st0 = as.reverse ++ .ref o :: st) (hlen : as.length = np) (hw : (st.map fun v => v.category).sum ≤ 8) (hls : ls.length = M.2.2.1) (hroom : C.2.2.2.1 + 1 ≤ M.2.2.2.1 ∧ 8 + (C.2.2.1 + 11) + C.2.2.2.2.1 ≤ M.2.2.2.2.1) (hk : k ≤ pm_kb X ∧ n ≤ pm_nb X) (hc : pm_Ct g C (.ref o :: as) (en S m) (kC x) (nC x) (qTJ S x) (qX S x)) (kk : ∀ v, x.1 = .inl v → pm_G g M X (pc + 3) ls (.long v :: st) (en S x.2) k n) (kx : ∀ e, x.1 = .inr e → False) : pm_G g M X pc ls st0 (en S m) k n := by
  obtain ⟨x1, m1⟩ := x
  cases x1 with
  | inl v => exact pg_callV hd hlk hcv ((en_get ((hS o h1 h2).trans hs)).trans (congrArg some hF)) hst hlen hw hls hroom hk hc (fun r hp' hq => by obtain ⟨w, e1, rfl, rfl⟩ := hq; cases e1; exact kk v rfl) (fun _ _ h => by obtain ⟨w, e1, -⟩ := h; cases e1)
  | inr e => exact (kx e rfl).elim
theorem eg_cHi {np idx : Nat} {as st0 : List Value} {x : Int32 × me} {x0 : Nat × Nat × Nat × Nat} {r0 : List (Nat × Nat × Nat × Nat)} (hd : decode M.2.1 pc = .ok (.invokestatic idx, 3)) (hlk : Cond.methodLink M.1.cls idx C.1 ∈ pm_tbl) (hmy : pm_my C np) (hstt : Cond.static C.1 ∈ pm_tbl) (hhh : C.2.2.2.2.2.2 = x0 :: r0) (hst : st0 = as.reverse ++ st) (hlen : as.length = np) (hw : (st.map fun v => v.category).sum ≤ 8) (hls : ls.length = M.2.2.1) (hroom : C.2.2.2.1 + 1 ≤ M.2.2.2.1 ∧ 8 + (C.2.2.1 + 11) + C.2.2.2.2.1 ≤ M.2.2.2.2.1) (hk : k + 1 ≤ pm_kb X ∧ n + 6 ≤ pm_nb X) (hc : pm_Ct g C as (en S m) 1 6 (qI S x) qF) (kk : pm_G g M X (pc + 3) ls (.int x.1 :: st) (en S x.2) (k + 1) (n + 6)) : pm_G g M X pc ls st0 (en S m) k n :=
  pg_callSX hd hlk hmy hstt hhh hst hlen hw hls hroom hk hc (fun r hp' hq => by obtain ⟨rfl, rfl⟩ := hq; exact kk) (fun _ _ h => h.elim)
end PML
/-- a loop that makes cells -/
theorem lo_atC {σ τ : Type} {b : σ → Option (σ ⊕ τ)} {G : σ → Nat → Nat → Prop} {T : τ → Prop} {kb nb : Nat} (hb : ∀ s r k n, b s = some r → k + 1 ≤ kb → n + 6 ≤ nb → (∀ s', r = .inl s' → G s' (k + 1) (n + 6)) → (∀ t, r = .inr t → T t) → G s k n) : ∀ (N : Nat) (s : σ) (t : τ) (k n : Nat), lo b N s = some t → k + N ≤ kb → n + 6 * N ≤ nb → T t → G s k n
  | 0, s, t, k, n, h, _, _, _ => by cases h
  | N + 1, s, t, k, n, h, h1, h2, hT => by
    unfold lo at h
    split at h
    · cases h
    · rename_i s' e
      exact hb s _ k n e (by omega) (by omega) (fun s2 e2 => by cases e2; exact lo_atC hb N s' t (k + 1) (n + 6) h (by omega) (by omega) hT) (fun t2 e2 => by cases e2)
    · rename_i t' e
      cases h
      exact hb s _ k n e (by omega) (by omega) (fun s2 e2 => by cases e2) (fun t2 e2 => by cases e2; exact hT)
section
variable {g : pm_Gl} {X : pm_X} {S : List sF} {k n : Nat}
def j_L_law_1108 (LL : Nat) (XS : Nat → Int32) (v4 : Int32) (v5 : Int32) (u1 : Int32) (u2 : Int32) (m0 : me) : Option ((Int32 × me) ⊕ ((Int32 × me) ⊕ (Int32 × me))) :=
  gd (inR (v4 + 3) LL) (
  bd (f_X12_port u1 u2 (XS (v4 + 3).toNatClampNeg) m0) (fun r133 =>
  bd (f_X12_thrown r133.2) (fun r134 =>
  if r134.1 = v5 then
    if v5 = 0 then
      if (lg_cmp (r134.2.2.1 137 0) r133.1.toInt64) = 0 then
        lt (v4 + 4) (fun w139 =>
        some (.inl (w139, r134.2)))
      else
        some (.inr (.inr ((0, r134.2))))
    else
      lt (v4 + 4) (fun w137 =>
      some (.inl (w137, r134.2)))
  else
    some (.inr (.inr ((0, r134.2)))))))
def j_L_law_1075 (LL : Nat) (XS : Nat → Int32) (v4 : Int32) (u1 : Int32) (u2 : Int32) (m0 : me) : Option ((Int32 × me) ⊕ ((Int32 × me) ⊕ (Int32 × me))) :=
  gd (inR (v4 + 3) LL) (
  bd (h_port u1 u2 (XS (v4 + 3).toNatClampNeg) m0) (fun r131 =>
  gd (inR (v4 + 1) LL) (
  gd (inR (v4 + 2) LL) (
  if (XS (v4 + 2).toNatClampNeg) = 0 then
    j_L_law_1108 LL XS v4 r131.1 (XS (v4 + 1).toNatClampNeg) 0 r131.2
  else
    j_L_law_1108 LL XS v4 r131.1 (XS (v4 + 1).toNatClampNeg) 1 r131.2))))
def b_L_law_23 (LL : Nat) (XS : Nat → Int32) (s : Int32 × me) : Option ((Int32 × me) ⊕ ((Int32 × me) ⊕ (Int32 × me))) :=
  if ((Int32.ofNat LL) - 4) < s.1 then
    some (.inr (.inl (s.1, s.2)))
  else
    gd (inR s.1 LL) (
    if (XS s.1.toNatClampNeg) &&& 31 = 0 then
      gd (inR (s.1 + 1) LL) (
      bd (h_setBridges (XS (s.1 + 1).toNatClampNeg) s.2) (fun r3 =>
      gd (inR (s.1 + 1) LL) (
      bd (f_X12_setBridges (XS (s.1 + 1).toNatClampNeg) r3.2) (fun r4 =>
      bd (f_X12_thrown r4.2) (fun r5 =>
      if r5.1 = r3.1 then
        if r3.1 = 0 then
          if (lg_cmp (r5.2.2.1 137 0) r4.1.toInt64) = 0 then
            lt (s.1 + 4) (fun w10 =>
            some (.inl (w10, r5.2)))
          else
            some (.inr (.inr ((0, r5.2))))
        else
          lt (s.1 + 4) (fun w8 =>
          some (.inl (w8, r5.2)))
      else
        some (.inr (.inr ((0, r5.2)))))))))
    else
      if (XS s.1.toNatClampNeg) &&& 31 = 1 then
        gd (inR (s.1 + 1) LL) (
        gd (inR (s.1 + 2) LL) (
        gd (inR (s.1 + 3) LL) (
        bd (h_setTimes (XS (s.1 + 1).toNatClampNeg) (XS (s.1 + 2).toNatClampNeg) (XS (s.1 + 3).toNatClampNeg) s.2) (fun r12 =>
        gd (inR (s.1 + 1) LL) (
        gd (inR (s.1 + 2) LL) (
        gd (inR (s.1 + 3) LL) (
        bd (f_X12_setTimes (XS (s.1 + 1).toNatClampNeg) (XS (s.1 + 2).toNatClampNeg) (XS (s.1 + 3).toNatClampNeg) r12.2) (fun r13 =>
        bd (f_X12_thrown r13.2) (fun r14 =>
        if r14.1 = r12.1 then
          if r12.1 = 0 then
            if (lg_cmp (r14.2.2.1 137 0) r13.1.toInt64) = 0 then
              lt (s.1 + 4) (fun w19 =>
              some (.inl (w19, r14.2)))
            else
              some (.inr (.inr ((0, r14.2))))
          else
            lt (s.1 + 4) (fun w17 =>
            some (.inl (w17, r14.2)))
        else
          some (.inr (.inr ((0, r14.2)))))))))))))
      else
        if (XS s.1.toNatClampNeg) &&& 31 = 2 then
          gd (inR (s.1 + 1) LL) (
          gd (inR (s.1 + 2) LL) (
          bd (h_setPriority (XS (s.1 + 1).toNatClampNeg) (XS (s.1 + 2).toNatClampNeg) s.2) (fun r21 =>
          gd (inR (s.1 + 1) LL) (
          gd (inR (s.1 + 2) LL) (
          bd (f_X12_setPriority (XS (s.1 + 1).toNatClampNeg) (XS (s.1 + 2).toNatClampNeg) r21.2) (fun r22 =>
          bd (f_X12_thrown r22.2) (fun r23 =>
          if r23.1 = r21.1 then
            if r21.1 = 0 then
              if (lg_cmp (r23.2.2.1 137 0) r22.1.toInt64) = 0 then
                lt (s.1 + 4) (fun w28 =>
                some (.inl (w28, r23.2)))
              else
                some (.inr (.inr ((0, r23.2))))
            else
              lt (s.1 + 4) (fun w26 =>
              some (.inl (w26, r23.2)))
          else
            some (.inr (.inr ((0, r23.2)))))))))))
        else
          if (XS s.1.toNatClampNeg) &&& 31 = 3 then
            gd (inR (s.1 + 1) LL) (
            gd (inR (s.1 + 2) LL) (
            gd (inR (s.1 + 3) LL) (
            bd (h_addLink (XS (s.1 + 1).toNatClampNeg) (XS (s.1 + 2).toNatClampNeg) (XS (s.1 + 3).toNatClampNeg) s.2) (fun r30 =>
            gd (inR (s.1 + 1) LL) (
            gd (inR (s.1 + 2) LL) (
            gd (inR (s.1 + 3) LL) (
            bd (f_X12_addLink (XS (s.1 + 1).toNatClampNeg) (XS (s.1 + 2).toNatClampNeg) (XS (s.1 + 3).toNatClampNeg) r30.2) (fun r31 =>
            bd (f_X12_thrown r31.2) (fun r32 =>
            if r32.1 = r30.1 then
              if r30.1 = 0 then
                if (lg_cmp (r32.2.2.1 137 0) r31.1.toInt64) = 0 then
                  lt (s.1 + 4) (fun w37 =>
                  some (.inl (w37, r32.2)))
                else
                  some (.inr (.inr ((0, r32.2))))
              else
                lt (s.1 + 4) (fun w35 =>
                some (.inl (w35, r32.2)))
            else
              some (.inr (.inr ((0, r32.2)))))))))))))
          else
            if (XS s.1.toNatClampNeg) &&& 31 = 4 then
              gd (inR (s.1 + 1) LL) (
              bd (h_fail (XS (s.1 + 1).toNatClampNeg) s.2) (fun r39 =>
              gd (inR (s.1 + 1) LL) (
              bd (f_X12_fail (XS (s.1 + 1).toNatClampNeg) r39.2) (fun r40 =>
              bd (f_X12_thrown r40.2) (fun r41 =>
              if r41.1 = r39.1 then
                if r39.1 = 0 then
                  if (lg_cmp (r41.2.2.1 137 0) r40.1.toInt64) = 0 then
                    lt (s.1 + 4) (fun w46 =>
                    some (.inl (w46, r41.2)))
                  else
                    some (.inr (.inr ((0, r41.2))))
                else
                  lt (s.1 + 4) (fun w44 =>
                  some (.inl (w44, r41.2)))
              else
                some (.inr (.inr ((0, r41.2)))))))))
            else
              if (XS s.1.toNatClampNeg) &&& 31 = 5 then
                gd (inR (s.1 + 1) LL) (
                bd (h_fix (XS (s.1 + 1).toNatClampNeg) s.2) (fun r48 =>
                gd (inR (s.1 + 1) LL) (
                bd (f_X12_fix (XS (s.1 + 1).toNatClampNeg) r48.2) (fun r49 =>
                bd (f_X12_thrown r49.2) (fun r50 =>
                if r50.1 = r48.1 then
                  if r48.1 = 0 then
                    if (lg_cmp (r50.2.2.1 137 0) r49.1.toInt64) = 0 then
                      lt (s.1 + 4) (fun w55 =>
                      some (.inl (w55, r50.2)))
                    else
                      some (.inr (.inr ((0, r50.2))))
                  else
                    lt (s.1 + 4) (fun w53 =>
                    some (.inl (w53, r50.2)))
                else
                  some (.inr (.inr ((0, r50.2)))))))))
              else
                if (XS s.1.toNatClampNeg) &&& 31 = 6 then
                  gd (inR (s.1 + 1) LL) (
                  gd (inR (s.1 + 2) LL) (
                  bd (h_moveHost (XS (s.1 + 1).toNatClampNeg) (XS (s.1 + 2).toNatClampNeg) s.2) (fun r57 =>
                  gd (inR (s.1 + 1) LL) (
                  gd (inR (s.1 + 2) LL) (
                  bd (f_X12_moveHost (XS (s.1 + 1).toNatClampNeg) (XS (s.1 + 2).toNatClampNeg) r57.2) (fun r58 =>
                  bd (f_X12_thrown r58.2) (fun r59 =>
                  if r59.1 = r57.1 then
                    if r57.1 = 0 then
                      if (lg_cmp (r59.2.2.1 137 0) r58.1.toInt64) = 0 then
                        lt (s.1 + 4) (fun w64 =>
                        some (.inl (w64, r59.2)))
                      else
                        some (.inr (.inr ((0, r59.2))))
                    else
                      lt (s.1 + 4) (fun w62 =>
                      some (.inl (w62, r59.2)))
                  else
                    some (.inr (.inr ((0, r59.2)))))))))))
                else
                  if (XS s.1.toNatClampNeg) &&& 31 = 7 then
                    gd (inR (s.1 + 1) LL) (
                    gd (inR (s.1 + 2) LL) (
                    gd (inR (s.1 + 3) LL) (
                    bd (h_bid (XS (s.1 + 1).toNatClampNeg) (XS (s.1 + 2).toNatClampNeg) (XS (s.1 + 3).toNatClampNeg) s.2) (fun r66 =>
                    gd (inR (s.1 + 1) LL) (
                    gd (inR (s.1 + 2) LL) (
                    gd (inR (s.1 + 3) LL) (
                    bd (f_X12_bid (XS (s.1 + 1).toNatClampNeg) (XS (s.1 + 2).toNatClampNeg) (XS (s.1 + 3).toNatClampNeg) r66.2) (fun r67 =>
                    bd (f_X12_thrown r67.2) (fun r68 =>
                    if r68.1 = r66.1 then
                      if r66.1 = 0 then
                        if (lg_cmp (r68.2.2.1 137 0) r67.1.toInt64) = 0 then
                          lt (s.1 + 4) (fun w73 =>
                          some (.inl (w73, r68.2)))
                        else
                          some (.inr (.inr ((0, r68.2))))
                      else
                        lt (s.1 + 4) (fun w71 =>
                        some (.inl (w71, r68.2)))
                    else
                      some (.inr (.inr ((0, r68.2)))))))))))))
                  else
                    if (XS s.1.toNatClampNeg) &&& 31 = 8 then
                      gd (inR (s.1 + 1) LL) (
                      gd (inR (s.1 + 2) LL) (
                      bd (h_grant (XS (s.1 + 1).toNatClampNeg) (XS (s.1 + 2).toNatClampNeg) s.2) (fun r75 =>
                      gd (inR (s.1 + 1) LL) (
                      gd (inR (s.1 + 2) LL) (
                      bd (f_X12_grant (XS (s.1 + 1).toNatClampNeg) (XS (s.1 + 2).toNatClampNeg) r75.2) (fun r76 =>
                      bd (f_X12_thrown r76.2) (fun r77 =>
                      if r77.1 = r75.1 then
                        if r75.1 = 0 then
                          if (lg_cmp (r77.2.2.1 137 0) r76.1.toInt64) = 0 then
                            lt (s.1 + 4) (fun w82 =>
                            some (.inl (w82, r77.2)))
                          else
                            some (.inr (.inr ((0, r77.2))))
                        else
                          lt (s.1 + 4) (fun w80 =>
                          some (.inl (w80, r77.2)))
                      else
                        some (.inr (.inr ((0, r77.2)))))))))))
                    else
                      if (XS s.1.toNatClampNeg) &&& 31 = 9 then
                        gd (inR (s.1 + 1) LL) (
                        bd (h_tick (XS (s.1 + 1).toNatClampNeg) s.2) (fun r84 =>
                        gd (inR (s.1 + 1) LL) (
                        bd (f_X12_tick (XS (s.1 + 1).toNatClampNeg) r84.2) (fun r85 =>
                        bd (f_X12_thrown r85.2) (fun r86 =>
                        if r86.1 = r84.1 then
                          if r84.1 = 0 then
                            if (lg_cmp (r86.2.2.1 137 0) r85.1.toInt64) = 0 then
                              lt (s.1 + 4) (fun w91 =>
                              some (.inl (w91, r86.2)))
                            else
                              some (.inr (.inr ((0, r86.2))))
                          else
                            lt (s.1 + 4) (fun w89 =>
                            some (.inl (w89, r86.2)))
                        else
                          some (.inr (.inr ((0, r86.2)))))))))
                      else
                        if (XS s.1.toNatClampNeg) &&& 31 = 10 then
                          bd (f_X11_time s.2) (fun r93 =>
                          bd (f_X12_time r93.2) (fun r94 =>
                          if r93.1 = r94.1 then
                            lt (s.1 + 4) (fun w96 =>
                            some (.inl (w96, r94.2)))
                          else
                            some (.inr (.inr ((0, r94.2))))))
                        else
                          if (XS s.1.toNatClampNeg) &&& 31 = 11 then
                            gd (inR (s.1 + 1) LL) (
                            gd (inR (s.1 + 2) LL) (
                            bd (h_send (XS (s.1 + 1).toNatClampNeg) (XS (s.1 + 2).toNatClampNeg) s.2) (fun r98 =>
                            gd (inR (s.1 + 1) LL) (
                            gd (inR (s.1 + 2) LL) (
                            bd (f_X12_send (XS (s.1 + 1).toNatClampNeg) (XS (s.1 + 2).toNatClampNeg) r98.2) (fun r99 =>
                            bd (f_X12_thrown r99.2) (fun r100 =>
                            if r100.1 = r98.1 then
                              if r98.1 = 0 then
                                if (lg_cmp (r100.2.2.1 137 0) r99.1.toInt64) = 0 then
                                  lt (s.1 + 4) (fun w105 =>
                                  some (.inl (w105, r100.2)))
                                else
                                  some (.inr (.inr ((0, r100.2))))
                              else
                                lt (s.1 + 4) (fun w103 =>
                                some (.inl (w103, r100.2)))
                            else
                              some (.inr (.inr ((0, r100.2)))))))))))
                          else
                            if (XS s.1.toNatClampNeg) &&& 31 = 12 then
                              gd (inR (s.1 + 1) LL) (
                              gd (inR (s.1 + 2) LL) (
                              bd (h_bridge (XS (s.1 + 1).toNatClampNeg) (XS (s.1 + 2).toNatClampNeg) s.2) (fun r107 =>
                              gd (inR (s.1 + 1) LL) (
                              gd (inR (s.1 + 2) LL) (
                              bd (f_X12_bridge (XS (s.1 + 1).toNatClampNeg) (XS (s.1 + 2).toNatClampNeg) r107.2) (fun r108 =>
                              bd (f_X12_thrown r108.2) (fun r109 =>
                              if r109.1 = r107.1 then
                                if r107.1 = 0 then
                                  if (lg_cmp (r109.2.2.1 137 0) r108.1.toInt64) = 0 then
                                    lt (s.1 + 4) (fun w114 =>
                                    some (.inl (w114, r109.2)))
                                  else
                                    some (.inr (.inr ((0, r109.2))))
                                else
                                  lt (s.1 + 4) (fun w112 =>
                                  some (.inl (w112, r109.2)))
                              else
                                some (.inr (.inr ((0, r109.2)))))))))))
                            else
                              if (XS s.1.toNatClampNeg) &&& 31 = 13 then
                                bd (f_X11_links s.2) (fun r116 =>
                                bd (f_X12_links r116.2) (fun r117 =>
                                if r116.1 = r117.1 then
                                  lt (s.1 + 4) (fun w119 =>
                                  some (.inl (w119, r117.2)))
                                else
                                  some (.inr (.inr ((0, r117.2))))))
                              else
                                if (XS s.1.toNatClampNeg) &&& 31 = 14 then
                                  gd (inR (s.1 + 1) LL) (
                                  gd (inR (s.1 + 2) LL) (
                                  bd (h_link (XS (s.1 + 1).toNatClampNeg) (XS (s.1 + 2).toNatClampNeg) s.2) (fun r121 =>
                                  gd (inR (s.1 + 1) LL) (
                                  gd (inR (s.1 + 2) LL) (
                                  bd (f_X12_link (XS (s.1 + 1).toNatClampNeg) (XS (s.1 + 2).toNatClampNeg) r121.2) (fun r122 =>
                                  bd (f_X12_thrown r122.2) (fun r123 =>
                                  if r123.1 = r121.1 then
                                    if r121.1 = 0 then
                                      if (lg_cmp (r123.2.2.1 137 0) r122.1.toInt64) = 0 then
                                        lt (s.1 + 4) (fun w128 =>
                                        some (.inl (w128, r123.2)))
                                      else
                                        some (.inr (.inr ((0, r123.2))))
                                    else
                                      lt (s.1 + 4) (fun w126 =>
                                      some (.inl (w126, r123.2)))
                                  else
                                    some (.inr (.inr ((0, r123.2)))))))))))
                                else
                                  if (XS s.1.toNatClampNeg) &&& 31 = 15 then
                                    gd (inR (s.1 + 1) LL) (
                                    gd (inR (s.1 + 2) LL) (
                                    if (XS (s.1 + 2).toNatClampNeg) = 0 then
                                      j_L_law_1075 LL XS s.1 (XS (s.1 + 1).toNatClampNeg) 0 s.2
                                    else
                                      j_L_law_1075 LL XS s.1 (XS (s.1 + 1).toNatClampNeg) 1 s.2))
                                  else
                                    if (XS s.1.toNatClampNeg) &&& 31 = 16 then
                                      gd (inR (s.1 + 1) LL) (
                                      gd (inR (s.1 + 2) LL) (
                                      bd (h_entry (XS (s.1 + 1).toNatClampNeg) (XS (s.1 + 2).toNatClampNeg) s.2) (fun r141 =>
                                      gd (inR (s.1 + 1) LL) (
                                      gd (inR (s.1 + 2) LL) (
                                      bd (f_X12_entry (XS (s.1 + 1).toNatClampNeg) (XS (s.1 + 2).toNatClampNeg) r141.2) (fun r142 =>
                                      bd (f_X12_thrown r142.2) (fun r143 =>
                                      if r143.1 = r141.1 then
                                        if r141.1 = 0 then
                                          if (lg_cmp (r143.2.2.1 137 0) r142.1.toInt64) = 0 then
                                            lt (s.1 + 4) (fun w148 =>
                                            some (.inl (w148, r143.2)))
                                          else
                                            some (.inr (.inr ((0, r143.2))))
                                        else
                                          lt (s.1 + 4) (fun w146 =>
                                          some (.inl (w146, r143.2)))
                                      else
                                        some (.inr (.inr ((0, r143.2)))))))))))
                                    else
                                      if (XS s.1.toNatClampNeg) &&& 31 = 17 then
                                        gd (inR (s.1 + 1) LL) (
                                        gd (inR (s.1 + 2) LL) (
                                        bd (h_tenant (XS (s.1 + 1).toNatClampNeg) (XS (s.1 + 2).toNatClampNeg) s.2) (fun r150 =>
                                        gd (inR (s.1 + 1) LL) (
                                        gd (inR (s.1 + 2) LL) (
                                        bd (f_X12_tenant (XS (s.1 + 1).toNatClampNeg) (XS (s.1 + 2).toNatClampNeg) r150.2) (fun r151 =>
                                        bd (f_X12_thrown r151.2) (fun r152 =>
                                        if r152.1 = r150.1 then
                                          if r150.1 = 0 then
                                            if (lg_cmp (r152.2.2.1 137 0) r151.1.toInt64) = 0 then
                                              lt (s.1 + 4) (fun w157 =>
                                              some (.inl (w157, r152.2)))
                                            else
                                              some (.inr (.inr ((0, r152.2))))
                                          else
                                            lt (s.1 + 4) (fun w155 =>
                                            some (.inl (w155, r152.2)))
                                        else
                                          some (.inr (.inr ((0, r152.2)))))))))))
                                      else
                                        if (XS s.1.toNatClampNeg) &&& 31 = 18 then
                                          gd (inR (s.1 + 1) LL) (
                                          gd (inR (s.1 + 2) LL) (
                                          bd (h_bidOf (XS (s.1 + 1).toNatClampNeg) (XS (s.1 + 2).toNatClampNeg) s.2) (fun r159 =>
                                          gd (inR (s.1 + 1) LL) (
                                          gd (inR (s.1 + 2) LL) (
                                          bd (f_X12_bidOf (XS (s.1 + 1).toNatClampNeg) (XS (s.1 + 2).toNatClampNeg) r159.2) (fun r160 =>
                                          bd (f_X12_thrown r160.2) (fun r161 =>
                                          if r161.1 = r159.1 then
                                            if r159.1 = 0 then
                                              if (lg_cmp (r161.2.2.1 137 0) r160.1.toInt64) = 0 then
                                                lt (s.1 + 4) (fun w166 =>
                                                some (.inl (w166, r161.2)))
                                              else
                                                some (.inr (.inr ((0, r161.2))))
                                            else
                                              lt (s.1 + 4) (fun w164 =>
                                              some (.inl (w164, r161.2)))
                                          else
                                            some (.inr (.inr ((0, r161.2)))))))))))
                                        else
                                          if (XS s.1.toNatClampNeg) &&& 31 = 19 then
                                            gd (inR (s.1 + 1) LL) (
                                            bd (h_count (XS (s.1 + 1).toNatClampNeg) s.2) (fun r168 =>
                                            gd (inR (s.1 + 1) LL) (
                                            bd (f_X12_count (XS (s.1 + 1).toNatClampNeg) r168.2) (fun r169 =>
                                            bd (f_X12_thrown r169.2) (fun r170 =>
                                            if r170.1 = r168.1 then
                                              if r168.1 = 0 then
                                                if (lg_cmp (r170.2.2.1 137 0) r169.1.toInt64) = 0 then
                                                  lt (s.1 + 4) (fun w175 =>
                                                  some (.inl (w175, r170.2)))
                                                else
                                                  some (.inr (.inr ((0, r170.2))))
                                              else
                                                lt (s.1 + 4) (fun w173 =>
                                                some (.inl (w173, r170.2)))
                                            else
                                              some (.inr (.inr ((0, r170.2)))))))))
                                          else
                                            if (XS s.1.toNatClampNeg) &&& 31 = 20 then
                                              bd (f_X11_isForest s.2) (fun r177 =>
                                              bd (f_X12_isForest r177.2) (fun r178 =>
                                              if r177.1 = r178.1 then
                                                lt (s.1 + 4) (fun w180 =>
                                                some (.inl (w180, r178.2)))
                                              else
                                                some (.inr (.inr ((0, r178.2))))))
                                            else
                                              if (XS s.1.toNatClampNeg) &&& 31 = 21 then
                                                gd (inR (s.1 + 1) LL) (
                                                bd (h_type (XS (s.1 + 1).toNatClampNeg) s.2) (fun r182 =>
                                                gd (inR (s.1 + 1) LL) (
                                                bd (f_X12_type (XS (s.1 + 1).toNatClampNeg) r182.2) (fun r183 =>
                                                bd (f_X12_thrown r183.2) (fun r184 =>
                                                if r184.1 = r182.1 then
                                                  if r182.1 = 0 then
                                                    if (lg_cmp (r184.2.2.1 137 0) r183.1.toInt64) = 0 then
                                                      lt (s.1 + 4) (fun w189 =>
                                                      some (.inl (w189, r184.2)))
                                                    else
                                                      some (.inr (.inr ((0, r184.2))))
                                                  else
                                                    lt (s.1 + 4) (fun w187 =>
                                                    some (.inl (w187, r184.2)))
                                                else
                                                  some (.inr (.inr ((0, r184.2)))))))))
                                              else
                                                if (XS s.1.toNatClampNeg) &&& 31 = 22 then
                                                  bd (f_X11_clearScript s.2) (fun r191 =>
                                                  bd (f_X12_clearScript r191.2) (fun r192 =>
                                                  if r191.1 = r192.1 then
                                                    lt (s.1 + 4) (fun w194 =>
                                                    some (.inl (w194, r192.2)))
                                                  else
                                                    some (.inr (.inr ((0, r192.2))))))
                                                else
                                                  if (XS s.1.toNatClampNeg) &&& 31 = 23 then
                                                    bd (f_X11_run s.2) (fun r196 =>
                                                    bd (f_X12_run r196.2) (fun r197 =>
                                                    if r196.1 = r197.1 then
                                                      lt (s.1 + 4) (fun w199 =>
                                                      some (.inl (w199, r197.2)))
                                                    else
                                                      some (.inr (.inr ((0, r197.2))))))
                                                  else
                                                    if (XS s.1.toNatClampNeg) &&& 31 = 24 then
                                                      bd (h_undo s.2) (fun r201 =>
                                                      bd (f_X12_undo r201.2) (fun r202 =>
                                                      bd (f_X12_thrown r202.2) (fun r203 =>
                                                      if r203.1 = r201.1 then
                                                        if r201.1 = 0 then
                                                          if (lg_cmp (r203.2.2.1 137 0) r202.1.toInt64) = 0 then
                                                            lt (s.1 + 4) (fun w208 =>
                                                            some (.inl (w208, r203.2)))
                                                          else
                                                            some (.inr (.inr ((0, r203.2))))
                                                        else
                                                          lt (s.1 + 4) (fun w206 =>
                                                          some (.inl (w206, r203.2)))
                                                      else
                                                        some (.inr (.inr ((0, r203.2)))))))
                                                    else
                                                      if (XS s.1.toNatClampNeg) &&& 31 = 25 then
                                                        bd (f_X11_digest s.2) (fun r210 =>
                                                        tr r210.1 (fun w211 =>
                                                          bd (f_X12_digest r210.2) (fun r213 =>
                                                          if (lg_cmp w211 r213.1) = 0 then
                                                            lt (s.1 + 4) (fun w215 =>
                                                            some (.inl (w215, r213.2)))
                                                          else
                                                            some (.inr (.inr ((0, r213.2)))))) (fun _ => none))
                                                      else
                                                        lt (s.1 + 4) (fun w216 =>
                                                        some (.inl (w216, s.2))))
set_option maxRecDepth 40000 in
set_option maxHeartbeats 8000000 in
theorem lj_L_law_1108 (hfl : g.1.stackTraces = false) (hS : pS 0 138 S) (hk : k + 1 ≤ pm_kb X ∧ n + 6 ≤ pm_nb X) (hk0 : k ≤ pm_kb X ∧ n ≤ pm_nb X) {v4 : Int32} {v5 : Int32} {u1 : Int32} {u2 : Int32} {m0 : me} {r : (Int32 × me) ⊕ ((Int32 × me) ⊕ (Int32 × me))} (h : j_L_law_1108 g.2.2.2.2.1.1 g.2.2.2.2.1.2 v4 v5 u1 u2 m0 = some r) (hN : ∀ z9, r = .inl z9 → pm_G g mL_law X 23 [some (.retAddr 0), some (.ref 0), some (.ref 128), some (.ref 137), some (.int z9.1), none, none] [] (en S z9.2) (k + 1) (n + 6)) (hT : ∀ t, r = .inr t → (fun z8 : ((Int32 × me) ⊕ (Int32 × me)) => (∀ z9, z8 = .inl z9 → ∀ k9 n9 : Nat, k9 ≤ pm_kb X → n9 ≤ pm_nb X → pm_G g mL_law X 1569 [some (.retAddr 0), some (.ref 0), some (.ref 128), some (.ref 137), some (.int z9.1), none, none] [] (en S z9.2) k9 n9) ∧ (∀ x9 : Int32 × me, z8 = .inr x9 → False)) t) : pm_G g mL_law X 1108 [some (.retAddr 0), some (.ref 0), some (.ref 128), some (.ref 137), some (.int v4), some (.int v5), none] [(.int u2), (.int u1), (.ref 128)] (en S m0) (k + 1) (n + 6) := by
  unfold j_L_law_1108 at h
  refine pg_aloadX_n dL_law_1108 rfl ?_
  refine pg_iload dL_law_1109 rfl ?_
  refine pg_iconst 3 dL_law_1111 rfl ?_
  refine pg_iadd dL_law_1112 ?_
  obtain ⟨g1, h⟩ := gd_at h
  refine pg_sld dL_law_1113 (inR_vp g1) ?_
  obtain ⟨r133, h_r133, h⟩ := bd_at h
  refine eg_lVi (C := mX12_port) (as := [(.int u1), (.int u2), (.int (g.2.2.2.2.1.2 (v4 + 3).toNatClampNeg))]) dL_law_1114 mw1248 cv_X12_port hS sp128 (Nat.le_of_ble_eq_true rfl) (Nat.le_of_ble_eq_true rfl) rfl rfl rfl (Nat.le_of_ble_eq_true rfl) rfl ⟨(Nat.le_of_ble_eq_true rfl), (Nat.le_of_ble_eq_true rfl)⟩ hk (ct_X12_port hfl (hS.sub (Nat.le_of_ble_eq_true rfl) (Nat.le_of_ble_eq_true rfl)) h_r133) ?_
  refine eg_istore [some (.retAddr 0), some (.ref 0), some (.ref 128), some (.ref 137), some (.int v4), some (.int v5), some (.int r133.1)] r133.1 dL_law_1117 rfl (Nat.le_of_ble_eq_true rfl) rfl ?_
  refine pg_aload_n dL_law_1119 rfl ?_
  obtain ⟨r134, h_r134, h⟩ := bd_at h
  refine eg_lVi (C := mX12_thrown) (as := []) dL_law_1120 mw1111 cv_X12_thrown hS sp128 (Nat.le_of_ble_eq_true rfl) (Nat.le_of_ble_eq_true rfl) rfl rfl rfl (Nat.le_of_ble_eq_true rfl) rfl ⟨(Nat.le_of_ble_eq_true rfl), (Nat.le_of_ble_eq_true rfl)⟩ hk (ct_X12_thrown hfl (hS.sub (Nat.le_of_ble_eq_true rfl) (Nat.le_of_ble_eq_true rfl)) h_r134) ?_
  refine pg_iload dL_law_1123 rfl ?_
  refine pg_icmp_eq 1130 dL_law_1125 (by decide) (fun c135 => ?_) (fun c135 => ?_)
  · rw [if_pos c135] at h
    refine pg_iload dL_law_1130 rfl ?_
    refine pg_if_ne 1147 dL_law_1132 (by decide) (fun c136 => ?_) (fun c136 => ?_)
    · rw [if_neg c136] at h
      refine pg_goto 1563 dL_law_1147 (by decide) ?_
      obtain ⟨w137, e_w137⟩ : ∃ z : Int32, z = v4 + 4 := ⟨_, rfl⟩
      replace h := lt_at h e_w137
      refine eg_iinc [some (.retAddr 0), some (.ref 0), some (.ref 128), some (.ref 137), some (.int w137), some (.int v5), some (.int r133.1)] w137 4 dL_law_1563 rfl rfl e_w137 rfl ?_
      refine pg_goto 23 dL_law_1566 (by decide) ?_
      obtain rfl := Option.some.inj h
      refine eg_forget [some (.retAddr 0), some (.ref 0), some (.ref 128), some (.ref 137), some (.int w137), none, none] (show pm_sub _ _ from ⟨rfl, ⟨rfl, ⟨rfl, ⟨rfl, ⟨rfl, trivial⟩⟩⟩⟩⟩) ?_
      exact hN _ rfl
    · rw [if_pos c136] at h
      refine pg_aload_n dL_law_1135 rfl ?_
      refine pg_iconst 0 dL_law_1136 rfl ?_
      refine eg_laldJ 0 dL_law_1137 hS sp137 (Nat.le_of_ble_eq_true rfl) (Nat.le_of_ble_eq_true rfl) rfl (inR_vp rfl) rfl ?_
      refine pg_iload dL_law_1138 rfl ?_
      refine pg_i2l dL_law_1140 ?_
      refine pg_lcmp dL_law_1141 ?_
      refine pg_if_eq 1147 dL_law_1142 (by decide) (fun c138 => ?_) (fun c138 => ?_)
      · rw [if_pos c138] at h
        refine pg_goto 1563 dL_law_1147 (by decide) ?_
        obtain ⟨w139, e_w139⟩ : ∃ z : Int32, z = v4 + 4 := ⟨_, rfl⟩
        replace h := lt_at h e_w139
        refine eg_iinc [some (.retAddr 0), some (.ref 0), some (.ref 128), some (.ref 137), some (.int w139), some (.int v5), some (.int r133.1)] w139 4 dL_law_1563 rfl rfl e_w139 rfl ?_
        refine pg_goto 23 dL_law_1566 (by decide) ?_
        obtain rfl := Option.some.inj h
        refine eg_forget [some (.retAddr 0), some (.ref 0), some (.ref 128), some (.ref 137), some (.int w139), none, none] (show pm_sub _ _ from ⟨rfl, ⟨rfl, ⟨rfl, ⟨rfl, ⟨rfl, trivial⟩⟩⟩⟩⟩) ?_
        exact hN _ rfl
      · rw [if_neg c138] at h
        refine pg_iconst 0 dL_law_1145 rfl ?_
        obtain rfl := Option.some.inj h
        exact ((hT _ rfl).2 _ rfl).elim
  · rw [if_neg c135] at h
    refine pg_iconst 0 dL_law_1128 rfl ?_
    obtain rfl := Option.some.inj h
    exact ((hT _ rfl).2 _ rfl).elim
set_option maxRecDepth 40000 in
set_option maxHeartbeats 8000000 in
theorem lj_L_law_1075 (hfl : g.1.stackTraces = false) (hS : pS 0 138 S) (hk : k + 1 ≤ pm_kb X ∧ n + 6 ≤ pm_nb X) (hk0 : k ≤ pm_kb X ∧ n ≤ pm_nb X) {v4 : Int32} {u1 : Int32} {u2 : Int32} {m0 : me} {r : (Int32 × me) ⊕ ((Int32 × me) ⊕ (Int32 × me))} (h : j_L_law_1075 g.2.2.2.2.1.1 g.2.2.2.2.1.2 v4 u1 u2 m0 = some r) (hN : ∀ z9, r = .inl z9 → pm_G g mL_law X 23 [some (.retAddr 0), some (.ref 0), some (.ref 128), some (.ref 137), some (.int z9.1), none, none] [] (en S z9.2) (k + 1) (n + 6)) (hT : ∀ t, r = .inr t → (fun z8 : ((Int32 × me) ⊕ (Int32 × me)) => (∀ z9, z8 = .inl z9 → ∀ k9 n9 : Nat, k9 ≤ pm_kb X → n9 ≤ pm_nb X → pm_G g mL_law X 1569 [some (.retAddr 0), some (.ref 0), some (.ref 128), some (.ref 137), some (.int z9.1), none, none] [] (en S z9.2) k9 n9) ∧ (∀ x9 : Int32 × me, z8 = .inr x9 → False)) t) : pm_G g mL_law X 1075 [some (.retAddr 0), some (.ref 0), some (.ref 128), some (.ref 137), some (.int v4), none, none] [(.int u2), (.int u1), (.ref 0)] (en S m0) k n := by
  unfold j_L_law_1075 at h
  refine pg_aloadX_n dL_law_1075 rfl ?_
  refine pg_iload dL_law_1076 rfl ?_
  refine pg_iconst 3 dL_law_1078 rfl ?_
  refine pg_iadd dL_law_1079 ?_
  obtain ⟨g1, h⟩ := gd_at h
  refine pg_sld dL_law_1080 (inR_vp g1) ?_
  refine pg_aload_n dL_law_1081 rfl ?_
  obtain ⟨r131, h_r131, h⟩ := bd_at h
  refine eg_cHi (C := mL_port) (as := [(.ref 0), (.int u1), (.int u2), (.int (g.2.2.2.2.1.2 (v4 + 3).toNatClampNeg)), (.ref 137)]) dL_law_1082 mw1244 my_L_port mw1247 rfl rfl rfl (Nat.le_of_ble_eq_true rfl) rfl ⟨(Nat.le_of_ble_eq_true rfl), (Nat.le_of_ble_eq_true rfl)⟩ hk (ch_port hfl hS h_r131) ?_
  refine eg_istore [some (.retAddr 0), some (.ref 0), some (.ref 128), some (.ref 137), some (.int v4), some (.int r131.1), none] r131.1 dL_law_1085 rfl (Nat.le_of_ble_eq_true rfl) rfl ?_
  refine pg_aload_n dL_law_1087 rfl ?_
  refine pg_aloadX_n dL_law_1088 rfl ?_
  refine pg_iload dL_law_1089 rfl ?_
  refine pg_iconst 1 dL_law_1091 rfl ?_
  refine pg_iadd dL_law_1092 ?_
  obtain ⟨g1, h⟩ := gd_at h
  refine pg_sld dL_law_1093 (inR_vp g1) ?_
  refine pg_aloadX_n dL_law_1094 rfl ?_
  refine pg_iload dL_law_1095 rfl ?_
  refine pg_iconst 2 dL_law_1097 rfl ?_
  refine pg_iadd dL_law_1098 ?_
  obtain ⟨g1, h⟩ := gd_at h
  refine pg_sld dL_law_1099 (inR_vp g1) ?_
  refine pg_if_eq 1107 dL_law_1100 (by decide) (fun c132 => ?_) (fun c132 => ?_)
  · rw [if_pos c132] at h
    refine pg_iconst 0 dL_law_1107 rfl ?_
    exact lj_L_law_1108 hfl hS hk hk0 h hN hT
  · rw [if_neg c132] at h
    refine pg_iconst 1 dL_law_1103 rfl ?_
    refine pg_goto 1108 dL_law_1104 (by decide) ?_
    exact lj_L_law_1108 hfl hS hk hk0 h hN hT
set_option maxRecDepth 40000 in
set_option maxHeartbeats 8000000 in
theorem lb_L_law_23 (hfl : g.1.stackTraces = false) (hS : pS 0 138 S) (hk : k + 1 ≤ pm_kb X ∧ n + 6 ≤ pm_nb X) (hk0 : k ≤ pm_kb X ∧ n ≤ pm_nb X) {s : Int32 × me} {r : (Int32 × me) ⊕ ((Int32 × me) ⊕ (Int32 × me))} (h : b_L_law_23 g.2.2.2.2.1.1 g.2.2.2.2.1.2 s = some r) (hN : ∀ z9, r = .inl z9 → pm_G g mL_law X 23 [some (.retAddr 0), some (.ref 0), some (.ref 128), some (.ref 137), some (.int z9.1), none, none] [] (en S z9.2) (k + 1) (n + 6)) (hT : ∀ t, r = .inr t → (fun z8 : ((Int32 × me) ⊕ (Int32 × me)) => (∀ z9, z8 = .inl z9 → ∀ k9 n9 : Nat, k9 ≤ pm_kb X → n9 ≤ pm_nb X → pm_G g mL_law X 1569 [some (.retAddr 0), some (.ref 0), some (.ref 128), some (.ref 137), some (.int z9.1), none, none] [] (en S z9.2) k9 n9) ∧ (∀ x9 : Int32 × me, z8 = .inr x9 → False)) t) : pm_G g mL_law X 23 [some (.retAddr 0), some (.ref 0), some (.ref 128), some (.ref 137), some (.int s.1), none, none] [] (en S s.2) k n := by
  unfold b_L_law_23 at h
  refine pg_iload dL_law_23 rfl ?_
  refine pg_aloadX_n dL_law_25 rfl ?_
  refine pg_slen dL_law_26 ?_
  refine pg_iconst 4 dL_law_27 rfl ?_
  refine pg_isub dL_law_28 ?_
  refine pg_icmp_gt 1569 dL_law_29 (by decide) (fun c1 => ?_) (fun c1 => ?_)
  · rw [if_pos c1] at h
    obtain rfl := Option.some.inj h
    exact (hT _ rfl).1 _ rfl _ _ (Nat.le_trans (Nat.le_add_right _ _) hk.1) (Nat.le_trans (Nat.le_add_right _ _) hk.2)
  · rw [if_neg c1] at h
    refine pg_aloadX_n dL_law_32 rfl ?_
    refine pg_iload dL_law_33 rfl ?_
    obtain ⟨g1, h⟩ := gd_at h
    refine pg_sld dL_law_35 (inR_vp g1) ?_
    refine pg_bipush 31 dL_law_36 rfl ?_
    refine pg_iand dL_law_38 ?_
    by_cases c2 : (g.2.2.2.2.1.2 s.1.toNatClampNeg) &&& 31 = 0
    · rw [if_pos c2] at h
      refine pg_tabIn (off := 117) 156 dL_law_39 (by rw [c2]; decide) (by rw [c2]; decide) (by rw [c2]; decide) (by decide) ?_
      refine pg_aload_n dL_law_156 rfl ?_
      refine pg_aloadX_n dL_law_157 rfl ?_
      refine pg_iload dL_law_158 rfl ?_
      refine pg_iconst 1 dL_law_160 rfl ?_
      refine pg_iadd dL_law_161 ?_
      obtain ⟨g1, h⟩ := gd_at h
      refine pg_sld dL_law_162 (inR_vp g1) ?_
      refine pg_aload_n dL_law_163 rfl ?_
      obtain ⟨r3, h_r3, h⟩ := bd_at h
      refine eg_cHi (C := mL_setBridges) (as := [(.ref 0), (.int (g.2.2.2.2.1.2 (s.1 + 1).toNatClampNeg)), (.ref 137)]) dL_law_164 mw1101 my_L_setBridges mw1105 rfl rfl rfl (Nat.le_of_ble_eq_true rfl) rfl ⟨(Nat.le_of_ble_eq_true rfl), (Nat.le_of_ble_eq_true rfl)⟩ hk (ch_setBridges hfl hS h_r3) ?_
      refine eg_istore [some (.retAddr 0), some (.ref 0), some (.ref 128), some (.ref 137), some (.int s.1), some (.int r3.1), none] r3.1 dL_law_167 rfl (Nat.le_of_ble_eq_true rfl) rfl ?_
      refine pg_aload_n dL_law_169 rfl ?_
      refine pg_aloadX_n dL_law_170 rfl ?_
      refine pg_iload dL_law_171 rfl ?_
      refine pg_iconst 1 dL_law_173 rfl ?_
      refine pg_iadd dL_law_174 ?_
      obtain ⟨g1, h⟩ := gd_at h
      refine pg_sld dL_law_175 (inR_vp g1) ?_
      obtain ⟨r4, h_r4, h⟩ := bd_at h
      refine eg_lVi (C := mX12_setBridges) (as := [(.int (g.2.2.2.2.1.2 (s.1 + 1).toNatClampNeg))]) dL_law_176 mw1106 cv_X12_setBridges hS sp128 (Nat.le_of_ble_eq_true rfl) (Nat.le_of_ble_eq_true rfl) rfl rfl rfl (Nat.le_of_ble_eq_true rfl) rfl ⟨(Nat.le_of_ble_eq_true rfl), (Nat.le_of_ble_eq_true rfl)⟩ hk (ct_X12_setBridges hfl (hS.sub (Nat.le_of_ble_eq_true rfl) (Nat.le_of_ble_eq_true rfl)) h_r4) ?_
      refine eg_istore [some (.retAddr 0), some (.ref 0), some (.ref 128), some (.ref 137), some (.int s.1), some (.int r3.1), some (.int r4.1)] r4.1 dL_law_179 rfl (Nat.le_of_ble_eq_true rfl) rfl ?_
      refine pg_aload_n dL_law_181 rfl ?_
      obtain ⟨r5, h_r5, h⟩ := bd_at h
      refine eg_lVi (C := mX12_thrown) (as := []) dL_law_182 mw1111 cv_X12_thrown hS sp128 (Nat.le_of_ble_eq_true rfl) (Nat.le_of_ble_eq_true rfl) rfl rfl rfl (Nat.le_of_ble_eq_true rfl) rfl ⟨(Nat.le_of_ble_eq_true rfl), (Nat.le_of_ble_eq_true rfl)⟩ hk (ct_X12_thrown hfl (hS.sub (Nat.le_of_ble_eq_true rfl) (Nat.le_of_ble_eq_true rfl)) h_r5) ?_
      refine pg_iload dL_law_185 rfl ?_
      refine pg_icmp_eq 192 dL_law_187 (by decide) (fun c6 => ?_) (fun c6 => ?_)
      · rw [if_pos c6] at h
        refine pg_iload dL_law_192 rfl ?_
        refine pg_if_ne 209 dL_law_194 (by decide) (fun c7 => ?_) (fun c7 => ?_)
        · rw [if_neg c7] at h
          refine pg_goto 1563 dL_law_209 (by decide) ?_
          obtain ⟨w8, e_w8⟩ : ∃ z : Int32, z = s.1 + 4 := ⟨_, rfl⟩
          replace h := lt_at h e_w8
          refine eg_iinc [some (.retAddr 0), some (.ref 0), some (.ref 128), some (.ref 137), some (.int w8), some (.int r3.1), some (.int r4.1)] w8 4 dL_law_1563 rfl rfl e_w8 rfl ?_
          refine pg_goto 23 dL_law_1566 (by decide) ?_
          obtain rfl := Option.some.inj h
          refine eg_forget [some (.retAddr 0), some (.ref 0), some (.ref 128), some (.ref 137), some (.int w8), none, none] (show pm_sub _ _ from ⟨rfl, ⟨rfl, ⟨rfl, ⟨rfl, ⟨rfl, trivial⟩⟩⟩⟩⟩) ?_
          exact hN _ rfl
        · rw [if_pos c7] at h
          refine pg_aload_n dL_law_197 rfl ?_
          refine pg_iconst 0 dL_law_198 rfl ?_
          refine eg_laldJ 0 dL_law_199 hS sp137 (Nat.le_of_ble_eq_true rfl) (Nat.le_of_ble_eq_true rfl) rfl (inR_vp rfl) rfl ?_
          refine pg_iload dL_law_200 rfl ?_
          refine pg_i2l dL_law_202 ?_
          refine pg_lcmp dL_law_203 ?_
          refine pg_if_eq 209 dL_law_204 (by decide) (fun c9 => ?_) (fun c9 => ?_)
          · rw [if_pos c9] at h
            refine pg_goto 1563 dL_law_209 (by decide) ?_
            obtain ⟨w10, e_w10⟩ : ∃ z : Int32, z = s.1 + 4 := ⟨_, rfl⟩
            replace h := lt_at h e_w10
            refine eg_iinc [some (.retAddr 0), some (.ref 0), some (.ref 128), some (.ref 137), some (.int w10), some (.int r3.1), some (.int r4.1)] w10 4 dL_law_1563 rfl rfl e_w10 rfl ?_
            refine pg_goto 23 dL_law_1566 (by decide) ?_
            obtain rfl := Option.some.inj h
            refine eg_forget [some (.retAddr 0), some (.ref 0), some (.ref 128), some (.ref 137), some (.int w10), none, none] (show pm_sub _ _ from ⟨rfl, ⟨rfl, ⟨rfl, ⟨rfl, ⟨rfl, trivial⟩⟩⟩⟩⟩) ?_
            exact hN _ rfl
          · rw [if_neg c9] at h
            refine pg_iconst 0 dL_law_207 rfl ?_
            obtain rfl := Option.some.inj h
            exact ((hT _ rfl).2 _ rfl).elim
      · rw [if_neg c6] at h
        refine pg_iconst 0 dL_law_190 rfl ?_
        obtain rfl := Option.some.inj h
        exact ((hT _ rfl).2 _ rfl).elim
    · rw [if_neg c2] at h
      by_cases c11 : (g.2.2.2.2.1.2 s.1.toNatClampNeg) &&& 31 = 1
      · rw [if_pos c11] at h
        refine pg_tabIn (off := 173) 212 dL_law_39 (by rw [c11]; decide) (by rw [c11]; decide) (by rw [c11]; decide) (by decide) ?_
        refine pg_aload_n dL_law_212 rfl ?_
        refine pg_aloadX_n dL_law_213 rfl ?_
        refine pg_iload dL_law_214 rfl ?_
        refine pg_iconst 1 dL_law_216 rfl ?_
        refine pg_iadd dL_law_217 ?_
        obtain ⟨g1, h⟩ := gd_at h
        refine pg_sld dL_law_218 (inR_vp g1) ?_
        refine pg_aloadX_n dL_law_219 rfl ?_
        refine pg_iload dL_law_220 rfl ?_
        refine pg_iconst 2 dL_law_222 rfl ?_
        refine pg_iadd dL_law_223 ?_
        obtain ⟨g1, h⟩ := gd_at h
        refine pg_sld dL_law_224 (inR_vp g1) ?_
        refine pg_aloadX_n dL_law_225 rfl ?_
        refine pg_iload dL_law_226 rfl ?_
        refine pg_iconst 3 dL_law_228 rfl ?_
        refine pg_iadd dL_law_229 ?_
        obtain ⟨g1, h⟩ := gd_at h
        refine pg_sld dL_law_230 (inR_vp g1) ?_
        refine pg_aload_n dL_law_231 rfl ?_
        obtain ⟨r12, h_r12, h⟩ := bd_at h
        refine eg_cHi (C := mL_setTimes) (as := [(.ref 0), (.int (g.2.2.2.2.1.2 (s.1 + 1).toNatClampNeg)), (.int (g.2.2.2.2.1.2 (s.1 + 2).toNatClampNeg)), (.int (g.2.2.2.2.1.2 (s.1 + 3).toNatClampNeg)), (.ref 137)]) dL_law_232 mw1116 my_L_setTimes mw1119 rfl rfl rfl (Nat.le_of_ble_eq_true rfl) rfl ⟨(Nat.le_of_ble_eq_true rfl), (Nat.le_of_ble_eq_true rfl)⟩ hk (ch_setTimes hfl hS h_r12) ?_
        refine eg_istore [some (.retAddr 0), some (.ref 0), some (.ref 128), some (.ref 137), some (.int s.1), some (.int r12.1), none] r12.1 dL_law_235 rfl (Nat.le_of_ble_eq_true rfl) rfl ?_
        refine pg_aload_n dL_law_237 rfl ?_
        refine pg_aloadX_n dL_law_238 rfl ?_
        refine pg_iload dL_law_239 rfl ?_
        refine pg_iconst 1 dL_law_241 rfl ?_
        refine pg_iadd dL_law_242 ?_
        obtain ⟨g1, h⟩ := gd_at h
        refine pg_sld dL_law_243 (inR_vp g1) ?_
        refine pg_aloadX_n dL_law_244 rfl ?_
        refine pg_iload dL_law_245 rfl ?_
        refine pg_iconst 2 dL_law_247 rfl ?_
        refine pg_iadd dL_law_248 ?_
        obtain ⟨g1, h⟩ := gd_at h
        refine pg_sld dL_law_249 (inR_vp g1) ?_
        refine pg_aloadX_n dL_law_250 rfl ?_
        refine pg_iload dL_law_251 rfl ?_
        refine pg_iconst 3 dL_law_253 rfl ?_
        refine pg_iadd dL_law_254 ?_
        obtain ⟨g1, h⟩ := gd_at h
        refine pg_sld dL_law_255 (inR_vp g1) ?_
        obtain ⟨r13, h_r13, h⟩ := bd_at h
        refine eg_lVi (C := mX12_setTimes) (as := [(.int (g.2.2.2.2.1.2 (s.1 + 1).toNatClampNeg)), (.int (g.2.2.2.2.1.2 (s.1 + 2).toNatClampNeg)), (.int (g.2.2.2.2.1.2 (s.1 + 3).toNatClampNeg))]) dL_law_256 mw1120 cv_X12_setTimes hS sp128 (Nat.le_of_ble_eq_true rfl) (Nat.le_of_ble_eq_true rfl) rfl rfl rfl (Nat.le_of_ble_eq_true rfl) rfl ⟨(Nat.le_of_ble_eq_true rfl), (Nat.le_of_ble_eq_true rfl)⟩ hk (ct_X12_setTimes hfl (hS.sub (Nat.le_of_ble_eq_true rfl) (Nat.le_of_ble_eq_true rfl)) h_r13) ?_
        refine eg_istore [some (.retAddr 0), some (.ref 0), some (.ref 128), some (.ref 137), some (.int s.1), some (.int r12.1), some (.int r13.1)] r13.1 dL_law_259 rfl (Nat.le_of_ble_eq_true rfl) rfl ?_
        refine pg_aload_n dL_law_261 rfl ?_
        obtain ⟨r14, h_r14, h⟩ := bd_at h
        refine eg_lVi (C := mX12_thrown) (as := []) dL_law_262 mw1111 cv_X12_thrown hS sp128 (Nat.le_of_ble_eq_true rfl) (Nat.le_of_ble_eq_true rfl) rfl rfl rfl (Nat.le_of_ble_eq_true rfl) rfl ⟨(Nat.le_of_ble_eq_true rfl), (Nat.le_of_ble_eq_true rfl)⟩ hk (ct_X12_thrown hfl (hS.sub (Nat.le_of_ble_eq_true rfl) (Nat.le_of_ble_eq_true rfl)) h_r14) ?_
        refine pg_iload dL_law_265 rfl ?_
        refine pg_icmp_eq 272 dL_law_267 (by decide) (fun c15 => ?_) (fun c15 => ?_)
        · rw [if_pos c15] at h
          refine pg_iload dL_law_272 rfl ?_
          refine pg_if_ne 289 dL_law_274 (by decide) (fun c16 => ?_) (fun c16 => ?_)
          · rw [if_neg c16] at h
            refine pg_goto 1563 dL_law_289 (by decide) ?_
            obtain ⟨w17, e_w17⟩ : ∃ z : Int32, z = s.1 + 4 := ⟨_, rfl⟩
            replace h := lt_at h e_w17
            refine eg_iinc [some (.retAddr 0), some (.ref 0), some (.ref 128), some (.ref 137), some (.int w17), some (.int r12.1), some (.int r13.1)] w17 4 dL_law_1563 rfl rfl e_w17 rfl ?_
            refine pg_goto 23 dL_law_1566 (by decide) ?_
            obtain rfl := Option.some.inj h
            refine eg_forget [some (.retAddr 0), some (.ref 0), some (.ref 128), some (.ref 137), some (.int w17), none, none] (show pm_sub _ _ from ⟨rfl, ⟨rfl, ⟨rfl, ⟨rfl, ⟨rfl, trivial⟩⟩⟩⟩⟩) ?_
            exact hN _ rfl
          · rw [if_pos c16] at h
            refine pg_aload_n dL_law_277 rfl ?_
            refine pg_iconst 0 dL_law_278 rfl ?_
            refine eg_laldJ 0 dL_law_279 hS sp137 (Nat.le_of_ble_eq_true rfl) (Nat.le_of_ble_eq_true rfl) rfl (inR_vp rfl) rfl ?_
            refine pg_iload dL_law_280 rfl ?_
            refine pg_i2l dL_law_282 ?_
            refine pg_lcmp dL_law_283 ?_
            refine pg_if_eq 289 dL_law_284 (by decide) (fun c18 => ?_) (fun c18 => ?_)
            · rw [if_pos c18] at h
              refine pg_goto 1563 dL_law_289 (by decide) ?_
              obtain ⟨w19, e_w19⟩ : ∃ z : Int32, z = s.1 + 4 := ⟨_, rfl⟩
              replace h := lt_at h e_w19
              refine eg_iinc [some (.retAddr 0), some (.ref 0), some (.ref 128), some (.ref 137), some (.int w19), some (.int r12.1), some (.int r13.1)] w19 4 dL_law_1563 rfl rfl e_w19 rfl ?_
              refine pg_goto 23 dL_law_1566 (by decide) ?_
              obtain rfl := Option.some.inj h
              refine eg_forget [some (.retAddr 0), some (.ref 0), some (.ref 128), some (.ref 137), some (.int w19), none, none] (show pm_sub _ _ from ⟨rfl, ⟨rfl, ⟨rfl, ⟨rfl, ⟨rfl, trivial⟩⟩⟩⟩⟩) ?_
              exact hN _ rfl
            · rw [if_neg c18] at h
              refine pg_iconst 0 dL_law_287 rfl ?_
              obtain rfl := Option.some.inj h
              exact ((hT _ rfl).2 _ rfl).elim
        · rw [if_neg c15] at h
          refine pg_iconst 0 dL_law_270 rfl ?_
          obtain rfl := Option.some.inj h
          exact ((hT _ rfl).2 _ rfl).elim
      · rw [if_neg c11] at h
        by_cases c20 : (g.2.2.2.2.1.2 s.1.toNatClampNeg) &&& 31 = 2
        · rw [if_pos c20] at h
          refine pg_tabIn (off := 253) 292 dL_law_39 (by rw [c20]; decide) (by rw [c20]; decide) (by rw [c20]; decide) (by decide) ?_
          refine pg_aload_n dL_law_292 rfl ?_
          refine pg_aloadX_n dL_law_293 rfl ?_
          refine pg_iload dL_law_294 rfl ?_
          refine pg_iconst 1 dL_law_296 rfl ?_
          refine pg_iadd dL_law_297 ?_
          obtain ⟨g1, h⟩ := gd_at h
          refine pg_sld dL_law_298 (inR_vp g1) ?_
          refine pg_aloadX_n dL_law_299 rfl ?_
          refine pg_iload dL_law_300 rfl ?_
          refine pg_iconst 2 dL_law_302 rfl ?_
          refine pg_iadd dL_law_303 ?_
          obtain ⟨g1, h⟩ := gd_at h
          refine pg_sld dL_law_304 (inR_vp g1) ?_
          refine pg_aload_n dL_law_305 rfl ?_
          obtain ⟨r21, h_r21, h⟩ := bd_at h
          refine eg_cHi (C := mL_setPriority) (as := [(.ref 0), (.int (g.2.2.2.2.1.2 (s.1 + 1).toNatClampNeg)), (.int (g.2.2.2.2.1.2 (s.1 + 2).toNatClampNeg)), (.ref 137)]) dL_law_306 mw1125 my_L_setPriority mw1128 rfl rfl rfl (Nat.le_of_ble_eq_true rfl) rfl ⟨(Nat.le_of_ble_eq_true rfl), (Nat.le_of_ble_eq_true rfl)⟩ hk (ch_setPriority hfl hS h_r21) ?_
          refine eg_istore [some (.retAddr 0), some (.ref 0), some (.ref 128), some (.ref 137), some (.int s.1), some (.int r21.1), none] r21.1 dL_law_309 rfl (Nat.le_of_ble_eq_true rfl) rfl ?_
          refine pg_aload_n dL_law_311 rfl ?_
          refine pg_aloadX_n dL_law_312 rfl ?_
          refine pg_iload dL_law_313 rfl ?_
          refine pg_iconst 1 dL_law_315 rfl ?_
          refine pg_iadd dL_law_316 ?_
          obtain ⟨g1, h⟩ := gd_at h
          refine pg_sld dL_law_317 (inR_vp g1) ?_
          refine pg_aloadX_n dL_law_318 rfl ?_
          refine pg_iload dL_law_319 rfl ?_
          refine pg_iconst 2 dL_law_321 rfl ?_
          refine pg_iadd dL_law_322 ?_
          obtain ⟨g1, h⟩ := gd_at h
          refine pg_sld dL_law_323 (inR_vp g1) ?_
          obtain ⟨r22, h_r22, h⟩ := bd_at h
          refine eg_lVi (C := mX12_setPriority) (as := [(.int (g.2.2.2.2.1.2 (s.1 + 1).toNatClampNeg)), (.int (g.2.2.2.2.1.2 (s.1 + 2).toNatClampNeg))]) dL_law_324 mw1129 cv_X12_setPriority hS sp128 (Nat.le_of_ble_eq_true rfl) (Nat.le_of_ble_eq_true rfl) rfl rfl rfl (Nat.le_of_ble_eq_true rfl) rfl ⟨(Nat.le_of_ble_eq_true rfl), (Nat.le_of_ble_eq_true rfl)⟩ hk (ct_X12_setPriority hfl (hS.sub (Nat.le_of_ble_eq_true rfl) (Nat.le_of_ble_eq_true rfl)) h_r22) ?_
          refine eg_istore [some (.retAddr 0), some (.ref 0), some (.ref 128), some (.ref 137), some (.int s.1), some (.int r21.1), some (.int r22.1)] r22.1 dL_law_327 rfl (Nat.le_of_ble_eq_true rfl) rfl ?_
          refine pg_aload_n dL_law_329 rfl ?_
          obtain ⟨r23, h_r23, h⟩ := bd_at h
          refine eg_lVi (C := mX12_thrown) (as := []) dL_law_330 mw1111 cv_X12_thrown hS sp128 (Nat.le_of_ble_eq_true rfl) (Nat.le_of_ble_eq_true rfl) rfl rfl rfl (Nat.le_of_ble_eq_true rfl) rfl ⟨(Nat.le_of_ble_eq_true rfl), (Nat.le_of_ble_eq_true rfl)⟩ hk (ct_X12_thrown hfl (hS.sub (Nat.le_of_ble_eq_true rfl) (Nat.le_of_ble_eq_true rfl)) h_r23) ?_
          refine pg_iload dL_law_333 rfl ?_
          refine pg_icmp_eq 340 dL_law_335 (by decide) (fun c24 => ?_) (fun c24 => ?_)
          · rw [if_pos c24] at h
            refine pg_iload dL_law_340 rfl ?_
            refine pg_if_ne 357 dL_law_342 (by decide) (fun c25 => ?_) (fun c25 => ?_)
            · rw [if_neg c25] at h
              refine pg_goto 1563 dL_law_357 (by decide) ?_
              obtain ⟨w26, e_w26⟩ : ∃ z : Int32, z = s.1 + 4 := ⟨_, rfl⟩
              replace h := lt_at h e_w26
              refine eg_iinc [some (.retAddr 0), some (.ref 0), some (.ref 128), some (.ref 137), some (.int w26), some (.int r21.1), some (.int r22.1)] w26 4 dL_law_1563 rfl rfl e_w26 rfl ?_
              refine pg_goto 23 dL_law_1566 (by decide) ?_
              obtain rfl := Option.some.inj h
              refine eg_forget [some (.retAddr 0), some (.ref 0), some (.ref 128), some (.ref 137), some (.int w26), none, none] (show pm_sub _ _ from ⟨rfl, ⟨rfl, ⟨rfl, ⟨rfl, ⟨rfl, trivial⟩⟩⟩⟩⟩) ?_
              exact hN _ rfl
            · rw [if_pos c25] at h
              refine pg_aload_n dL_law_345 rfl ?_
              refine pg_iconst 0 dL_law_346 rfl ?_
              refine eg_laldJ 0 dL_law_347 hS sp137 (Nat.le_of_ble_eq_true rfl) (Nat.le_of_ble_eq_true rfl) rfl (inR_vp rfl) rfl ?_
              refine pg_iload dL_law_348 rfl ?_
              refine pg_i2l dL_law_350 ?_
              refine pg_lcmp dL_law_351 ?_
              refine pg_if_eq 357 dL_law_352 (by decide) (fun c27 => ?_) (fun c27 => ?_)
              · rw [if_pos c27] at h
                refine pg_goto 1563 dL_law_357 (by decide) ?_
                obtain ⟨w28, e_w28⟩ : ∃ z : Int32, z = s.1 + 4 := ⟨_, rfl⟩
                replace h := lt_at h e_w28
                refine eg_iinc [some (.retAddr 0), some (.ref 0), some (.ref 128), some (.ref 137), some (.int w28), some (.int r21.1), some (.int r22.1)] w28 4 dL_law_1563 rfl rfl e_w28 rfl ?_
                refine pg_goto 23 dL_law_1566 (by decide) ?_
                obtain rfl := Option.some.inj h
                refine eg_forget [some (.retAddr 0), some (.ref 0), some (.ref 128), some (.ref 137), some (.int w28), none, none] (show pm_sub _ _ from ⟨rfl, ⟨rfl, ⟨rfl, ⟨rfl, ⟨rfl, trivial⟩⟩⟩⟩⟩) ?_
                exact hN _ rfl
              · rw [if_neg c27] at h
                refine pg_iconst 0 dL_law_355 rfl ?_
                obtain rfl := Option.some.inj h
                exact ((hT _ rfl).2 _ rfl).elim
          · rw [if_neg c24] at h
            refine pg_iconst 0 dL_law_338 rfl ?_
            obtain rfl := Option.some.inj h
            exact ((hT _ rfl).2 _ rfl).elim
        · rw [if_neg c20] at h
          by_cases c29 : (g.2.2.2.2.1.2 s.1.toNatClampNeg) &&& 31 = 3
          · rw [if_pos c29] at h
            refine pg_tabIn (off := 321) 360 dL_law_39 (by rw [c29]; decide) (by rw [c29]; decide) (by rw [c29]; decide) (by decide) ?_
            refine pg_aload_n dL_law_360 rfl ?_
            refine pg_aloadX_n dL_law_361 rfl ?_
            refine pg_iload dL_law_362 rfl ?_
            refine pg_iconst 1 dL_law_364 rfl ?_
            refine pg_iadd dL_law_365 ?_
            obtain ⟨g1, h⟩ := gd_at h
            refine pg_sld dL_law_366 (inR_vp g1) ?_
            refine pg_aloadX_n dL_law_367 rfl ?_
            refine pg_iload dL_law_368 rfl ?_
            refine pg_iconst 2 dL_law_370 rfl ?_
            refine pg_iadd dL_law_371 ?_
            obtain ⟨g1, h⟩ := gd_at h
            refine pg_sld dL_law_372 (inR_vp g1) ?_
            refine pg_aloadX_n dL_law_373 rfl ?_
            refine pg_iload dL_law_374 rfl ?_
            refine pg_iconst 3 dL_law_376 rfl ?_
            refine pg_iadd dL_law_377 ?_
            obtain ⟨g1, h⟩ := gd_at h
            refine pg_sld dL_law_378 (inR_vp g1) ?_
            refine pg_aload_n dL_law_379 rfl ?_
            obtain ⟨r30, h_r30, h⟩ := bd_at h
            refine eg_cHi (C := mL_addLink) (as := [(.ref 0), (.int (g.2.2.2.2.1.2 (s.1 + 1).toNatClampNeg)), (.int (g.2.2.2.2.1.2 (s.1 + 2).toNatClampNeg)), (.int (g.2.2.2.2.1.2 (s.1 + 3).toNatClampNeg)), (.ref 137)]) dL_law_380 mw1134 my_L_addLink mw1137 rfl rfl rfl (Nat.le_of_ble_eq_true rfl) rfl ⟨(Nat.le_of_ble_eq_true rfl), (Nat.le_of_ble_eq_true rfl)⟩ hk (ch_addLink hfl hS h_r30) ?_
            refine eg_istore [some (.retAddr 0), some (.ref 0), some (.ref 128), some (.ref 137), some (.int s.1), some (.int r30.1), none] r30.1 dL_law_383 rfl (Nat.le_of_ble_eq_true rfl) rfl ?_
            refine pg_aload_n dL_law_385 rfl ?_
            refine pg_aloadX_n dL_law_386 rfl ?_
            refine pg_iload dL_law_387 rfl ?_
            refine pg_iconst 1 dL_law_389 rfl ?_
            refine pg_iadd dL_law_390 ?_
            obtain ⟨g1, h⟩ := gd_at h
            refine pg_sld dL_law_391 (inR_vp g1) ?_
            refine pg_aloadX_n dL_law_392 rfl ?_
            refine pg_iload dL_law_393 rfl ?_
            refine pg_iconst 2 dL_law_395 rfl ?_
            refine pg_iadd dL_law_396 ?_
            obtain ⟨g1, h⟩ := gd_at h
            refine pg_sld dL_law_397 (inR_vp g1) ?_
            refine pg_aloadX_n dL_law_398 rfl ?_
            refine pg_iload dL_law_399 rfl ?_
            refine pg_iconst 3 dL_law_401 rfl ?_
            refine pg_iadd dL_law_402 ?_
            obtain ⟨g1, h⟩ := gd_at h
            refine pg_sld dL_law_403 (inR_vp g1) ?_
            obtain ⟨r31, h_r31, h⟩ := bd_at h
            refine eg_lVi (C := mX12_addLink) (as := [(.int (g.2.2.2.2.1.2 (s.1 + 1).toNatClampNeg)), (.int (g.2.2.2.2.1.2 (s.1 + 2).toNatClampNeg)), (.int (g.2.2.2.2.1.2 (s.1 + 3).toNatClampNeg))]) dL_law_404 mw1138 cv_X12_addLink hS sp128 (Nat.le_of_ble_eq_true rfl) (Nat.le_of_ble_eq_true rfl) rfl rfl rfl (Nat.le_of_ble_eq_true rfl) rfl ⟨(Nat.le_of_ble_eq_true rfl), (Nat.le_of_ble_eq_true rfl)⟩ hk (ct_X12_addLink hfl (hS.sub (Nat.le_of_ble_eq_true rfl) (Nat.le_of_ble_eq_true rfl)) h_r31) ?_
            refine eg_istore [some (.retAddr 0), some (.ref 0), some (.ref 128), some (.ref 137), some (.int s.1), some (.int r30.1), some (.int r31.1)] r31.1 dL_law_407 rfl (Nat.le_of_ble_eq_true rfl) rfl ?_
            refine pg_aload_n dL_law_409 rfl ?_
            obtain ⟨r32, h_r32, h⟩ := bd_at h
            refine eg_lVi (C := mX12_thrown) (as := []) dL_law_410 mw1111 cv_X12_thrown hS sp128 (Nat.le_of_ble_eq_true rfl) (Nat.le_of_ble_eq_true rfl) rfl rfl rfl (Nat.le_of_ble_eq_true rfl) rfl ⟨(Nat.le_of_ble_eq_true rfl), (Nat.le_of_ble_eq_true rfl)⟩ hk (ct_X12_thrown hfl (hS.sub (Nat.le_of_ble_eq_true rfl) (Nat.le_of_ble_eq_true rfl)) h_r32) ?_
            refine pg_iload dL_law_413 rfl ?_
            refine pg_icmp_eq 420 dL_law_415 (by decide) (fun c33 => ?_) (fun c33 => ?_)
            · rw [if_pos c33] at h
              refine pg_iload dL_law_420 rfl ?_
              refine pg_if_ne 437 dL_law_422 (by decide) (fun c34 => ?_) (fun c34 => ?_)
              · rw [if_neg c34] at h
                refine pg_goto 1563 dL_law_437 (by decide) ?_
                obtain ⟨w35, e_w35⟩ : ∃ z : Int32, z = s.1 + 4 := ⟨_, rfl⟩
                replace h := lt_at h e_w35
                refine eg_iinc [some (.retAddr 0), some (.ref 0), some (.ref 128), some (.ref 137), some (.int w35), some (.int r30.1), some (.int r31.1)] w35 4 dL_law_1563 rfl rfl e_w35 rfl ?_
                refine pg_goto 23 dL_law_1566 (by decide) ?_
                obtain rfl := Option.some.inj h
                refine eg_forget [some (.retAddr 0), some (.ref 0), some (.ref 128), some (.ref 137), some (.int w35), none, none] (show pm_sub _ _ from ⟨rfl, ⟨rfl, ⟨rfl, ⟨rfl, ⟨rfl, trivial⟩⟩⟩⟩⟩) ?_
                exact hN _ rfl
              · rw [if_pos c34] at h
                refine pg_aload_n dL_law_425 rfl ?_
                refine pg_iconst 0 dL_law_426 rfl ?_
                refine eg_laldJ 0 dL_law_427 hS sp137 (Nat.le_of_ble_eq_true rfl) (Nat.le_of_ble_eq_true rfl) rfl (inR_vp rfl) rfl ?_
                refine pg_iload dL_law_428 rfl ?_
                refine pg_i2l dL_law_430 ?_
                refine pg_lcmp dL_law_431 ?_
                refine pg_if_eq 437 dL_law_432 (by decide) (fun c36 => ?_) (fun c36 => ?_)
                · rw [if_pos c36] at h
                  refine pg_goto 1563 dL_law_437 (by decide) ?_
                  obtain ⟨w37, e_w37⟩ : ∃ z : Int32, z = s.1 + 4 := ⟨_, rfl⟩
                  replace h := lt_at h e_w37
                  refine eg_iinc [some (.retAddr 0), some (.ref 0), some (.ref 128), some (.ref 137), some (.int w37), some (.int r30.1), some (.int r31.1)] w37 4 dL_law_1563 rfl rfl e_w37 rfl ?_
                  refine pg_goto 23 dL_law_1566 (by decide) ?_
                  obtain rfl := Option.some.inj h
                  refine eg_forget [some (.retAddr 0), some (.ref 0), some (.ref 128), some (.ref 137), some (.int w37), none, none] (show pm_sub _ _ from ⟨rfl, ⟨rfl, ⟨rfl, ⟨rfl, ⟨rfl, trivial⟩⟩⟩⟩⟩) ?_
                  exact hN _ rfl
                · rw [if_neg c36] at h
                  refine pg_iconst 0 dL_law_435 rfl ?_
                  obtain rfl := Option.some.inj h
                  exact ((hT _ rfl).2 _ rfl).elim
            · rw [if_neg c33] at h
              refine pg_iconst 0 dL_law_418 rfl ?_
              obtain rfl := Option.some.inj h
              exact ((hT _ rfl).2 _ rfl).elim
          · rw [if_neg c29] at h
            by_cases c38 : (g.2.2.2.2.1.2 s.1.toNatClampNeg) &&& 31 = 4
            · rw [if_pos c38] at h
              refine pg_tabIn (off := 401) 440 dL_law_39 (by rw [c38]; decide) (by rw [c38]; decide) (by rw [c38]; decide) (by decide) ?_
              refine pg_aload_n dL_law_440 rfl ?_
              refine pg_aloadX_n dL_law_441 rfl ?_
              refine pg_iload dL_law_442 rfl ?_
              refine pg_iconst 1 dL_law_444 rfl ?_
              refine pg_iadd dL_law_445 ?_
              obtain ⟨g1, h⟩ := gd_at h
              refine pg_sld dL_law_446 (inR_vp g1) ?_
              refine pg_aload_n dL_law_447 rfl ?_
              obtain ⟨r39, h_r39, h⟩ := bd_at h
              refine eg_cHi (C := mL_fail) (as := [(.ref 0), (.int (g.2.2.2.2.1.2 (s.1 + 1).toNatClampNeg)), (.ref 137)]) dL_law_448 mw1143 my_L_fail mw1146 rfl rfl rfl (Nat.le_of_ble_eq_true rfl) rfl ⟨(Nat.le_of_ble_eq_true rfl), (Nat.le_of_ble_eq_true rfl)⟩ hk (ch_fail hfl hS h_r39) ?_
              refine eg_istore [some (.retAddr 0), some (.ref 0), some (.ref 128), some (.ref 137), some (.int s.1), some (.int r39.1), none] r39.1 dL_law_451 rfl (Nat.le_of_ble_eq_true rfl) rfl ?_
              refine pg_aload_n dL_law_453 rfl ?_
              refine pg_aloadX_n dL_law_454 rfl ?_
              refine pg_iload dL_law_455 rfl ?_
              refine pg_iconst 1 dL_law_457 rfl ?_
              refine pg_iadd dL_law_458 ?_
              obtain ⟨g1, h⟩ := gd_at h
              refine pg_sld dL_law_459 (inR_vp g1) ?_
              obtain ⟨r40, h_r40, h⟩ := bd_at h
              refine eg_lVi (C := mX12_fail) (as := [(.int (g.2.2.2.2.1.2 (s.1 + 1).toNatClampNeg))]) dL_law_460 mw1147 cv_X12_fail hS sp128 (Nat.le_of_ble_eq_true rfl) (Nat.le_of_ble_eq_true rfl) rfl rfl rfl (Nat.le_of_ble_eq_true rfl) rfl ⟨(Nat.le_of_ble_eq_true rfl), (Nat.le_of_ble_eq_true rfl)⟩ hk (ct_X12_fail hfl (hS.sub (Nat.le_of_ble_eq_true rfl) (Nat.le_of_ble_eq_true rfl)) h_r40) ?_
              refine eg_istore [some (.retAddr 0), some (.ref 0), some (.ref 128), some (.ref 137), some (.int s.1), some (.int r39.1), some (.int r40.1)] r40.1 dL_law_463 rfl (Nat.le_of_ble_eq_true rfl) rfl ?_
              refine pg_aload_n dL_law_465 rfl ?_
              obtain ⟨r41, h_r41, h⟩ := bd_at h
              refine eg_lVi (C := mX12_thrown) (as := []) dL_law_466 mw1111 cv_X12_thrown hS sp128 (Nat.le_of_ble_eq_true rfl) (Nat.le_of_ble_eq_true rfl) rfl rfl rfl (Nat.le_of_ble_eq_true rfl) rfl ⟨(Nat.le_of_ble_eq_true rfl), (Nat.le_of_ble_eq_true rfl)⟩ hk (ct_X12_thrown hfl (hS.sub (Nat.le_of_ble_eq_true rfl) (Nat.le_of_ble_eq_true rfl)) h_r41) ?_
              refine pg_iload dL_law_469 rfl ?_
              refine pg_icmp_eq 476 dL_law_471 (by decide) (fun c42 => ?_) (fun c42 => ?_)
              · rw [if_pos c42] at h
                refine pg_iload dL_law_476 rfl ?_
                refine pg_if_ne 493 dL_law_478 (by decide) (fun c43 => ?_) (fun c43 => ?_)
                · rw [if_neg c43] at h
                  refine pg_goto 1563 dL_law_493 (by decide) ?_
                  obtain ⟨w44, e_w44⟩ : ∃ z : Int32, z = s.1 + 4 := ⟨_, rfl⟩
                  replace h := lt_at h e_w44
                  refine eg_iinc [some (.retAddr 0), some (.ref 0), some (.ref 128), some (.ref 137), some (.int w44), some (.int r39.1), some (.int r40.1)] w44 4 dL_law_1563 rfl rfl e_w44 rfl ?_
                  refine pg_goto 23 dL_law_1566 (by decide) ?_
                  obtain rfl := Option.some.inj h
                  refine eg_forget [some (.retAddr 0), some (.ref 0), some (.ref 128), some (.ref 137), some (.int w44), none, none] (show pm_sub _ _ from ⟨rfl, ⟨rfl, ⟨rfl, ⟨rfl, ⟨rfl, trivial⟩⟩⟩⟩⟩) ?_
                  exact hN _ rfl
                · rw [if_pos c43] at h
                  refine pg_aload_n dL_law_481 rfl ?_
                  refine pg_iconst 0 dL_law_482 rfl ?_
                  refine eg_laldJ 0 dL_law_483 hS sp137 (Nat.le_of_ble_eq_true rfl) (Nat.le_of_ble_eq_true rfl) rfl (inR_vp rfl) rfl ?_
                  refine pg_iload dL_law_484 rfl ?_
                  refine pg_i2l dL_law_486 ?_
                  refine pg_lcmp dL_law_487 ?_
                  refine pg_if_eq 493 dL_law_488 (by decide) (fun c45 => ?_) (fun c45 => ?_)
                  · rw [if_pos c45] at h
                    refine pg_goto 1563 dL_law_493 (by decide) ?_
                    obtain ⟨w46, e_w46⟩ : ∃ z : Int32, z = s.1 + 4 := ⟨_, rfl⟩
                    replace h := lt_at h e_w46
                    refine eg_iinc [some (.retAddr 0), some (.ref 0), some (.ref 128), some (.ref 137), some (.int w46), some (.int r39.1), some (.int r40.1)] w46 4 dL_law_1563 rfl rfl e_w46 rfl ?_
                    refine pg_goto 23 dL_law_1566 (by decide) ?_
                    obtain rfl := Option.some.inj h
                    refine eg_forget [some (.retAddr 0), some (.ref 0), some (.ref 128), some (.ref 137), some (.int w46), none, none] (show pm_sub _ _ from ⟨rfl, ⟨rfl, ⟨rfl, ⟨rfl, ⟨rfl, trivial⟩⟩⟩⟩⟩) ?_
                    exact hN _ rfl
                  · rw [if_neg c45] at h
                    refine pg_iconst 0 dL_law_491 rfl ?_
                    obtain rfl := Option.some.inj h
                    exact ((hT _ rfl).2 _ rfl).elim
              · rw [if_neg c42] at h
                refine pg_iconst 0 dL_law_474 rfl ?_
                obtain rfl := Option.some.inj h
                exact ((hT _ rfl).2 _ rfl).elim
            · rw [if_neg c38] at h
              by_cases c47 : (g.2.2.2.2.1.2 s.1.toNatClampNeg) &&& 31 = 5
              · rw [if_pos c47] at h
                refine pg_tabIn (off := 457) 496 dL_law_39 (by rw [c47]; decide) (by rw [c47]; decide) (by rw [c47]; decide) (by decide) ?_
                refine pg_aload_n dL_law_496 rfl ?_
                refine pg_aloadX_n dL_law_497 rfl ?_
                refine pg_iload dL_law_498 rfl ?_
                refine pg_iconst 1 dL_law_500 rfl ?_
                refine pg_iadd dL_law_501 ?_
                obtain ⟨g1, h⟩ := gd_at h
                refine pg_sld dL_law_502 (inR_vp g1) ?_
                refine pg_aload_n dL_law_503 rfl ?_
                obtain ⟨r48, h_r48, h⟩ := bd_at h
                refine eg_cHi (C := mL_fix) (as := [(.ref 0), (.int (g.2.2.2.2.1.2 (s.1 + 1).toNatClampNeg)), (.ref 137)]) dL_law_504 mw1152 my_L_fix mw1155 rfl rfl rfl (Nat.le_of_ble_eq_true rfl) rfl ⟨(Nat.le_of_ble_eq_true rfl), (Nat.le_of_ble_eq_true rfl)⟩ hk (ch_fix hfl hS h_r48) ?_
                refine eg_istore [some (.retAddr 0), some (.ref 0), some (.ref 128), some (.ref 137), some (.int s.1), some (.int r48.1), none] r48.1 dL_law_507 rfl (Nat.le_of_ble_eq_true rfl) rfl ?_
                refine pg_aload_n dL_law_509 rfl ?_
                refine pg_aloadX_n dL_law_510 rfl ?_
                refine pg_iload dL_law_511 rfl ?_
                refine pg_iconst 1 dL_law_513 rfl ?_
                refine pg_iadd dL_law_514 ?_
                obtain ⟨g1, h⟩ := gd_at h
                refine pg_sld dL_law_515 (inR_vp g1) ?_
                obtain ⟨r49, h_r49, h⟩ := bd_at h
                refine eg_lVi (C := mX12_fix) (as := [(.int (g.2.2.2.2.1.2 (s.1 + 1).toNatClampNeg))]) dL_law_516 mw1156 cv_X12_fix hS sp128 (Nat.le_of_ble_eq_true rfl) (Nat.le_of_ble_eq_true rfl) rfl rfl rfl (Nat.le_of_ble_eq_true rfl) rfl ⟨(Nat.le_of_ble_eq_true rfl), (Nat.le_of_ble_eq_true rfl)⟩ hk (ct_X12_fix hfl (hS.sub (Nat.le_of_ble_eq_true rfl) (Nat.le_of_ble_eq_true rfl)) h_r49) ?_
                refine eg_istore [some (.retAddr 0), some (.ref 0), some (.ref 128), some (.ref 137), some (.int s.1), some (.int r48.1), some (.int r49.1)] r49.1 dL_law_519 rfl (Nat.le_of_ble_eq_true rfl) rfl ?_
                refine pg_aload_n dL_law_521 rfl ?_
                obtain ⟨r50, h_r50, h⟩ := bd_at h
                refine eg_lVi (C := mX12_thrown) (as := []) dL_law_522 mw1111 cv_X12_thrown hS sp128 (Nat.le_of_ble_eq_true rfl) (Nat.le_of_ble_eq_true rfl) rfl rfl rfl (Nat.le_of_ble_eq_true rfl) rfl ⟨(Nat.le_of_ble_eq_true rfl), (Nat.le_of_ble_eq_true rfl)⟩ hk (ct_X12_thrown hfl (hS.sub (Nat.le_of_ble_eq_true rfl) (Nat.le_of_ble_eq_true rfl)) h_r50) ?_
                refine pg_iload dL_law_525 rfl ?_
                refine pg_icmp_eq 532 dL_law_527 (by decide) (fun c51 => ?_) (fun c51 => ?_)
                · rw [if_pos c51] at h
                  refine pg_iload dL_law_532 rfl ?_
                  refine pg_if_ne 549 dL_law_534 (by decide) (fun c52 => ?_) (fun c52 => ?_)
                  · rw [if_neg c52] at h
                    refine pg_goto 1563 dL_law_549 (by decide) ?_
                    obtain ⟨w53, e_w53⟩ : ∃ z : Int32, z = s.1 + 4 := ⟨_, rfl⟩
                    replace h := lt_at h e_w53
                    refine eg_iinc [some (.retAddr 0), some (.ref 0), some (.ref 128), some (.ref 137), some (.int w53), some (.int r48.1), some (.int r49.1)] w53 4 dL_law_1563 rfl rfl e_w53 rfl ?_
                    refine pg_goto 23 dL_law_1566 (by decide) ?_
                    obtain rfl := Option.some.inj h
                    refine eg_forget [some (.retAddr 0), some (.ref 0), some (.ref 128), some (.ref 137), some (.int w53), none, none] (show pm_sub _ _ from ⟨rfl, ⟨rfl, ⟨rfl, ⟨rfl, ⟨rfl, trivial⟩⟩⟩⟩⟩) ?_
                    exact hN _ rfl
                  · rw [if_pos c52] at h
                    refine pg_aload_n dL_law_537 rfl ?_
                    refine pg_iconst 0 dL_law_538 rfl ?_
                    refine eg_laldJ 0 dL_law_539 hS sp137 (Nat.le_of_ble_eq_true rfl) (Nat.le_of_ble_eq_true rfl) rfl (inR_vp rfl) rfl ?_
                    refine pg_iload dL_law_540 rfl ?_
                    refine pg_i2l dL_law_542 ?_
                    refine pg_lcmp dL_law_543 ?_
                    refine pg_if_eq 549 dL_law_544 (by decide) (fun c54 => ?_) (fun c54 => ?_)
                    · rw [if_pos c54] at h
                      refine pg_goto 1563 dL_law_549 (by decide) ?_
                      obtain ⟨w55, e_w55⟩ : ∃ z : Int32, z = s.1 + 4 := ⟨_, rfl⟩
                      replace h := lt_at h e_w55
                      refine eg_iinc [some (.retAddr 0), some (.ref 0), some (.ref 128), some (.ref 137), some (.int w55), some (.int r48.1), some (.int r49.1)] w55 4 dL_law_1563 rfl rfl e_w55 rfl ?_
                      refine pg_goto 23 dL_law_1566 (by decide) ?_
                      obtain rfl := Option.some.inj h
                      refine eg_forget [some (.retAddr 0), some (.ref 0), some (.ref 128), some (.ref 137), some (.int w55), none, none] (show pm_sub _ _ from ⟨rfl, ⟨rfl, ⟨rfl, ⟨rfl, ⟨rfl, trivial⟩⟩⟩⟩⟩) ?_
                      exact hN _ rfl
                    · rw [if_neg c54] at h
                      refine pg_iconst 0 dL_law_547 rfl ?_
                      obtain rfl := Option.some.inj h
                      exact ((hT _ rfl).2 _ rfl).elim
                · rw [if_neg c51] at h
                  refine pg_iconst 0 dL_law_530 rfl ?_
                  obtain rfl := Option.some.inj h
                  exact ((hT _ rfl).2 _ rfl).elim
              · rw [if_neg c47] at h
                by_cases c56 : (g.2.2.2.2.1.2 s.1.toNatClampNeg) &&& 31 = 6
                · rw [if_pos c56] at h
                  refine pg_tabIn (off := 513) 552 dL_law_39 (by rw [c56]; decide) (by rw [c56]; decide) (by rw [c56]; decide) (by decide) ?_
                  refine pg_aload_n dL_law_552 rfl ?_
                  refine pg_aloadX_n dL_law_553 rfl ?_
                  refine pg_iload dL_law_554 rfl ?_
                  refine pg_iconst 1 dL_law_556 rfl ?_
                  refine pg_iadd dL_law_557 ?_
                  obtain ⟨g1, h⟩ := gd_at h
                  refine pg_sld dL_law_558 (inR_vp g1) ?_
                  refine pg_aloadX_n dL_law_559 rfl ?_
                  refine pg_iload dL_law_560 rfl ?_
                  refine pg_iconst 2 dL_law_562 rfl ?_
                  refine pg_iadd dL_law_563 ?_
                  obtain ⟨g1, h⟩ := gd_at h
                  refine pg_sld dL_law_564 (inR_vp g1) ?_
                  refine pg_aload_n dL_law_565 rfl ?_
                  obtain ⟨r57, h_r57, h⟩ := bd_at h
                  refine eg_cHi (C := mL_moveHost) (as := [(.ref 0), (.int (g.2.2.2.2.1.2 (s.1 + 1).toNatClampNeg)), (.int (g.2.2.2.2.1.2 (s.1 + 2).toNatClampNeg)), (.ref 137)]) dL_law_566 mw1161 my_L_moveHost mw1164 rfl rfl rfl (Nat.le_of_ble_eq_true rfl) rfl ⟨(Nat.le_of_ble_eq_true rfl), (Nat.le_of_ble_eq_true rfl)⟩ hk (ch_moveHost hfl hS h_r57) ?_
                  refine eg_istore [some (.retAddr 0), some (.ref 0), some (.ref 128), some (.ref 137), some (.int s.1), some (.int r57.1), none] r57.1 dL_law_569 rfl (Nat.le_of_ble_eq_true rfl) rfl ?_
                  refine pg_aload_n dL_law_571 rfl ?_
                  refine pg_aloadX_n dL_law_572 rfl ?_
                  refine pg_iload dL_law_573 rfl ?_
                  refine pg_iconst 1 dL_law_575 rfl ?_
                  refine pg_iadd dL_law_576 ?_
                  obtain ⟨g1, h⟩ := gd_at h
                  refine pg_sld dL_law_577 (inR_vp g1) ?_
                  refine pg_aloadX_n dL_law_578 rfl ?_
                  refine pg_iload dL_law_579 rfl ?_
                  refine pg_iconst 2 dL_law_581 rfl ?_
                  refine pg_iadd dL_law_582 ?_
                  obtain ⟨g1, h⟩ := gd_at h
                  refine pg_sld dL_law_583 (inR_vp g1) ?_
                  obtain ⟨r58, h_r58, h⟩ := bd_at h
                  refine eg_lVi (C := mX12_moveHost) (as := [(.int (g.2.2.2.2.1.2 (s.1 + 1).toNatClampNeg)), (.int (g.2.2.2.2.1.2 (s.1 + 2).toNatClampNeg))]) dL_law_584 mw1165 cv_X12_moveHost hS sp128 (Nat.le_of_ble_eq_true rfl) (Nat.le_of_ble_eq_true rfl) rfl rfl rfl (Nat.le_of_ble_eq_true rfl) rfl ⟨(Nat.le_of_ble_eq_true rfl), (Nat.le_of_ble_eq_true rfl)⟩ hk (ct_X12_moveHost hfl (hS.sub (Nat.le_of_ble_eq_true rfl) (Nat.le_of_ble_eq_true rfl)) h_r58) ?_
                  refine eg_istore [some (.retAddr 0), some (.ref 0), some (.ref 128), some (.ref 137), some (.int s.1), some (.int r57.1), some (.int r58.1)] r58.1 dL_law_587 rfl (Nat.le_of_ble_eq_true rfl) rfl ?_
                  refine pg_aload_n dL_law_589 rfl ?_
                  obtain ⟨r59, h_r59, h⟩ := bd_at h
                  refine eg_lVi (C := mX12_thrown) (as := []) dL_law_590 mw1111 cv_X12_thrown hS sp128 (Nat.le_of_ble_eq_true rfl) (Nat.le_of_ble_eq_true rfl) rfl rfl rfl (Nat.le_of_ble_eq_true rfl) rfl ⟨(Nat.le_of_ble_eq_true rfl), (Nat.le_of_ble_eq_true rfl)⟩ hk (ct_X12_thrown hfl (hS.sub (Nat.le_of_ble_eq_true rfl) (Nat.le_of_ble_eq_true rfl)) h_r59) ?_
                  refine pg_iload dL_law_593 rfl ?_
                  refine pg_icmp_eq 600 dL_law_595 (by decide) (fun c60 => ?_) (fun c60 => ?_)
                  · rw [if_pos c60] at h
                    refine pg_iload dL_law_600 rfl ?_
                    refine pg_if_ne 617 dL_law_602 (by decide) (fun c61 => ?_) (fun c61 => ?_)
                    · rw [if_neg c61] at h
                      refine pg_goto 1563 dL_law_617 (by decide) ?_
                      obtain ⟨w62, e_w62⟩ : ∃ z : Int32, z = s.1 + 4 := ⟨_, rfl⟩
                      replace h := lt_at h e_w62
                      refine eg_iinc [some (.retAddr 0), some (.ref 0), some (.ref 128), some (.ref 137), some (.int w62), some (.int r57.1), some (.int r58.1)] w62 4 dL_law_1563 rfl rfl e_w62 rfl ?_
                      refine pg_goto 23 dL_law_1566 (by decide) ?_
                      obtain rfl := Option.some.inj h
                      refine eg_forget [some (.retAddr 0), some (.ref 0), some (.ref 128), some (.ref 137), some (.int w62), none, none] (show pm_sub _ _ from ⟨rfl, ⟨rfl, ⟨rfl, ⟨rfl, ⟨rfl, trivial⟩⟩⟩⟩⟩) ?_
                      exact hN _ rfl
                    · rw [if_pos c61] at h
                      refine pg_aload_n dL_law_605 rfl ?_
                      refine pg_iconst 0 dL_law_606 rfl ?_
                      refine eg_laldJ 0 dL_law_607 hS sp137 (Nat.le_of_ble_eq_true rfl) (Nat.le_of_ble_eq_true rfl) rfl (inR_vp rfl) rfl ?_
                      refine pg_iload dL_law_608 rfl ?_
                      refine pg_i2l dL_law_610 ?_
                      refine pg_lcmp dL_law_611 ?_
                      refine pg_if_eq 617 dL_law_612 (by decide) (fun c63 => ?_) (fun c63 => ?_)
                      · rw [if_pos c63] at h
                        refine pg_goto 1563 dL_law_617 (by decide) ?_
                        obtain ⟨w64, e_w64⟩ : ∃ z : Int32, z = s.1 + 4 := ⟨_, rfl⟩
                        replace h := lt_at h e_w64
                        refine eg_iinc [some (.retAddr 0), some (.ref 0), some (.ref 128), some (.ref 137), some (.int w64), some (.int r57.1), some (.int r58.1)] w64 4 dL_law_1563 rfl rfl e_w64 rfl ?_
                        refine pg_goto 23 dL_law_1566 (by decide) ?_
                        obtain rfl := Option.some.inj h
                        refine eg_forget [some (.retAddr 0), some (.ref 0), some (.ref 128), some (.ref 137), some (.int w64), none, none] (show pm_sub _ _ from ⟨rfl, ⟨rfl, ⟨rfl, ⟨rfl, ⟨rfl, trivial⟩⟩⟩⟩⟩) ?_
                        exact hN _ rfl
                      · rw [if_neg c63] at h
                        refine pg_iconst 0 dL_law_615 rfl ?_
                        obtain rfl := Option.some.inj h
                        exact ((hT _ rfl).2 _ rfl).elim
                  · rw [if_neg c60] at h
                    refine pg_iconst 0 dL_law_598 rfl ?_
                    obtain rfl := Option.some.inj h
                    exact ((hT _ rfl).2 _ rfl).elim
                · rw [if_neg c56] at h
                  by_cases c65 : (g.2.2.2.2.1.2 s.1.toNatClampNeg) &&& 31 = 7
                  · rw [if_pos c65] at h
                    refine pg_tabIn (off := 581) 620 dL_law_39 (by rw [c65]; decide) (by rw [c65]; decide) (by rw [c65]; decide) (by decide) ?_
                    refine pg_aload_n dL_law_620 rfl ?_
                    refine pg_aloadX_n dL_law_621 rfl ?_
                    refine pg_iload dL_law_622 rfl ?_
                    refine pg_iconst 1 dL_law_624 rfl ?_
                    refine pg_iadd dL_law_625 ?_
                    obtain ⟨g1, h⟩ := gd_at h
                    refine pg_sld dL_law_626 (inR_vp g1) ?_
                    refine pg_aloadX_n dL_law_627 rfl ?_
                    refine pg_iload dL_law_628 rfl ?_
                    refine pg_iconst 2 dL_law_630 rfl ?_
                    refine pg_iadd dL_law_631 ?_
                    obtain ⟨g1, h⟩ := gd_at h
                    refine pg_sld dL_law_632 (inR_vp g1) ?_
                    refine pg_aloadX_n dL_law_633 rfl ?_
                    refine pg_iload dL_law_634 rfl ?_
                    refine pg_iconst 3 dL_law_636 rfl ?_
                    refine pg_iadd dL_law_637 ?_
                    obtain ⟨g1, h⟩ := gd_at h
                    refine pg_sld dL_law_638 (inR_vp g1) ?_
                    refine pg_aload_n dL_law_639 rfl ?_
                    obtain ⟨r66, h_r66, h⟩ := bd_at h
                    refine eg_cHi (C := mL_bid) (as := [(.ref 0), (.int (g.2.2.2.2.1.2 (s.1 + 1).toNatClampNeg)), (.int (g.2.2.2.2.1.2 (s.1 + 2).toNatClampNeg)), (.int (g.2.2.2.2.1.2 (s.1 + 3).toNatClampNeg)), (.ref 137)]) dL_law_640 mw1170 my_L_bid mw1173 rfl rfl rfl (Nat.le_of_ble_eq_true rfl) rfl ⟨(Nat.le_of_ble_eq_true rfl), (Nat.le_of_ble_eq_true rfl)⟩ hk (ch_bid hfl hS h_r66) ?_
                    refine eg_istore [some (.retAddr 0), some (.ref 0), some (.ref 128), some (.ref 137), some (.int s.1), some (.int r66.1), none] r66.1 dL_law_643 rfl (Nat.le_of_ble_eq_true rfl) rfl ?_
                    refine pg_aload_n dL_law_645 rfl ?_
                    refine pg_aloadX_n dL_law_646 rfl ?_
                    refine pg_iload dL_law_647 rfl ?_
                    refine pg_iconst 1 dL_law_649 rfl ?_
                    refine pg_iadd dL_law_650 ?_
                    obtain ⟨g1, h⟩ := gd_at h
                    refine pg_sld dL_law_651 (inR_vp g1) ?_
                    refine pg_aloadX_n dL_law_652 rfl ?_
                    refine pg_iload dL_law_653 rfl ?_
                    refine pg_iconst 2 dL_law_655 rfl ?_
                    refine pg_iadd dL_law_656 ?_
                    obtain ⟨g1, h⟩ := gd_at h
                    refine pg_sld dL_law_657 (inR_vp g1) ?_
                    refine pg_aloadX_n dL_law_658 rfl ?_
                    refine pg_iload dL_law_659 rfl ?_
                    refine pg_iconst 3 dL_law_661 rfl ?_
                    refine pg_iadd dL_law_662 ?_
                    obtain ⟨g1, h⟩ := gd_at h
                    refine pg_sld dL_law_663 (inR_vp g1) ?_
                    obtain ⟨r67, h_r67, h⟩ := bd_at h
                    refine eg_lVi (C := mX12_bid) (as := [(.int (g.2.2.2.2.1.2 (s.1 + 1).toNatClampNeg)), (.int (g.2.2.2.2.1.2 (s.1 + 2).toNatClampNeg)), (.int (g.2.2.2.2.1.2 (s.1 + 3).toNatClampNeg))]) dL_law_664 mw1174 cv_X12_bid hS sp128 (Nat.le_of_ble_eq_true rfl) (Nat.le_of_ble_eq_true rfl) rfl rfl rfl (Nat.le_of_ble_eq_true rfl) rfl ⟨(Nat.le_of_ble_eq_true rfl), (Nat.le_of_ble_eq_true rfl)⟩ hk (ct_X12_bid hfl (hS.sub (Nat.le_of_ble_eq_true rfl) (Nat.le_of_ble_eq_true rfl)) h_r67) ?_
                    refine eg_istore [some (.retAddr 0), some (.ref 0), some (.ref 128), some (.ref 137), some (.int s.1), some (.int r66.1), some (.int r67.1)] r67.1 dL_law_667 rfl (Nat.le_of_ble_eq_true rfl) rfl ?_
                    refine pg_aload_n dL_law_669 rfl ?_
                    obtain ⟨r68, h_r68, h⟩ := bd_at h
                    refine eg_lVi (C := mX12_thrown) (as := []) dL_law_670 mw1111 cv_X12_thrown hS sp128 (Nat.le_of_ble_eq_true rfl) (Nat.le_of_ble_eq_true rfl) rfl rfl rfl (Nat.le_of_ble_eq_true rfl) rfl ⟨(Nat.le_of_ble_eq_true rfl), (Nat.le_of_ble_eq_true rfl)⟩ hk (ct_X12_thrown hfl (hS.sub (Nat.le_of_ble_eq_true rfl) (Nat.le_of_ble_eq_true rfl)) h_r68) ?_
                    refine pg_iload dL_law_673 rfl ?_
                    refine pg_icmp_eq 680 dL_law_675 (by decide) (fun c69 => ?_) (fun c69 => ?_)
                    · rw [if_pos c69] at h
                      refine pg_iload dL_law_680 rfl ?_
                      refine pg_if_ne 697 dL_law_682 (by decide) (fun c70 => ?_) (fun c70 => ?_)
                      · rw [if_neg c70] at h
                        refine pg_goto 1563 dL_law_697 (by decide) ?_
                        obtain ⟨w71, e_w71⟩ : ∃ z : Int32, z = s.1 + 4 := ⟨_, rfl⟩
                        replace h := lt_at h e_w71
                        refine eg_iinc [some (.retAddr 0), some (.ref 0), some (.ref 128), some (.ref 137), some (.int w71), some (.int r66.1), some (.int r67.1)] w71 4 dL_law_1563 rfl rfl e_w71 rfl ?_
                        refine pg_goto 23 dL_law_1566 (by decide) ?_
                        obtain rfl := Option.some.inj h
                        refine eg_forget [some (.retAddr 0), some (.ref 0), some (.ref 128), some (.ref 137), some (.int w71), none, none] (show pm_sub _ _ from ⟨rfl, ⟨rfl, ⟨rfl, ⟨rfl, ⟨rfl, trivial⟩⟩⟩⟩⟩) ?_
                        exact hN _ rfl
                      · rw [if_pos c70] at h
                        refine pg_aload_n dL_law_685 rfl ?_
                        refine pg_iconst 0 dL_law_686 rfl ?_
                        refine eg_laldJ 0 dL_law_687 hS sp137 (Nat.le_of_ble_eq_true rfl) (Nat.le_of_ble_eq_true rfl) rfl (inR_vp rfl) rfl ?_
                        refine pg_iload dL_law_688 rfl ?_
                        refine pg_i2l dL_law_690 ?_
                        refine pg_lcmp dL_law_691 ?_
                        refine pg_if_eq 697 dL_law_692 (by decide) (fun c72 => ?_) (fun c72 => ?_)
                        · rw [if_pos c72] at h
                          refine pg_goto 1563 dL_law_697 (by decide) ?_
                          obtain ⟨w73, e_w73⟩ : ∃ z : Int32, z = s.1 + 4 := ⟨_, rfl⟩
                          replace h := lt_at h e_w73
                          refine eg_iinc [some (.retAddr 0), some (.ref 0), some (.ref 128), some (.ref 137), some (.int w73), some (.int r66.1), some (.int r67.1)] w73 4 dL_law_1563 rfl rfl e_w73 rfl ?_
                          refine pg_goto 23 dL_law_1566 (by decide) ?_
                          obtain rfl := Option.some.inj h
                          refine eg_forget [some (.retAddr 0), some (.ref 0), some (.ref 128), some (.ref 137), some (.int w73), none, none] (show pm_sub _ _ from ⟨rfl, ⟨rfl, ⟨rfl, ⟨rfl, ⟨rfl, trivial⟩⟩⟩⟩⟩) ?_
                          exact hN _ rfl
                        · rw [if_neg c72] at h
                          refine pg_iconst 0 dL_law_695 rfl ?_
                          obtain rfl := Option.some.inj h
                          exact ((hT _ rfl).2 _ rfl).elim
                    · rw [if_neg c69] at h
                      refine pg_iconst 0 dL_law_678 rfl ?_
                      obtain rfl := Option.some.inj h
                      exact ((hT _ rfl).2 _ rfl).elim
                  · rw [if_neg c65] at h
                    by_cases c74 : (g.2.2.2.2.1.2 s.1.toNatClampNeg) &&& 31 = 8
                    · rw [if_pos c74] at h
                      refine pg_tabIn (off := 661) 700 dL_law_39 (by rw [c74]; decide) (by rw [c74]; decide) (by rw [c74]; decide) (by decide) ?_
                      refine pg_aload_n dL_law_700 rfl ?_
                      refine pg_aloadX_n dL_law_701 rfl ?_
                      refine pg_iload dL_law_702 rfl ?_
                      refine pg_iconst 1 dL_law_704 rfl ?_
                      refine pg_iadd dL_law_705 ?_
                      obtain ⟨g1, h⟩ := gd_at h
                      refine pg_sld dL_law_706 (inR_vp g1) ?_
                      refine pg_aloadX_n dL_law_707 rfl ?_
                      refine pg_iload dL_law_708 rfl ?_
                      refine pg_iconst 2 dL_law_710 rfl ?_
                      refine pg_iadd dL_law_711 ?_
                      obtain ⟨g1, h⟩ := gd_at h
                      refine pg_sld dL_law_712 (inR_vp g1) ?_
                      refine pg_aload_n dL_law_713 rfl ?_
                      obtain ⟨r75, h_r75, h⟩ := bd_at h
                      refine eg_cHi (C := mL_grant) (as := [(.ref 0), (.int (g.2.2.2.2.1.2 (s.1 + 1).toNatClampNeg)), (.int (g.2.2.2.2.1.2 (s.1 + 2).toNatClampNeg)), (.ref 137)]) dL_law_714 mw1179 my_L_grant mw1182 rfl rfl rfl (Nat.le_of_ble_eq_true rfl) rfl ⟨(Nat.le_of_ble_eq_true rfl), (Nat.le_of_ble_eq_true rfl)⟩ hk (ch_grant hfl hS h_r75) ?_
                      refine eg_istore [some (.retAddr 0), some (.ref 0), some (.ref 128), some (.ref 137), some (.int s.1), some (.int r75.1), none] r75.1 dL_law_717 rfl (Nat.le_of_ble_eq_true rfl) rfl ?_
                      refine pg_aload_n dL_law_719 rfl ?_
                      refine pg_aloadX_n dL_law_720 rfl ?_
                      refine pg_iload dL_law_721 rfl ?_
                      refine pg_iconst 1 dL_law_723 rfl ?_
                      refine pg_iadd dL_law_724 ?_
                      obtain ⟨g1, h⟩ := gd_at h
                      refine pg_sld dL_law_725 (inR_vp g1) ?_
                      refine pg_aloadX_n dL_law_726 rfl ?_
                      refine pg_iload dL_law_727 rfl ?_
                      refine pg_iconst 2 dL_law_729 rfl ?_
                      refine pg_iadd dL_law_730 ?_
                      obtain ⟨g1, h⟩ := gd_at h
                      refine pg_sld dL_law_731 (inR_vp g1) ?_
                      obtain ⟨r76, h_r76, h⟩ := bd_at h
                      refine eg_lVi (C := mX12_grant) (as := [(.int (g.2.2.2.2.1.2 (s.1 + 1).toNatClampNeg)), (.int (g.2.2.2.2.1.2 (s.1 + 2).toNatClampNeg))]) dL_law_732 mw1183 cv_X12_grant hS sp128 (Nat.le_of_ble_eq_true rfl) (Nat.le_of_ble_eq_true rfl) rfl rfl rfl (Nat.le_of_ble_eq_true rfl) rfl ⟨(Nat.le_of_ble_eq_true rfl), (Nat.le_of_ble_eq_true rfl)⟩ hk (ct_X12_grant hfl (hS.sub (Nat.le_of_ble_eq_true rfl) (Nat.le_of_ble_eq_true rfl)) h_r76) ?_
                      refine eg_istore [some (.retAddr 0), some (.ref 0), some (.ref 128), some (.ref 137), some (.int s.1), some (.int r75.1), some (.int r76.1)] r76.1 dL_law_735 rfl (Nat.le_of_ble_eq_true rfl) rfl ?_
                      refine pg_aload_n dL_law_737 rfl ?_
                      obtain ⟨r77, h_r77, h⟩ := bd_at h
                      refine eg_lVi (C := mX12_thrown) (as := []) dL_law_738 mw1111 cv_X12_thrown hS sp128 (Nat.le_of_ble_eq_true rfl) (Nat.le_of_ble_eq_true rfl) rfl rfl rfl (Nat.le_of_ble_eq_true rfl) rfl ⟨(Nat.le_of_ble_eq_true rfl), (Nat.le_of_ble_eq_true rfl)⟩ hk (ct_X12_thrown hfl (hS.sub (Nat.le_of_ble_eq_true rfl) (Nat.le_of_ble_eq_true rfl)) h_r77) ?_
                      refine pg_iload dL_law_741 rfl ?_
                      refine pg_icmp_eq 748 dL_law_743 (by decide) (fun c78 => ?_) (fun c78 => ?_)
                      · rw [if_pos c78] at h
                        refine pg_iload dL_law_748 rfl ?_
                        refine pg_if_ne 765 dL_law_750 (by decide) (fun c79 => ?_) (fun c79 => ?_)
                        · rw [if_neg c79] at h
                          refine pg_goto 1563 dL_law_765 (by decide) ?_
                          obtain ⟨w80, e_w80⟩ : ∃ z : Int32, z = s.1 + 4 := ⟨_, rfl⟩
                          replace h := lt_at h e_w80
                          refine eg_iinc [some (.retAddr 0), some (.ref 0), some (.ref 128), some (.ref 137), some (.int w80), some (.int r75.1), some (.int r76.1)] w80 4 dL_law_1563 rfl rfl e_w80 rfl ?_
                          refine pg_goto 23 dL_law_1566 (by decide) ?_
                          obtain rfl := Option.some.inj h
                          refine eg_forget [some (.retAddr 0), some (.ref 0), some (.ref 128), some (.ref 137), some (.int w80), none, none] (show pm_sub _ _ from ⟨rfl, ⟨rfl, ⟨rfl, ⟨rfl, ⟨rfl, trivial⟩⟩⟩⟩⟩) ?_
                          exact hN _ rfl
                        · rw [if_pos c79] at h
                          refine pg_aload_n dL_law_753 rfl ?_
                          refine pg_iconst 0 dL_law_754 rfl ?_
                          refine eg_laldJ 0 dL_law_755 hS sp137 (Nat.le_of_ble_eq_true rfl) (Nat.le_of_ble_eq_true rfl) rfl (inR_vp rfl) rfl ?_
                          refine pg_iload dL_law_756 rfl ?_
                          refine pg_i2l dL_law_758 ?_
                          refine pg_lcmp dL_law_759 ?_
                          refine pg_if_eq 765 dL_law_760 (by decide) (fun c81 => ?_) (fun c81 => ?_)
                          · rw [if_pos c81] at h
                            refine pg_goto 1563 dL_law_765 (by decide) ?_
                            obtain ⟨w82, e_w82⟩ : ∃ z : Int32, z = s.1 + 4 := ⟨_, rfl⟩
                            replace h := lt_at h e_w82
                            refine eg_iinc [some (.retAddr 0), some (.ref 0), some (.ref 128), some (.ref 137), some (.int w82), some (.int r75.1), some (.int r76.1)] w82 4 dL_law_1563 rfl rfl e_w82 rfl ?_
                            refine pg_goto 23 dL_law_1566 (by decide) ?_
                            obtain rfl := Option.some.inj h
                            refine eg_forget [some (.retAddr 0), some (.ref 0), some (.ref 128), some (.ref 137), some (.int w82), none, none] (show pm_sub _ _ from ⟨rfl, ⟨rfl, ⟨rfl, ⟨rfl, ⟨rfl, trivial⟩⟩⟩⟩⟩) ?_
                            exact hN _ rfl
                          · rw [if_neg c81] at h
                            refine pg_iconst 0 dL_law_763 rfl ?_
                            obtain rfl := Option.some.inj h
                            exact ((hT _ rfl).2 _ rfl).elim
                      · rw [if_neg c78] at h
                        refine pg_iconst 0 dL_law_746 rfl ?_
                        obtain rfl := Option.some.inj h
                        exact ((hT _ rfl).2 _ rfl).elim
                    · rw [if_neg c74] at h
                      by_cases c83 : (g.2.2.2.2.1.2 s.1.toNatClampNeg) &&& 31 = 9
                      · rw [if_pos c83] at h
                        refine pg_tabIn (off := 729) 768 dL_law_39 (by rw [c83]; decide) (by rw [c83]; decide) (by rw [c83]; decide) (by decide) ?_
                        refine pg_aload_n dL_law_768 rfl ?_
                        refine pg_aloadX_n dL_law_769 rfl ?_
                        refine pg_iload dL_law_770 rfl ?_
                        refine pg_iconst 1 dL_law_772 rfl ?_
                        refine pg_iadd dL_law_773 ?_
                        obtain ⟨g1, h⟩ := gd_at h
                        refine pg_sld dL_law_774 (inR_vp g1) ?_
                        refine pg_aload_n dL_law_775 rfl ?_
                        obtain ⟨r84, h_r84, h⟩ := bd_at h
                        refine eg_cHi (C := mL_tick) (as := [(.ref 0), (.int (g.2.2.2.2.1.2 (s.1 + 1).toNatClampNeg)), (.ref 137)]) dL_law_776 mw1188 my_L_tick mw1191 rfl rfl rfl (Nat.le_of_ble_eq_true rfl) rfl ⟨(Nat.le_of_ble_eq_true rfl), (Nat.le_of_ble_eq_true rfl)⟩ hk (ch_tick hfl hS h_r84) ?_
                        refine eg_istore [some (.retAddr 0), some (.ref 0), some (.ref 128), some (.ref 137), some (.int s.1), some (.int r84.1), none] r84.1 dL_law_779 rfl (Nat.le_of_ble_eq_true rfl) rfl ?_
                        refine pg_aload_n dL_law_781 rfl ?_
                        refine pg_aloadX_n dL_law_782 rfl ?_
                        refine pg_iload dL_law_783 rfl ?_
                        refine pg_iconst 1 dL_law_785 rfl ?_
                        refine pg_iadd dL_law_786 ?_
                        obtain ⟨g1, h⟩ := gd_at h
                        refine pg_sld dL_law_787 (inR_vp g1) ?_
                        obtain ⟨r85, h_r85, h⟩ := bd_at h
                        refine eg_lVi (C := mX12_tick) (as := [(.int (g.2.2.2.2.1.2 (s.1 + 1).toNatClampNeg))]) dL_law_788 mw1192 cv_X12_tick hS sp128 (Nat.le_of_ble_eq_true rfl) (Nat.le_of_ble_eq_true rfl) rfl rfl rfl (Nat.le_of_ble_eq_true rfl) rfl ⟨(Nat.le_of_ble_eq_true rfl), (Nat.le_of_ble_eq_true rfl)⟩ hk (ct_X12_tick hfl (hS.sub (Nat.le_of_ble_eq_true rfl) (Nat.le_of_ble_eq_true rfl)) h_r85) ?_
                        refine eg_istore [some (.retAddr 0), some (.ref 0), some (.ref 128), some (.ref 137), some (.int s.1), some (.int r84.1), some (.int r85.1)] r85.1 dL_law_791 rfl (Nat.le_of_ble_eq_true rfl) rfl ?_
                        refine pg_aload_n dL_law_793 rfl ?_
                        obtain ⟨r86, h_r86, h⟩ := bd_at h
                        refine eg_lVi (C := mX12_thrown) (as := []) dL_law_794 mw1111 cv_X12_thrown hS sp128 (Nat.le_of_ble_eq_true rfl) (Nat.le_of_ble_eq_true rfl) rfl rfl rfl (Nat.le_of_ble_eq_true rfl) rfl ⟨(Nat.le_of_ble_eq_true rfl), (Nat.le_of_ble_eq_true rfl)⟩ hk (ct_X12_thrown hfl (hS.sub (Nat.le_of_ble_eq_true rfl) (Nat.le_of_ble_eq_true rfl)) h_r86) ?_
                        refine pg_iload dL_law_797 rfl ?_
                        refine pg_icmp_eq 804 dL_law_799 (by decide) (fun c87 => ?_) (fun c87 => ?_)
                        · rw [if_pos c87] at h
                          refine pg_iload dL_law_804 rfl ?_
                          refine pg_if_ne 821 dL_law_806 (by decide) (fun c88 => ?_) (fun c88 => ?_)
                          · rw [if_neg c88] at h
                            refine pg_goto 1563 dL_law_821 (by decide) ?_
                            obtain ⟨w89, e_w89⟩ : ∃ z : Int32, z = s.1 + 4 := ⟨_, rfl⟩
                            replace h := lt_at h e_w89
                            refine eg_iinc [some (.retAddr 0), some (.ref 0), some (.ref 128), some (.ref 137), some (.int w89), some (.int r84.1), some (.int r85.1)] w89 4 dL_law_1563 rfl rfl e_w89 rfl ?_
                            refine pg_goto 23 dL_law_1566 (by decide) ?_
                            obtain rfl := Option.some.inj h
                            refine eg_forget [some (.retAddr 0), some (.ref 0), some (.ref 128), some (.ref 137), some (.int w89), none, none] (show pm_sub _ _ from ⟨rfl, ⟨rfl, ⟨rfl, ⟨rfl, ⟨rfl, trivial⟩⟩⟩⟩⟩) ?_
                            exact hN _ rfl
                          · rw [if_pos c88] at h
                            refine pg_aload_n dL_law_809 rfl ?_
                            refine pg_iconst 0 dL_law_810 rfl ?_
                            refine eg_laldJ 0 dL_law_811 hS sp137 (Nat.le_of_ble_eq_true rfl) (Nat.le_of_ble_eq_true rfl) rfl (inR_vp rfl) rfl ?_
                            refine pg_iload dL_law_812 rfl ?_
                            refine pg_i2l dL_law_814 ?_
                            refine pg_lcmp dL_law_815 ?_
                            refine pg_if_eq 821 dL_law_816 (by decide) (fun c90 => ?_) (fun c90 => ?_)
                            · rw [if_pos c90] at h
                              refine pg_goto 1563 dL_law_821 (by decide) ?_
                              obtain ⟨w91, e_w91⟩ : ∃ z : Int32, z = s.1 + 4 := ⟨_, rfl⟩
                              replace h := lt_at h e_w91
                              refine eg_iinc [some (.retAddr 0), some (.ref 0), some (.ref 128), some (.ref 137), some (.int w91), some (.int r84.1), some (.int r85.1)] w91 4 dL_law_1563 rfl rfl e_w91 rfl ?_
                              refine pg_goto 23 dL_law_1566 (by decide) ?_
                              obtain rfl := Option.some.inj h
                              refine eg_forget [some (.retAddr 0), some (.ref 0), some (.ref 128), some (.ref 137), some (.int w91), none, none] (show pm_sub _ _ from ⟨rfl, ⟨rfl, ⟨rfl, ⟨rfl, ⟨rfl, trivial⟩⟩⟩⟩⟩) ?_
                              exact hN _ rfl
                            · rw [if_neg c90] at h
                              refine pg_iconst 0 dL_law_819 rfl ?_
                              obtain rfl := Option.some.inj h
                              exact ((hT _ rfl).2 _ rfl).elim
                        · rw [if_neg c87] at h
                          refine pg_iconst 0 dL_law_802 rfl ?_
                          obtain rfl := Option.some.inj h
                          exact ((hT _ rfl).2 _ rfl).elim
                      · rw [if_neg c83] at h
                        by_cases c92 : (g.2.2.2.2.1.2 s.1.toNatClampNeg) &&& 31 = 10
                        · rw [if_pos c92] at h
                          refine pg_tabIn (off := 785) 824 dL_law_39 (by rw [c92]; decide) (by rw [c92]; decide) (by rw [c92]; decide) (by decide) ?_
                          refine pg_aload_n dL_law_824 rfl ?_
                          obtain ⟨r93, h_r93, h⟩ := bd_at h
                          refine eg_lVi (C := mX11_time) (as := []) dL_law_825 mw1197 cv_X11_time hS sp0 (Nat.le_of_ble_eq_true rfl) (Nat.le_of_ble_eq_true rfl) rfl rfl rfl (Nat.le_of_ble_eq_true rfl) rfl ⟨(Nat.le_of_ble_eq_true rfl), (Nat.le_of_ble_eq_true rfl)⟩ hk0 (ct_X11_time hfl (hS.sub (Nat.le_of_ble_eq_true rfl) (Nat.le_of_ble_eq_true rfl)) h_r93) ?_
                          refine pg_aload_n dL_law_828 rfl ?_
                          obtain ⟨r94, h_r94, h⟩ := bd_at h
                          refine eg_lVi (C := mX12_time) (as := []) dL_law_829 mw1202 cv_X12_time hS sp128 (Nat.le_of_ble_eq_true rfl) (Nat.le_of_ble_eq_true rfl) rfl rfl rfl (Nat.le_of_ble_eq_true rfl) rfl ⟨(Nat.le_of_ble_eq_true rfl), (Nat.le_of_ble_eq_true rfl)⟩ hk0 (ct_X12_time hfl (hS.sub (Nat.le_of_ble_eq_true rfl) (Nat.le_of_ble_eq_true rfl)) h_r94) ?_
                          refine pg_icmp_eq 1563 dL_law_832 (by decide) (fun c95 => ?_) (fun c95 => ?_)
                          · rw [if_pos c95] at h
                            obtain ⟨w96, e_w96⟩ : ∃ z : Int32, z = s.1 + 4 := ⟨_, rfl⟩
                            replace h := lt_at h e_w96
                            refine eg_iinc [some (.retAddr 0), some (.ref 0), some (.ref 128), some (.ref 137), some (.int w96), none, none] w96 4 dL_law_1563 rfl rfl e_w96 rfl ?_
                            refine pg_goto 23 dL_law_1566 (by decide) ?_
                            obtain rfl := Option.some.inj h
                            refine pg_widen (k' := k + 1) (n' := n + 6) (Nat.le_add_right _ _) (Nat.le_add_right _ _) ?_
                            exact hN _ rfl
                          · rw [if_neg c95] at h
                            refine pg_iconst 0 dL_law_835 rfl ?_
                            obtain rfl := Option.some.inj h
                            exact ((hT _ rfl).2 _ rfl).elim
                        · rw [if_neg c92] at h
                          by_cases c97 : (g.2.2.2.2.1.2 s.1.toNatClampNeg) &&& 31 = 11
                          · rw [if_pos c97] at h
                            refine pg_tabIn (off := 798) 837 dL_law_39 (by rw [c97]; decide) (by rw [c97]; decide) (by rw [c97]; decide) (by decide) ?_
                            refine pg_aload_n dL_law_837 rfl ?_
                            refine pg_aloadX_n dL_law_838 rfl ?_
                            refine pg_iload dL_law_839 rfl ?_
                            refine pg_iconst 1 dL_law_841 rfl ?_
                            refine pg_iadd dL_law_842 ?_
                            obtain ⟨g1, h⟩ := gd_at h
                            refine pg_sld dL_law_843 (inR_vp g1) ?_
                            refine pg_aloadX_n dL_law_844 rfl ?_
                            refine pg_iload dL_law_845 rfl ?_
                            refine pg_iconst 2 dL_law_847 rfl ?_
                            refine pg_iadd dL_law_848 ?_
                            obtain ⟨g1, h⟩ := gd_at h
                            refine pg_sld dL_law_849 (inR_vp g1) ?_
                            refine pg_aload_n dL_law_850 rfl ?_
                            obtain ⟨r98, h_r98, h⟩ := bd_at h
                            refine eg_cHi (C := mL_send) (as := [(.ref 0), (.int (g.2.2.2.2.1.2 (s.1 + 1).toNatClampNeg)), (.int (g.2.2.2.2.1.2 (s.1 + 2).toNatClampNeg)), (.ref 137)]) dL_law_851 mw1207 my_L_send mw1210 rfl rfl rfl (Nat.le_of_ble_eq_true rfl) rfl ⟨(Nat.le_of_ble_eq_true rfl), (Nat.le_of_ble_eq_true rfl)⟩ hk (ch_send hfl hS h_r98) ?_
                            refine eg_istore [some (.retAddr 0), some (.ref 0), some (.ref 128), some (.ref 137), some (.int s.1), some (.int r98.1), none] r98.1 dL_law_854 rfl (Nat.le_of_ble_eq_true rfl) rfl ?_
                            refine pg_aload_n dL_law_856 rfl ?_
                            refine pg_aloadX_n dL_law_857 rfl ?_
                            refine pg_iload dL_law_858 rfl ?_
                            refine pg_iconst 1 dL_law_860 rfl ?_
                            refine pg_iadd dL_law_861 ?_
                            obtain ⟨g1, h⟩ := gd_at h
                            refine pg_sld dL_law_862 (inR_vp g1) ?_
                            refine pg_aloadX_n dL_law_863 rfl ?_
                            refine pg_iload dL_law_864 rfl ?_
                            refine pg_iconst 2 dL_law_866 rfl ?_
                            refine pg_iadd dL_law_867 ?_
                            obtain ⟨g1, h⟩ := gd_at h
                            refine pg_sld dL_law_868 (inR_vp g1) ?_
                            obtain ⟨r99, h_r99, h⟩ := bd_at h
                            refine eg_lVi (C := mX12_send) (as := [(.int (g.2.2.2.2.1.2 (s.1 + 1).toNatClampNeg)), (.int (g.2.2.2.2.1.2 (s.1 + 2).toNatClampNeg))]) dL_law_869 mw1211 cv_X12_send hS sp128 (Nat.le_of_ble_eq_true rfl) (Nat.le_of_ble_eq_true rfl) rfl rfl rfl (Nat.le_of_ble_eq_true rfl) rfl ⟨(Nat.le_of_ble_eq_true rfl), (Nat.le_of_ble_eq_true rfl)⟩ hk (ct_X12_send hfl (hS.sub (Nat.le_of_ble_eq_true rfl) (Nat.le_of_ble_eq_true rfl)) h_r99) ?_
                            refine eg_istore [some (.retAddr 0), some (.ref 0), some (.ref 128), some (.ref 137), some (.int s.1), some (.int r98.1), some (.int r99.1)] r99.1 dL_law_872 rfl (Nat.le_of_ble_eq_true rfl) rfl ?_
                            refine pg_aload_n dL_law_874 rfl ?_
                            obtain ⟨r100, h_r100, h⟩ := bd_at h
                            refine eg_lVi (C := mX12_thrown) (as := []) dL_law_875 mw1111 cv_X12_thrown hS sp128 (Nat.le_of_ble_eq_true rfl) (Nat.le_of_ble_eq_true rfl) rfl rfl rfl (Nat.le_of_ble_eq_true rfl) rfl ⟨(Nat.le_of_ble_eq_true rfl), (Nat.le_of_ble_eq_true rfl)⟩ hk (ct_X12_thrown hfl (hS.sub (Nat.le_of_ble_eq_true rfl) (Nat.le_of_ble_eq_true rfl)) h_r100) ?_
                            refine pg_iload dL_law_878 rfl ?_
                            refine pg_icmp_eq 885 dL_law_880 (by decide) (fun c101 => ?_) (fun c101 => ?_)
                            · rw [if_pos c101] at h
                              refine pg_iload dL_law_885 rfl ?_
                              refine pg_if_ne 902 dL_law_887 (by decide) (fun c102 => ?_) (fun c102 => ?_)
                              · rw [if_neg c102] at h
                                refine pg_goto 1563 dL_law_902 (by decide) ?_
                                obtain ⟨w103, e_w103⟩ : ∃ z : Int32, z = s.1 + 4 := ⟨_, rfl⟩
                                replace h := lt_at h e_w103
                                refine eg_iinc [some (.retAddr 0), some (.ref 0), some (.ref 128), some (.ref 137), some (.int w103), some (.int r98.1), some (.int r99.1)] w103 4 dL_law_1563 rfl rfl e_w103 rfl ?_
                                refine pg_goto 23 dL_law_1566 (by decide) ?_
                                obtain rfl := Option.some.inj h
                                refine eg_forget [some (.retAddr 0), some (.ref 0), some (.ref 128), some (.ref 137), some (.int w103), none, none] (show pm_sub _ _ from ⟨rfl, ⟨rfl, ⟨rfl, ⟨rfl, ⟨rfl, trivial⟩⟩⟩⟩⟩) ?_
                                exact hN _ rfl
                              · rw [if_pos c102] at h
                                refine pg_aload_n dL_law_890 rfl ?_
                                refine pg_iconst 0 dL_law_891 rfl ?_
                                refine eg_laldJ 0 dL_law_892 hS sp137 (Nat.le_of_ble_eq_true rfl) (Nat.le_of_ble_eq_true rfl) rfl (inR_vp rfl) rfl ?_
                                refine pg_iload dL_law_893 rfl ?_
                                refine pg_i2l dL_law_895 ?_
                                refine pg_lcmp dL_law_896 ?_
                                refine pg_if_eq 902 dL_law_897 (by decide) (fun c104 => ?_) (fun c104 => ?_)
                                · rw [if_pos c104] at h
                                  refine pg_goto 1563 dL_law_902 (by decide) ?_
                                  obtain ⟨w105, e_w105⟩ : ∃ z : Int32, z = s.1 + 4 := ⟨_, rfl⟩
                                  replace h := lt_at h e_w105
                                  refine eg_iinc [some (.retAddr 0), some (.ref 0), some (.ref 128), some (.ref 137), some (.int w105), some (.int r98.1), some (.int r99.1)] w105 4 dL_law_1563 rfl rfl e_w105 rfl ?_
                                  refine pg_goto 23 dL_law_1566 (by decide) ?_
                                  obtain rfl := Option.some.inj h
                                  refine eg_forget [some (.retAddr 0), some (.ref 0), some (.ref 128), some (.ref 137), some (.int w105), none, none] (show pm_sub _ _ from ⟨rfl, ⟨rfl, ⟨rfl, ⟨rfl, ⟨rfl, trivial⟩⟩⟩⟩⟩) ?_
                                  exact hN _ rfl
                                · rw [if_neg c104] at h
                                  refine pg_iconst 0 dL_law_900 rfl ?_
                                  obtain rfl := Option.some.inj h
                                  exact ((hT _ rfl).2 _ rfl).elim
                            · rw [if_neg c101] at h
                              refine pg_iconst 0 dL_law_883 rfl ?_
                              obtain rfl := Option.some.inj h
                              exact ((hT _ rfl).2 _ rfl).elim
                          · rw [if_neg c97] at h
                            by_cases c106 : (g.2.2.2.2.1.2 s.1.toNatClampNeg) &&& 31 = 12
                            · rw [if_pos c106] at h
                              refine pg_tabIn (off := 866) 905 dL_law_39 (by rw [c106]; decide) (by rw [c106]; decide) (by rw [c106]; decide) (by decide) ?_
                              refine pg_aload_n dL_law_905 rfl ?_
                              refine pg_aloadX_n dL_law_906 rfl ?_
                              refine pg_iload dL_law_907 rfl ?_
                              refine pg_iconst 1 dL_law_909 rfl ?_
                              refine pg_iadd dL_law_910 ?_
                              obtain ⟨g1, h⟩ := gd_at h
                              refine pg_sld dL_law_911 (inR_vp g1) ?_
                              refine pg_aloadX_n dL_law_912 rfl ?_
                              refine pg_iload dL_law_913 rfl ?_
                              refine pg_iconst 2 dL_law_915 rfl ?_
                              refine pg_iadd dL_law_916 ?_
                              obtain ⟨g1, h⟩ := gd_at h
                              refine pg_sld dL_law_917 (inR_vp g1) ?_
                              refine pg_aload_n dL_law_918 rfl ?_
                              obtain ⟨r107, h_r107, h⟩ := bd_at h
                              refine eg_cHi (C := mL_bridge) (as := [(.ref 0), (.int (g.2.2.2.2.1.2 (s.1 + 1).toNatClampNeg)), (.int (g.2.2.2.2.1.2 (s.1 + 2).toNatClampNeg)), (.ref 137)]) dL_law_919 mw1216 my_L_bridge mw1219 rfl rfl rfl (Nat.le_of_ble_eq_true rfl) rfl ⟨(Nat.le_of_ble_eq_true rfl), (Nat.le_of_ble_eq_true rfl)⟩ hk (ch_bridge hfl hS h_r107) ?_
                              refine eg_istore [some (.retAddr 0), some (.ref 0), some (.ref 128), some (.ref 137), some (.int s.1), some (.int r107.1), none] r107.1 dL_law_922 rfl (Nat.le_of_ble_eq_true rfl) rfl ?_
                              refine pg_aload_n dL_law_924 rfl ?_
                              refine pg_aloadX_n dL_law_925 rfl ?_
                              refine pg_iload dL_law_926 rfl ?_
                              refine pg_iconst 1 dL_law_928 rfl ?_
                              refine pg_iadd dL_law_929 ?_
                              obtain ⟨g1, h⟩ := gd_at h
                              refine pg_sld dL_law_930 (inR_vp g1) ?_
                              refine pg_aloadX_n dL_law_931 rfl ?_
                              refine pg_iload dL_law_932 rfl ?_
                              refine pg_iconst 2 dL_law_934 rfl ?_
                              refine pg_iadd dL_law_935 ?_
                              obtain ⟨g1, h⟩ := gd_at h
                              refine pg_sld dL_law_936 (inR_vp g1) ?_
                              obtain ⟨r108, h_r108, h⟩ := bd_at h
                              refine eg_lVi (C := mX12_bridge) (as := [(.int (g.2.2.2.2.1.2 (s.1 + 1).toNatClampNeg)), (.int (g.2.2.2.2.1.2 (s.1 + 2).toNatClampNeg))]) dL_law_937 mw1220 cv_X12_bridge hS sp128 (Nat.le_of_ble_eq_true rfl) (Nat.le_of_ble_eq_true rfl) rfl rfl rfl (Nat.le_of_ble_eq_true rfl) rfl ⟨(Nat.le_of_ble_eq_true rfl), (Nat.le_of_ble_eq_true rfl)⟩ hk (ct_X12_bridge hfl (hS.sub (Nat.le_of_ble_eq_true rfl) (Nat.le_of_ble_eq_true rfl)) h_r108) ?_
                              refine eg_istore [some (.retAddr 0), some (.ref 0), some (.ref 128), some (.ref 137), some (.int s.1), some (.int r107.1), some (.int r108.1)] r108.1 dL_law_940 rfl (Nat.le_of_ble_eq_true rfl) rfl ?_
                              refine pg_aload_n dL_law_942 rfl ?_
                              obtain ⟨r109, h_r109, h⟩ := bd_at h
                              refine eg_lVi (C := mX12_thrown) (as := []) dL_law_943 mw1111 cv_X12_thrown hS sp128 (Nat.le_of_ble_eq_true rfl) (Nat.le_of_ble_eq_true rfl) rfl rfl rfl (Nat.le_of_ble_eq_true rfl) rfl ⟨(Nat.le_of_ble_eq_true rfl), (Nat.le_of_ble_eq_true rfl)⟩ hk (ct_X12_thrown hfl (hS.sub (Nat.le_of_ble_eq_true rfl) (Nat.le_of_ble_eq_true rfl)) h_r109) ?_
                              refine pg_iload dL_law_946 rfl ?_
                              refine pg_icmp_eq 953 dL_law_948 (by decide) (fun c110 => ?_) (fun c110 => ?_)
                              · rw [if_pos c110] at h
                                refine pg_iload dL_law_953 rfl ?_
                                refine pg_if_ne 970 dL_law_955 (by decide) (fun c111 => ?_) (fun c111 => ?_)
                                · rw [if_neg c111] at h
                                  refine pg_goto 1563 dL_law_970 (by decide) ?_
                                  obtain ⟨w112, e_w112⟩ : ∃ z : Int32, z = s.1 + 4 := ⟨_, rfl⟩
                                  replace h := lt_at h e_w112
                                  refine eg_iinc [some (.retAddr 0), some (.ref 0), some (.ref 128), some (.ref 137), some (.int w112), some (.int r107.1), some (.int r108.1)] w112 4 dL_law_1563 rfl rfl e_w112 rfl ?_
                                  refine pg_goto 23 dL_law_1566 (by decide) ?_
                                  obtain rfl := Option.some.inj h
                                  refine eg_forget [some (.retAddr 0), some (.ref 0), some (.ref 128), some (.ref 137), some (.int w112), none, none] (show pm_sub _ _ from ⟨rfl, ⟨rfl, ⟨rfl, ⟨rfl, ⟨rfl, trivial⟩⟩⟩⟩⟩) ?_
                                  exact hN _ rfl
                                · rw [if_pos c111] at h
                                  refine pg_aload_n dL_law_958 rfl ?_
                                  refine pg_iconst 0 dL_law_959 rfl ?_
                                  refine eg_laldJ 0 dL_law_960 hS sp137 (Nat.le_of_ble_eq_true rfl) (Nat.le_of_ble_eq_true rfl) rfl (inR_vp rfl) rfl ?_
                                  refine pg_iload dL_law_961 rfl ?_
                                  refine pg_i2l dL_law_963 ?_
                                  refine pg_lcmp dL_law_964 ?_
                                  refine pg_if_eq 970 dL_law_965 (by decide) (fun c113 => ?_) (fun c113 => ?_)
                                  · rw [if_pos c113] at h
                                    refine pg_goto 1563 dL_law_970 (by decide) ?_
                                    obtain ⟨w114, e_w114⟩ : ∃ z : Int32, z = s.1 + 4 := ⟨_, rfl⟩
                                    replace h := lt_at h e_w114
                                    refine eg_iinc [some (.retAddr 0), some (.ref 0), some (.ref 128), some (.ref 137), some (.int w114), some (.int r107.1), some (.int r108.1)] w114 4 dL_law_1563 rfl rfl e_w114 rfl ?_
                                    refine pg_goto 23 dL_law_1566 (by decide) ?_
                                    obtain rfl := Option.some.inj h
                                    refine eg_forget [some (.retAddr 0), some (.ref 0), some (.ref 128), some (.ref 137), some (.int w114), none, none] (show pm_sub _ _ from ⟨rfl, ⟨rfl, ⟨rfl, ⟨rfl, ⟨rfl, trivial⟩⟩⟩⟩⟩) ?_
                                    exact hN _ rfl
                                  · rw [if_neg c113] at h
                                    refine pg_iconst 0 dL_law_968 rfl ?_
                                    obtain rfl := Option.some.inj h
                                    exact ((hT _ rfl).2 _ rfl).elim
                              · rw [if_neg c110] at h
                                refine pg_iconst 0 dL_law_951 rfl ?_
                                obtain rfl := Option.some.inj h
                                exact ((hT _ rfl).2 _ rfl).elim
                            · rw [if_neg c106] at h
                              by_cases c115 : (g.2.2.2.2.1.2 s.1.toNatClampNeg) &&& 31 = 13
                              · rw [if_pos c115] at h
                                refine pg_tabIn (off := 934) 973 dL_law_39 (by rw [c115]; decide) (by rw [c115]; decide) (by rw [c115]; decide) (by decide) ?_
                                refine pg_aload_n dL_law_973 rfl ?_
                                obtain ⟨r116, h_r116, h⟩ := bd_at h
                                refine eg_lVi (C := mX11_links) (as := []) dL_law_974 mw1225 cv_X11_links hS sp0 (Nat.le_of_ble_eq_true rfl) (Nat.le_of_ble_eq_true rfl) rfl rfl rfl (Nat.le_of_ble_eq_true rfl) rfl ⟨(Nat.le_of_ble_eq_true rfl), (Nat.le_of_ble_eq_true rfl)⟩ hk0 (ct_X11_links hfl (hS.sub (Nat.le_of_ble_eq_true rfl) (Nat.le_of_ble_eq_true rfl)) h_r116) ?_
                                refine pg_aload_n dL_law_977 rfl ?_
                                obtain ⟨r117, h_r117, h⟩ := bd_at h
                                refine eg_lVi (C := mX12_links) (as := []) dL_law_978 mw1230 cv_X12_links hS sp128 (Nat.le_of_ble_eq_true rfl) (Nat.le_of_ble_eq_true rfl) rfl rfl rfl (Nat.le_of_ble_eq_true rfl) rfl ⟨(Nat.le_of_ble_eq_true rfl), (Nat.le_of_ble_eq_true rfl)⟩ hk0 (ct_X12_links hfl (hS.sub (Nat.le_of_ble_eq_true rfl) (Nat.le_of_ble_eq_true rfl)) h_r117) ?_
                                refine pg_icmp_eq 1563 dL_law_981 (by decide) (fun c118 => ?_) (fun c118 => ?_)
                                · rw [if_pos c118] at h
                                  obtain ⟨w119, e_w119⟩ : ∃ z : Int32, z = s.1 + 4 := ⟨_, rfl⟩
                                  replace h := lt_at h e_w119
                                  refine eg_iinc [some (.retAddr 0), some (.ref 0), some (.ref 128), some (.ref 137), some (.int w119), none, none] w119 4 dL_law_1563 rfl rfl e_w119 rfl ?_
                                  refine pg_goto 23 dL_law_1566 (by decide) ?_
                                  obtain rfl := Option.some.inj h
                                  refine pg_widen (k' := k + 1) (n' := n + 6) (Nat.le_add_right _ _) (Nat.le_add_right _ _) ?_
                                  exact hN _ rfl
                                · rw [if_neg c118] at h
                                  refine pg_iconst 0 dL_law_984 rfl ?_
                                  obtain rfl := Option.some.inj h
                                  exact ((hT _ rfl).2 _ rfl).elim
                              · rw [if_neg c115] at h
                                by_cases c120 : (g.2.2.2.2.1.2 s.1.toNatClampNeg) &&& 31 = 14
                                · rw [if_pos c120] at h
                                  refine pg_tabIn (off := 947) 986 dL_law_39 (by rw [c120]; decide) (by rw [c120]; decide) (by rw [c120]; decide) (by decide) ?_
                                  refine pg_aload_n dL_law_986 rfl ?_
                                  refine pg_aloadX_n dL_law_987 rfl ?_
                                  refine pg_iload dL_law_988 rfl ?_
                                  refine pg_iconst 1 dL_law_990 rfl ?_
                                  refine pg_iadd dL_law_991 ?_
                                  obtain ⟨g1, h⟩ := gd_at h
                                  refine pg_sld dL_law_992 (inR_vp g1) ?_
                                  refine pg_aloadX_n dL_law_993 rfl ?_
                                  refine pg_iload dL_law_994 rfl ?_
                                  refine pg_iconst 2 dL_law_996 rfl ?_
                                  refine pg_iadd dL_law_997 ?_
                                  obtain ⟨g1, h⟩ := gd_at h
                                  refine pg_sld dL_law_998 (inR_vp g1) ?_
                                  refine pg_aload_n dL_law_999 rfl ?_
                                  obtain ⟨r121, h_r121, h⟩ := bd_at h
                                  refine eg_cHi (C := mL_link) (as := [(.ref 0), (.int (g.2.2.2.2.1.2 (s.1 + 1).toNatClampNeg)), (.int (g.2.2.2.2.1.2 (s.1 + 2).toNatClampNeg)), (.ref 137)]) dL_law_1000 mw1235 my_L_link mw1238 rfl rfl rfl (Nat.le_of_ble_eq_true rfl) rfl ⟨(Nat.le_of_ble_eq_true rfl), (Nat.le_of_ble_eq_true rfl)⟩ hk (ch_link hfl hS h_r121) ?_
                                  refine eg_istore [some (.retAddr 0), some (.ref 0), some (.ref 128), some (.ref 137), some (.int s.1), some (.int r121.1), none] r121.1 dL_law_1003 rfl (Nat.le_of_ble_eq_true rfl) rfl ?_
                                  refine pg_aload_n dL_law_1005 rfl ?_
                                  refine pg_aloadX_n dL_law_1006 rfl ?_
                                  refine pg_iload dL_law_1007 rfl ?_
                                  refine pg_iconst 1 dL_law_1009 rfl ?_
                                  refine pg_iadd dL_law_1010 ?_
                                  obtain ⟨g1, h⟩ := gd_at h
                                  refine pg_sld dL_law_1011 (inR_vp g1) ?_
                                  refine pg_aloadX_n dL_law_1012 rfl ?_
                                  refine pg_iload dL_law_1013 rfl ?_
                                  refine pg_iconst 2 dL_law_1015 rfl ?_
                                  refine pg_iadd dL_law_1016 ?_
                                  obtain ⟨g1, h⟩ := gd_at h
                                  refine pg_sld dL_law_1017 (inR_vp g1) ?_
                                  obtain ⟨r122, h_r122, h⟩ := bd_at h
                                  refine eg_lVi (C := mX12_link) (as := [(.int (g.2.2.2.2.1.2 (s.1 + 1).toNatClampNeg)), (.int (g.2.2.2.2.1.2 (s.1 + 2).toNatClampNeg))]) dL_law_1018 mw1239 cv_X12_link hS sp128 (Nat.le_of_ble_eq_true rfl) (Nat.le_of_ble_eq_true rfl) rfl rfl rfl (Nat.le_of_ble_eq_true rfl) rfl ⟨(Nat.le_of_ble_eq_true rfl), (Nat.le_of_ble_eq_true rfl)⟩ hk (ct_X12_link hfl (hS.sub (Nat.le_of_ble_eq_true rfl) (Nat.le_of_ble_eq_true rfl)) h_r122) ?_
                                  refine eg_istore [some (.retAddr 0), some (.ref 0), some (.ref 128), some (.ref 137), some (.int s.1), some (.int r121.1), some (.int r122.1)] r122.1 dL_law_1021 rfl (Nat.le_of_ble_eq_true rfl) rfl ?_
                                  refine pg_aload_n dL_law_1023 rfl ?_
                                  obtain ⟨r123, h_r123, h⟩ := bd_at h
                                  refine eg_lVi (C := mX12_thrown) (as := []) dL_law_1024 mw1111 cv_X12_thrown hS sp128 (Nat.le_of_ble_eq_true rfl) (Nat.le_of_ble_eq_true rfl) rfl rfl rfl (Nat.le_of_ble_eq_true rfl) rfl ⟨(Nat.le_of_ble_eq_true rfl), (Nat.le_of_ble_eq_true rfl)⟩ hk (ct_X12_thrown hfl (hS.sub (Nat.le_of_ble_eq_true rfl) (Nat.le_of_ble_eq_true rfl)) h_r123) ?_
                                  refine pg_iload dL_law_1027 rfl ?_
                                  refine pg_icmp_eq 1034 dL_law_1029 (by decide) (fun c124 => ?_) (fun c124 => ?_)
                                  · rw [if_pos c124] at h
                                    refine pg_iload dL_law_1034 rfl ?_
                                    refine pg_if_ne 1051 dL_law_1036 (by decide) (fun c125 => ?_) (fun c125 => ?_)
                                    · rw [if_neg c125] at h
                                      refine pg_goto 1563 dL_law_1051 (by decide) ?_
                                      obtain ⟨w126, e_w126⟩ : ∃ z : Int32, z = s.1 + 4 := ⟨_, rfl⟩
                                      replace h := lt_at h e_w126
                                      refine eg_iinc [some (.retAddr 0), some (.ref 0), some (.ref 128), some (.ref 137), some (.int w126), some (.int r121.1), some (.int r122.1)] w126 4 dL_law_1563 rfl rfl e_w126 rfl ?_
                                      refine pg_goto 23 dL_law_1566 (by decide) ?_
                                      obtain rfl := Option.some.inj h
                                      refine eg_forget [some (.retAddr 0), some (.ref 0), some (.ref 128), some (.ref 137), some (.int w126), none, none] (show pm_sub _ _ from ⟨rfl, ⟨rfl, ⟨rfl, ⟨rfl, ⟨rfl, trivial⟩⟩⟩⟩⟩) ?_
                                      exact hN _ rfl
                                    · rw [if_pos c125] at h
                                      refine pg_aload_n dL_law_1039 rfl ?_
                                      refine pg_iconst 0 dL_law_1040 rfl ?_
                                      refine eg_laldJ 0 dL_law_1041 hS sp137 (Nat.le_of_ble_eq_true rfl) (Nat.le_of_ble_eq_true rfl) rfl (inR_vp rfl) rfl ?_
                                      refine pg_iload dL_law_1042 rfl ?_
                                      refine pg_i2l dL_law_1044 ?_
                                      refine pg_lcmp dL_law_1045 ?_
                                      refine pg_if_eq 1051 dL_law_1046 (by decide) (fun c127 => ?_) (fun c127 => ?_)
                                      · rw [if_pos c127] at h
                                        refine pg_goto 1563 dL_law_1051 (by decide) ?_
                                        obtain ⟨w128, e_w128⟩ : ∃ z : Int32, z = s.1 + 4 := ⟨_, rfl⟩
                                        replace h := lt_at h e_w128
                                        refine eg_iinc [some (.retAddr 0), some (.ref 0), some (.ref 128), some (.ref 137), some (.int w128), some (.int r121.1), some (.int r122.1)] w128 4 dL_law_1563 rfl rfl e_w128 rfl ?_
                                        refine pg_goto 23 dL_law_1566 (by decide) ?_
                                        obtain rfl := Option.some.inj h
                                        refine eg_forget [some (.retAddr 0), some (.ref 0), some (.ref 128), some (.ref 137), some (.int w128), none, none] (show pm_sub _ _ from ⟨rfl, ⟨rfl, ⟨rfl, ⟨rfl, ⟨rfl, trivial⟩⟩⟩⟩⟩) ?_
                                        exact hN _ rfl
                                      · rw [if_neg c127] at h
                                        refine pg_iconst 0 dL_law_1049 rfl ?_
                                        obtain rfl := Option.some.inj h
                                        exact ((hT _ rfl).2 _ rfl).elim
                                  · rw [if_neg c124] at h
                                    refine pg_iconst 0 dL_law_1032 rfl ?_
                                    obtain rfl := Option.some.inj h
                                    exact ((hT _ rfl).2 _ rfl).elim
                                · rw [if_neg c120] at h
                                  by_cases c129 : (g.2.2.2.2.1.2 s.1.toNatClampNeg) &&& 31 = 15
                                  · rw [if_pos c129] at h
                                    refine pg_tabIn (off := 1015) 1054 dL_law_39 (by rw [c129]; decide) (by rw [c129]; decide) (by rw [c129]; decide) (by decide) ?_
                                    refine pg_aload_n dL_law_1054 rfl ?_
                                    refine pg_aloadX_n dL_law_1055 rfl ?_
                                    refine pg_iload dL_law_1056 rfl ?_
                                    refine pg_iconst 1 dL_law_1058 rfl ?_
                                    refine pg_iadd dL_law_1059 ?_
                                    obtain ⟨g1, h⟩ := gd_at h
                                    refine pg_sld dL_law_1060 (inR_vp g1) ?_
                                    refine pg_aloadX_n dL_law_1061 rfl ?_
                                    refine pg_iload dL_law_1062 rfl ?_
                                    refine pg_iconst 2 dL_law_1064 rfl ?_
                                    refine pg_iadd dL_law_1065 ?_
                                    obtain ⟨g1, h⟩ := gd_at h
                                    refine pg_sld dL_law_1066 (inR_vp g1) ?_
                                    refine pg_if_eq 1074 dL_law_1067 (by decide) (fun c130 => ?_) (fun c130 => ?_)
                                    · rw [if_pos c130] at h
                                      refine pg_iconst 0 dL_law_1074 rfl ?_
                                      exact lj_L_law_1075 hfl hS hk hk0 h hN hT
                                    · rw [if_neg c130] at h
                                      refine pg_iconst 1 dL_law_1070 rfl ?_
                                      refine pg_goto 1075 dL_law_1071 (by decide) ?_
                                      exact lj_L_law_1075 hfl hS hk hk0 h hN hT
                                  · rw [if_neg c129] at h
                                    by_cases c140 : (g.2.2.2.2.1.2 s.1.toNatClampNeg) &&& 31 = 16
                                    · rw [if_pos c140] at h
                                      refine pg_tabIn (off := 1111) 1150 dL_law_39 (by rw [c140]; decide) (by rw [c140]; decide) (by rw [c140]; decide) (by decide) ?_
                                      refine pg_aload_n dL_law_1150 rfl ?_
                                      refine pg_aloadX_n dL_law_1151 rfl ?_
                                      refine pg_iload dL_law_1152 rfl ?_
                                      refine pg_iconst 1 dL_law_1154 rfl ?_
                                      refine pg_iadd dL_law_1155 ?_
                                      obtain ⟨g1, h⟩ := gd_at h
                                      refine pg_sld dL_law_1156 (inR_vp g1) ?_
                                      refine pg_aloadX_n dL_law_1157 rfl ?_
                                      refine pg_iload dL_law_1158 rfl ?_
                                      refine pg_iconst 2 dL_law_1160 rfl ?_
                                      refine pg_iadd dL_law_1161 ?_
                                      obtain ⟨g1, h⟩ := gd_at h
                                      refine pg_sld dL_law_1162 (inR_vp g1) ?_
                                      refine pg_aload_n dL_law_1163 rfl ?_
                                      obtain ⟨r141, h_r141, h⟩ := bd_at h
                                      refine eg_cHi (C := mL_entry) (as := [(.ref 0), (.int (g.2.2.2.2.1.2 (s.1 + 1).toNatClampNeg)), (.int (g.2.2.2.2.1.2 (s.1 + 2).toNatClampNeg)), (.ref 137)]) dL_law_1164 mw1253 my_L_entry mw1256 rfl rfl rfl (Nat.le_of_ble_eq_true rfl) rfl ⟨(Nat.le_of_ble_eq_true rfl), (Nat.le_of_ble_eq_true rfl)⟩ hk (ch_entry hfl hS h_r141) ?_
                                      refine eg_istore [some (.retAddr 0), some (.ref 0), some (.ref 128), some (.ref 137), some (.int s.1), some (.int r141.1), none] r141.1 dL_law_1167 rfl (Nat.le_of_ble_eq_true rfl) rfl ?_
                                      refine pg_aload_n dL_law_1169 rfl ?_
                                      refine pg_aloadX_n dL_law_1170 rfl ?_
                                      refine pg_iload dL_law_1171 rfl ?_
                                      refine pg_iconst 1 dL_law_1173 rfl ?_
                                      refine pg_iadd dL_law_1174 ?_
                                      obtain ⟨g1, h⟩ := gd_at h
                                      refine pg_sld dL_law_1175 (inR_vp g1) ?_
                                      refine pg_aloadX_n dL_law_1176 rfl ?_
                                      refine pg_iload dL_law_1177 rfl ?_
                                      refine pg_iconst 2 dL_law_1179 rfl ?_
                                      refine pg_iadd dL_law_1180 ?_
                                      obtain ⟨g1, h⟩ := gd_at h
                                      refine pg_sld dL_law_1181 (inR_vp g1) ?_
                                      obtain ⟨r142, h_r142, h⟩ := bd_at h
                                      refine eg_lVi (C := mX12_entry) (as := [(.int (g.2.2.2.2.1.2 (s.1 + 1).toNatClampNeg)), (.int (g.2.2.2.2.1.2 (s.1 + 2).toNatClampNeg))]) dL_law_1182 mw1257 cv_X12_entry hS sp128 (Nat.le_of_ble_eq_true rfl) (Nat.le_of_ble_eq_true rfl) rfl rfl rfl (Nat.le_of_ble_eq_true rfl) rfl ⟨(Nat.le_of_ble_eq_true rfl), (Nat.le_of_ble_eq_true rfl)⟩ hk (ct_X12_entry hfl (hS.sub (Nat.le_of_ble_eq_true rfl) (Nat.le_of_ble_eq_true rfl)) h_r142) ?_
                                      refine eg_istore [some (.retAddr 0), some (.ref 0), some (.ref 128), some (.ref 137), some (.int s.1), some (.int r141.1), some (.int r142.1)] r142.1 dL_law_1185 rfl (Nat.le_of_ble_eq_true rfl) rfl ?_
                                      refine pg_aload_n dL_law_1187 rfl ?_
                                      obtain ⟨r143, h_r143, h⟩ := bd_at h
                                      refine eg_lVi (C := mX12_thrown) (as := []) dL_law_1188 mw1111 cv_X12_thrown hS sp128 (Nat.le_of_ble_eq_true rfl) (Nat.le_of_ble_eq_true rfl) rfl rfl rfl (Nat.le_of_ble_eq_true rfl) rfl ⟨(Nat.le_of_ble_eq_true rfl), (Nat.le_of_ble_eq_true rfl)⟩ hk (ct_X12_thrown hfl (hS.sub (Nat.le_of_ble_eq_true rfl) (Nat.le_of_ble_eq_true rfl)) h_r143) ?_
                                      refine pg_iload dL_law_1191 rfl ?_
                                      refine pg_icmp_eq 1198 dL_law_1193 (by decide) (fun c144 => ?_) (fun c144 => ?_)
                                      · rw [if_pos c144] at h
                                        refine pg_iload dL_law_1198 rfl ?_
                                        refine pg_if_ne 1215 dL_law_1200 (by decide) (fun c145 => ?_) (fun c145 => ?_)
                                        · rw [if_neg c145] at h
                                          refine pg_goto 1563 dL_law_1215 (by decide) ?_
                                          obtain ⟨w146, e_w146⟩ : ∃ z : Int32, z = s.1 + 4 := ⟨_, rfl⟩
                                          replace h := lt_at h e_w146
                                          refine eg_iinc [some (.retAddr 0), some (.ref 0), some (.ref 128), some (.ref 137), some (.int w146), some (.int r141.1), some (.int r142.1)] w146 4 dL_law_1563 rfl rfl e_w146 rfl ?_
                                          refine pg_goto 23 dL_law_1566 (by decide) ?_
                                          obtain rfl := Option.some.inj h
                                          refine eg_forget [some (.retAddr 0), some (.ref 0), some (.ref 128), some (.ref 137), some (.int w146), none, none] (show pm_sub _ _ from ⟨rfl, ⟨rfl, ⟨rfl, ⟨rfl, ⟨rfl, trivial⟩⟩⟩⟩⟩) ?_
                                          exact hN _ rfl
                                        · rw [if_pos c145] at h
                                          refine pg_aload_n dL_law_1203 rfl ?_
                                          refine pg_iconst 0 dL_law_1204 rfl ?_
                                          refine eg_laldJ 0 dL_law_1205 hS sp137 (Nat.le_of_ble_eq_true rfl) (Nat.le_of_ble_eq_true rfl) rfl (inR_vp rfl) rfl ?_
                                          refine pg_iload dL_law_1206 rfl ?_
                                          refine pg_i2l dL_law_1208 ?_
                                          refine pg_lcmp dL_law_1209 ?_
                                          refine pg_if_eq 1215 dL_law_1210 (by decide) (fun c147 => ?_) (fun c147 => ?_)
                                          · rw [if_pos c147] at h
                                            refine pg_goto 1563 dL_law_1215 (by decide) ?_
                                            obtain ⟨w148, e_w148⟩ : ∃ z : Int32, z = s.1 + 4 := ⟨_, rfl⟩
                                            replace h := lt_at h e_w148
                                            refine eg_iinc [some (.retAddr 0), some (.ref 0), some (.ref 128), some (.ref 137), some (.int w148), some (.int r141.1), some (.int r142.1)] w148 4 dL_law_1563 rfl rfl e_w148 rfl ?_
                                            refine pg_goto 23 dL_law_1566 (by decide) ?_
                                            obtain rfl := Option.some.inj h
                                            refine eg_forget [some (.retAddr 0), some (.ref 0), some (.ref 128), some (.ref 137), some (.int w148), none, none] (show pm_sub _ _ from ⟨rfl, ⟨rfl, ⟨rfl, ⟨rfl, ⟨rfl, trivial⟩⟩⟩⟩⟩) ?_
                                            exact hN _ rfl
                                          · rw [if_neg c147] at h
                                            refine pg_iconst 0 dL_law_1213 rfl ?_
                                            obtain rfl := Option.some.inj h
                                            exact ((hT _ rfl).2 _ rfl).elim
                                      · rw [if_neg c144] at h
                                        refine pg_iconst 0 dL_law_1196 rfl ?_
                                        obtain rfl := Option.some.inj h
                                        exact ((hT _ rfl).2 _ rfl).elim
                                    · rw [if_neg c140] at h
                                      by_cases c149 : (g.2.2.2.2.1.2 s.1.toNatClampNeg) &&& 31 = 17
                                      · rw [if_pos c149] at h
                                        refine pg_tabIn (off := 1179) 1218 dL_law_39 (by rw [c149]; decide) (by rw [c149]; decide) (by rw [c149]; decide) (by decide) ?_
                                        refine pg_aload_n dL_law_1218 rfl ?_
                                        refine pg_aloadX_n dL_law_1219 rfl ?_
                                        refine pg_iload dL_law_1220 rfl ?_
                                        refine pg_iconst 1 dL_law_1222 rfl ?_
                                        refine pg_iadd dL_law_1223 ?_
                                        obtain ⟨g1, h⟩ := gd_at h
                                        refine pg_sld dL_law_1224 (inR_vp g1) ?_
                                        refine pg_aloadX_n dL_law_1225 rfl ?_
                                        refine pg_iload dL_law_1226 rfl ?_
                                        refine pg_iconst 2 dL_law_1228 rfl ?_
                                        refine pg_iadd dL_law_1229 ?_
                                        obtain ⟨g1, h⟩ := gd_at h
                                        refine pg_sld dL_law_1230 (inR_vp g1) ?_
                                        refine pg_aload_n dL_law_1231 rfl ?_
                                        obtain ⟨r150, h_r150, h⟩ := bd_at h
                                        refine eg_cHi (C := mL_tenant) (as := [(.ref 0), (.int (g.2.2.2.2.1.2 (s.1 + 1).toNatClampNeg)), (.int (g.2.2.2.2.1.2 (s.1 + 2).toNatClampNeg)), (.ref 137)]) dL_law_1232 mw1262 my_L_tenant mw1265 rfl rfl rfl (Nat.le_of_ble_eq_true rfl) rfl ⟨(Nat.le_of_ble_eq_true rfl), (Nat.le_of_ble_eq_true rfl)⟩ hk (ch_tenant hfl hS h_r150) ?_
                                        refine eg_istore [some (.retAddr 0), some (.ref 0), some (.ref 128), some (.ref 137), some (.int s.1), some (.int r150.1), none] r150.1 dL_law_1235 rfl (Nat.le_of_ble_eq_true rfl) rfl ?_
                                        refine pg_aload_n dL_law_1237 rfl ?_
                                        refine pg_aloadX_n dL_law_1238 rfl ?_
                                        refine pg_iload dL_law_1239 rfl ?_
                                        refine pg_iconst 1 dL_law_1241 rfl ?_
                                        refine pg_iadd dL_law_1242 ?_
                                        obtain ⟨g1, h⟩ := gd_at h
                                        refine pg_sld dL_law_1243 (inR_vp g1) ?_
                                        refine pg_aloadX_n dL_law_1244 rfl ?_
                                        refine pg_iload dL_law_1245 rfl ?_
                                        refine pg_iconst 2 dL_law_1247 rfl ?_
                                        refine pg_iadd dL_law_1248 ?_
                                        obtain ⟨g1, h⟩ := gd_at h
                                        refine pg_sld dL_law_1249 (inR_vp g1) ?_
                                        obtain ⟨r151, h_r151, h⟩ := bd_at h
                                        refine eg_lVi (C := mX12_tenant) (as := [(.int (g.2.2.2.2.1.2 (s.1 + 1).toNatClampNeg)), (.int (g.2.2.2.2.1.2 (s.1 + 2).toNatClampNeg))]) dL_law_1250 mw1266 cv_X12_tenant hS sp128 (Nat.le_of_ble_eq_true rfl) (Nat.le_of_ble_eq_true rfl) rfl rfl rfl (Nat.le_of_ble_eq_true rfl) rfl ⟨(Nat.le_of_ble_eq_true rfl), (Nat.le_of_ble_eq_true rfl)⟩ hk (ct_X12_tenant hfl (hS.sub (Nat.le_of_ble_eq_true rfl) (Nat.le_of_ble_eq_true rfl)) h_r151) ?_
                                        refine eg_istore [some (.retAddr 0), some (.ref 0), some (.ref 128), some (.ref 137), some (.int s.1), some (.int r150.1), some (.int r151.1)] r151.1 dL_law_1253 rfl (Nat.le_of_ble_eq_true rfl) rfl ?_
                                        refine pg_aload_n dL_law_1255 rfl ?_
                                        obtain ⟨r152, h_r152, h⟩ := bd_at h
                                        refine eg_lVi (C := mX12_thrown) (as := []) dL_law_1256 mw1111 cv_X12_thrown hS sp128 (Nat.le_of_ble_eq_true rfl) (Nat.le_of_ble_eq_true rfl) rfl rfl rfl (Nat.le_of_ble_eq_true rfl) rfl ⟨(Nat.le_of_ble_eq_true rfl), (Nat.le_of_ble_eq_true rfl)⟩ hk (ct_X12_thrown hfl (hS.sub (Nat.le_of_ble_eq_true rfl) (Nat.le_of_ble_eq_true rfl)) h_r152) ?_
                                        refine pg_iload dL_law_1259 rfl ?_
                                        refine pg_icmp_eq 1266 dL_law_1261 (by decide) (fun c153 => ?_) (fun c153 => ?_)
                                        · rw [if_pos c153] at h
                                          refine pg_iload dL_law_1266 rfl ?_
                                          refine pg_if_ne 1283 dL_law_1268 (by decide) (fun c154 => ?_) (fun c154 => ?_)
                                          · rw [if_neg c154] at h
                                            refine pg_goto 1563 dL_law_1283 (by decide) ?_
                                            obtain ⟨w155, e_w155⟩ : ∃ z : Int32, z = s.1 + 4 := ⟨_, rfl⟩
                                            replace h := lt_at h e_w155
                                            refine eg_iinc [some (.retAddr 0), some (.ref 0), some (.ref 128), some (.ref 137), some (.int w155), some (.int r150.1), some (.int r151.1)] w155 4 dL_law_1563 rfl rfl e_w155 rfl ?_
                                            refine pg_goto 23 dL_law_1566 (by decide) ?_
                                            obtain rfl := Option.some.inj h
                                            refine eg_forget [some (.retAddr 0), some (.ref 0), some (.ref 128), some (.ref 137), some (.int w155), none, none] (show pm_sub _ _ from ⟨rfl, ⟨rfl, ⟨rfl, ⟨rfl, ⟨rfl, trivial⟩⟩⟩⟩⟩) ?_
                                            exact hN _ rfl
                                          · rw [if_pos c154] at h
                                            refine pg_aload_n dL_law_1271 rfl ?_
                                            refine pg_iconst 0 dL_law_1272 rfl ?_
                                            refine eg_laldJ 0 dL_law_1273 hS sp137 (Nat.le_of_ble_eq_true rfl) (Nat.le_of_ble_eq_true rfl) rfl (inR_vp rfl) rfl ?_
                                            refine pg_iload dL_law_1274 rfl ?_
                                            refine pg_i2l dL_law_1276 ?_
                                            refine pg_lcmp dL_law_1277 ?_
                                            refine pg_if_eq 1283 dL_law_1278 (by decide) (fun c156 => ?_) (fun c156 => ?_)
                                            · rw [if_pos c156] at h
                                              refine pg_goto 1563 dL_law_1283 (by decide) ?_
                                              obtain ⟨w157, e_w157⟩ : ∃ z : Int32, z = s.1 + 4 := ⟨_, rfl⟩
                                              replace h := lt_at h e_w157
                                              refine eg_iinc [some (.retAddr 0), some (.ref 0), some (.ref 128), some (.ref 137), some (.int w157), some (.int r150.1), some (.int r151.1)] w157 4 dL_law_1563 rfl rfl e_w157 rfl ?_
                                              refine pg_goto 23 dL_law_1566 (by decide) ?_
                                              obtain rfl := Option.some.inj h
                                              refine eg_forget [some (.retAddr 0), some (.ref 0), some (.ref 128), some (.ref 137), some (.int w157), none, none] (show pm_sub _ _ from ⟨rfl, ⟨rfl, ⟨rfl, ⟨rfl, ⟨rfl, trivial⟩⟩⟩⟩⟩) ?_
                                              exact hN _ rfl
                                            · rw [if_neg c156] at h
                                              refine pg_iconst 0 dL_law_1281 rfl ?_
                                              obtain rfl := Option.some.inj h
                                              exact ((hT _ rfl).2 _ rfl).elim
                                        · rw [if_neg c153] at h
                                          refine pg_iconst 0 dL_law_1264 rfl ?_
                                          obtain rfl := Option.some.inj h
                                          exact ((hT _ rfl).2 _ rfl).elim
                                      · rw [if_neg c149] at h
                                        by_cases c158 : (g.2.2.2.2.1.2 s.1.toNatClampNeg) &&& 31 = 18
                                        · rw [if_pos c158] at h
                                          refine pg_tabIn (off := 1247) 1286 dL_law_39 (by rw [c158]; decide) (by rw [c158]; decide) (by rw [c158]; decide) (by decide) ?_
                                          refine pg_aload_n dL_law_1286 rfl ?_
                                          refine pg_aloadX_n dL_law_1287 rfl ?_
                                          refine pg_iload dL_law_1288 rfl ?_
                                          refine pg_iconst 1 dL_law_1290 rfl ?_
                                          refine pg_iadd dL_law_1291 ?_
                                          obtain ⟨g1, h⟩ := gd_at h
                                          refine pg_sld dL_law_1292 (inR_vp g1) ?_
                                          refine pg_aloadX_n dL_law_1293 rfl ?_
                                          refine pg_iload dL_law_1294 rfl ?_
                                          refine pg_iconst 2 dL_law_1296 rfl ?_
                                          refine pg_iadd dL_law_1297 ?_
                                          obtain ⟨g1, h⟩ := gd_at h
                                          refine pg_sld dL_law_1298 (inR_vp g1) ?_
                                          refine pg_aload_n dL_law_1299 rfl ?_
                                          obtain ⟨r159, h_r159, h⟩ := bd_at h
                                          refine eg_cHi (C := mL_bidOf) (as := [(.ref 0), (.int (g.2.2.2.2.1.2 (s.1 + 1).toNatClampNeg)), (.int (g.2.2.2.2.1.2 (s.1 + 2).toNatClampNeg)), (.ref 137)]) dL_law_1300 mw1271 my_L_bidOf mw1274 rfl rfl rfl (Nat.le_of_ble_eq_true rfl) rfl ⟨(Nat.le_of_ble_eq_true rfl), (Nat.le_of_ble_eq_true rfl)⟩ hk (ch_bidOf hfl hS h_r159) ?_
                                          refine eg_istore [some (.retAddr 0), some (.ref 0), some (.ref 128), some (.ref 137), some (.int s.1), some (.int r159.1), none] r159.1 dL_law_1303 rfl (Nat.le_of_ble_eq_true rfl) rfl ?_
                                          refine pg_aload_n dL_law_1305 rfl ?_
                                          refine pg_aloadX_n dL_law_1306 rfl ?_
                                          refine pg_iload dL_law_1307 rfl ?_
                                          refine pg_iconst 1 dL_law_1309 rfl ?_
                                          refine pg_iadd dL_law_1310 ?_
                                          obtain ⟨g1, h⟩ := gd_at h
                                          refine pg_sld dL_law_1311 (inR_vp g1) ?_
                                          refine pg_aloadX_n dL_law_1312 rfl ?_
                                          refine pg_iload dL_law_1313 rfl ?_
                                          refine pg_iconst 2 dL_law_1315 rfl ?_
                                          refine pg_iadd dL_law_1316 ?_
                                          obtain ⟨g1, h⟩ := gd_at h
                                          refine pg_sld dL_law_1317 (inR_vp g1) ?_
                                          obtain ⟨r160, h_r160, h⟩ := bd_at h
                                          refine eg_lVi (C := mX12_bidOf) (as := [(.int (g.2.2.2.2.1.2 (s.1 + 1).toNatClampNeg)), (.int (g.2.2.2.2.1.2 (s.1 + 2).toNatClampNeg))]) dL_law_1318 mw1275 cv_X12_bidOf hS sp128 (Nat.le_of_ble_eq_true rfl) (Nat.le_of_ble_eq_true rfl) rfl rfl rfl (Nat.le_of_ble_eq_true rfl) rfl ⟨(Nat.le_of_ble_eq_true rfl), (Nat.le_of_ble_eq_true rfl)⟩ hk (ct_X12_bidOf hfl (hS.sub (Nat.le_of_ble_eq_true rfl) (Nat.le_of_ble_eq_true rfl)) h_r160) ?_
                                          refine eg_istore [some (.retAddr 0), some (.ref 0), some (.ref 128), some (.ref 137), some (.int s.1), some (.int r159.1), some (.int r160.1)] r160.1 dL_law_1321 rfl (Nat.le_of_ble_eq_true rfl) rfl ?_
                                          refine pg_aload_n dL_law_1323 rfl ?_
                                          obtain ⟨r161, h_r161, h⟩ := bd_at h
                                          refine eg_lVi (C := mX12_thrown) (as := []) dL_law_1324 mw1111 cv_X12_thrown hS sp128 (Nat.le_of_ble_eq_true rfl) (Nat.le_of_ble_eq_true rfl) rfl rfl rfl (Nat.le_of_ble_eq_true rfl) rfl ⟨(Nat.le_of_ble_eq_true rfl), (Nat.le_of_ble_eq_true rfl)⟩ hk (ct_X12_thrown hfl (hS.sub (Nat.le_of_ble_eq_true rfl) (Nat.le_of_ble_eq_true rfl)) h_r161) ?_
                                          refine pg_iload dL_law_1327 rfl ?_
                                          refine pg_icmp_eq 1334 dL_law_1329 (by decide) (fun c162 => ?_) (fun c162 => ?_)
                                          · rw [if_pos c162] at h
                                            refine pg_iload dL_law_1334 rfl ?_
                                            refine pg_if_ne 1351 dL_law_1336 (by decide) (fun c163 => ?_) (fun c163 => ?_)
                                            · rw [if_neg c163] at h
                                              refine pg_goto 1563 dL_law_1351 (by decide) ?_
                                              obtain ⟨w164, e_w164⟩ : ∃ z : Int32, z = s.1 + 4 := ⟨_, rfl⟩
                                              replace h := lt_at h e_w164
                                              refine eg_iinc [some (.retAddr 0), some (.ref 0), some (.ref 128), some (.ref 137), some (.int w164), some (.int r159.1), some (.int r160.1)] w164 4 dL_law_1563 rfl rfl e_w164 rfl ?_
                                              refine pg_goto 23 dL_law_1566 (by decide) ?_
                                              obtain rfl := Option.some.inj h
                                              refine eg_forget [some (.retAddr 0), some (.ref 0), some (.ref 128), some (.ref 137), some (.int w164), none, none] (show pm_sub _ _ from ⟨rfl, ⟨rfl, ⟨rfl, ⟨rfl, ⟨rfl, trivial⟩⟩⟩⟩⟩) ?_
                                              exact hN _ rfl
                                            · rw [if_pos c163] at h
                                              refine pg_aload_n dL_law_1339 rfl ?_
                                              refine pg_iconst 0 dL_law_1340 rfl ?_
                                              refine eg_laldJ 0 dL_law_1341 hS sp137 (Nat.le_of_ble_eq_true rfl) (Nat.le_of_ble_eq_true rfl) rfl (inR_vp rfl) rfl ?_
                                              refine pg_iload dL_law_1342 rfl ?_
                                              refine pg_i2l dL_law_1344 ?_
                                              refine pg_lcmp dL_law_1345 ?_
                                              refine pg_if_eq 1351 dL_law_1346 (by decide) (fun c165 => ?_) (fun c165 => ?_)
                                              · rw [if_pos c165] at h
                                                refine pg_goto 1563 dL_law_1351 (by decide) ?_
                                                obtain ⟨w166, e_w166⟩ : ∃ z : Int32, z = s.1 + 4 := ⟨_, rfl⟩
                                                replace h := lt_at h e_w166
                                                refine eg_iinc [some (.retAddr 0), some (.ref 0), some (.ref 128), some (.ref 137), some (.int w166), some (.int r159.1), some (.int r160.1)] w166 4 dL_law_1563 rfl rfl e_w166 rfl ?_
                                                refine pg_goto 23 dL_law_1566 (by decide) ?_
                                                obtain rfl := Option.some.inj h
                                                refine eg_forget [some (.retAddr 0), some (.ref 0), some (.ref 128), some (.ref 137), some (.int w166), none, none] (show pm_sub _ _ from ⟨rfl, ⟨rfl, ⟨rfl, ⟨rfl, ⟨rfl, trivial⟩⟩⟩⟩⟩) ?_
                                                exact hN _ rfl
                                              · rw [if_neg c165] at h
                                                refine pg_iconst 0 dL_law_1349 rfl ?_
                                                obtain rfl := Option.some.inj h
                                                exact ((hT _ rfl).2 _ rfl).elim
                                          · rw [if_neg c162] at h
                                            refine pg_iconst 0 dL_law_1332 rfl ?_
                                            obtain rfl := Option.some.inj h
                                            exact ((hT _ rfl).2 _ rfl).elim
                                        · rw [if_neg c158] at h
                                          by_cases c167 : (g.2.2.2.2.1.2 s.1.toNatClampNeg) &&& 31 = 19
                                          · rw [if_pos c167] at h
                                            refine pg_tabIn (off := 1315) 1354 dL_law_39 (by rw [c167]; decide) (by rw [c167]; decide) (by rw [c167]; decide) (by decide) ?_
                                            refine pg_aload_n dL_law_1354 rfl ?_
                                            refine pg_aloadX_n dL_law_1355 rfl ?_
                                            refine pg_iload dL_law_1356 rfl ?_
                                            refine pg_iconst 1 dL_law_1358 rfl ?_
                                            refine pg_iadd dL_law_1359 ?_
                                            obtain ⟨g1, h⟩ := gd_at h
                                            refine pg_sld dL_law_1360 (inR_vp g1) ?_
                                            refine pg_aload_n dL_law_1361 rfl ?_
                                            obtain ⟨r168, h_r168, h⟩ := bd_at h
                                            refine eg_cHi (C := mL_count) (as := [(.ref 0), (.int (g.2.2.2.2.1.2 (s.1 + 1).toNatClampNeg)), (.ref 137)]) dL_law_1362 mw1280 my_L_count mw1283 rfl rfl rfl (Nat.le_of_ble_eq_true rfl) rfl ⟨(Nat.le_of_ble_eq_true rfl), (Nat.le_of_ble_eq_true rfl)⟩ hk (ch_count hfl hS h_r168) ?_
                                            refine eg_istore [some (.retAddr 0), some (.ref 0), some (.ref 128), some (.ref 137), some (.int s.1), some (.int r168.1), none] r168.1 dL_law_1365 rfl (Nat.le_of_ble_eq_true rfl) rfl ?_
                                            refine pg_aload_n dL_law_1367 rfl ?_
                                            refine pg_aloadX_n dL_law_1368 rfl ?_
                                            refine pg_iload dL_law_1369 rfl ?_
                                            refine pg_iconst 1 dL_law_1371 rfl ?_
                                            refine pg_iadd dL_law_1372 ?_
                                            obtain ⟨g1, h⟩ := gd_at h
                                            refine pg_sld dL_law_1373 (inR_vp g1) ?_
                                            obtain ⟨r169, h_r169, h⟩ := bd_at h
                                            refine eg_lVi (C := mX12_count) (as := [(.int (g.2.2.2.2.1.2 (s.1 + 1).toNatClampNeg))]) dL_law_1374 mw1284 cv_X12_count hS sp128 (Nat.le_of_ble_eq_true rfl) (Nat.le_of_ble_eq_true rfl) rfl rfl rfl (Nat.le_of_ble_eq_true rfl) rfl ⟨(Nat.le_of_ble_eq_true rfl), (Nat.le_of_ble_eq_true rfl)⟩ hk (ct_X12_count hfl (hS.sub (Nat.le_of_ble_eq_true rfl) (Nat.le_of_ble_eq_true rfl)) h_r169) ?_
                                            refine eg_istore [some (.retAddr 0), some (.ref 0), some (.ref 128), some (.ref 137), some (.int s.1), some (.int r168.1), some (.int r169.1)] r169.1 dL_law_1377 rfl (Nat.le_of_ble_eq_true rfl) rfl ?_
                                            refine pg_aload_n dL_law_1379 rfl ?_
                                            obtain ⟨r170, h_r170, h⟩ := bd_at h
                                            refine eg_lVi (C := mX12_thrown) (as := []) dL_law_1380 mw1111 cv_X12_thrown hS sp128 (Nat.le_of_ble_eq_true rfl) (Nat.le_of_ble_eq_true rfl) rfl rfl rfl (Nat.le_of_ble_eq_true rfl) rfl ⟨(Nat.le_of_ble_eq_true rfl), (Nat.le_of_ble_eq_true rfl)⟩ hk (ct_X12_thrown hfl (hS.sub (Nat.le_of_ble_eq_true rfl) (Nat.le_of_ble_eq_true rfl)) h_r170) ?_
                                            refine pg_iload dL_law_1383 rfl ?_
                                            refine pg_icmp_eq 1390 dL_law_1385 (by decide) (fun c171 => ?_) (fun c171 => ?_)
                                            · rw [if_pos c171] at h
                                              refine pg_iload dL_law_1390 rfl ?_
                                              refine pg_if_ne 1407 dL_law_1392 (by decide) (fun c172 => ?_) (fun c172 => ?_)
                                              · rw [if_neg c172] at h
                                                refine pg_goto 1563 dL_law_1407 (by decide) ?_
                                                obtain ⟨w173, e_w173⟩ : ∃ z : Int32, z = s.1 + 4 := ⟨_, rfl⟩
                                                replace h := lt_at h e_w173
                                                refine eg_iinc [some (.retAddr 0), some (.ref 0), some (.ref 128), some (.ref 137), some (.int w173), some (.int r168.1), some (.int r169.1)] w173 4 dL_law_1563 rfl rfl e_w173 rfl ?_
                                                refine pg_goto 23 dL_law_1566 (by decide) ?_
                                                obtain rfl := Option.some.inj h
                                                refine eg_forget [some (.retAddr 0), some (.ref 0), some (.ref 128), some (.ref 137), some (.int w173), none, none] (show pm_sub _ _ from ⟨rfl, ⟨rfl, ⟨rfl, ⟨rfl, ⟨rfl, trivial⟩⟩⟩⟩⟩) ?_
                                                exact hN _ rfl
                                              · rw [if_pos c172] at h
                                                refine pg_aload_n dL_law_1395 rfl ?_
                                                refine pg_iconst 0 dL_law_1396 rfl ?_
                                                refine eg_laldJ 0 dL_law_1397 hS sp137 (Nat.le_of_ble_eq_true rfl) (Nat.le_of_ble_eq_true rfl) rfl (inR_vp rfl) rfl ?_
                                                refine pg_iload dL_law_1398 rfl ?_
                                                refine pg_i2l dL_law_1400 ?_
                                                refine pg_lcmp dL_law_1401 ?_
                                                refine pg_if_eq 1407 dL_law_1402 (by decide) (fun c174 => ?_) (fun c174 => ?_)
                                                · rw [if_pos c174] at h
                                                  refine pg_goto 1563 dL_law_1407 (by decide) ?_
                                                  obtain ⟨w175, e_w175⟩ : ∃ z : Int32, z = s.1 + 4 := ⟨_, rfl⟩
                                                  replace h := lt_at h e_w175
                                                  refine eg_iinc [some (.retAddr 0), some (.ref 0), some (.ref 128), some (.ref 137), some (.int w175), some (.int r168.1), some (.int r169.1)] w175 4 dL_law_1563 rfl rfl e_w175 rfl ?_
                                                  refine pg_goto 23 dL_law_1566 (by decide) ?_
                                                  obtain rfl := Option.some.inj h
                                                  refine eg_forget [some (.retAddr 0), some (.ref 0), some (.ref 128), some (.ref 137), some (.int w175), none, none] (show pm_sub _ _ from ⟨rfl, ⟨rfl, ⟨rfl, ⟨rfl, ⟨rfl, trivial⟩⟩⟩⟩⟩) ?_
                                                  exact hN _ rfl
                                                · rw [if_neg c174] at h
                                                  refine pg_iconst 0 dL_law_1405 rfl ?_
                                                  obtain rfl := Option.some.inj h
                                                  exact ((hT _ rfl).2 _ rfl).elim
                                            · rw [if_neg c171] at h
                                              refine pg_iconst 0 dL_law_1388 rfl ?_
                                              obtain rfl := Option.some.inj h
                                              exact ((hT _ rfl).2 _ rfl).elim
                                          · rw [if_neg c167] at h
                                            by_cases c176 : (g.2.2.2.2.1.2 s.1.toNatClampNeg) &&& 31 = 20
                                            · rw [if_pos c176] at h
                                              refine pg_tabIn (off := 1371) 1410 dL_law_39 (by rw [c176]; decide) (by rw [c176]; decide) (by rw [c176]; decide) (by decide) ?_
                                              refine pg_aload_n dL_law_1410 rfl ?_
                                              obtain ⟨r177, h_r177, h⟩ := bd_at h
                                              refine eg_lVi (C := mX11_isForest) (as := []) dL_law_1411 mw1289 cv_X11_isForest hS sp0 (Nat.le_of_ble_eq_true rfl) (Nat.le_of_ble_eq_true rfl) rfl rfl rfl (Nat.le_of_ble_eq_true rfl) rfl ⟨(Nat.le_of_ble_eq_true rfl), (Nat.le_of_ble_eq_true rfl)⟩ hk0 (ct_X11_isForest hfl (hS.sub (Nat.le_of_ble_eq_true rfl) (Nat.le_of_ble_eq_true rfl)) h_r177) ?_
                                              refine pg_aload_n dL_law_1414 rfl ?_
                                              obtain ⟨r178, h_r178, h⟩ := bd_at h
                                              refine eg_lVi (C := mX12_isForest) (as := []) dL_law_1415 mw1290 cv_X12_isForest hS sp128 (Nat.le_of_ble_eq_true rfl) (Nat.le_of_ble_eq_true rfl) rfl rfl rfl (Nat.le_of_ble_eq_true rfl) rfl ⟨(Nat.le_of_ble_eq_true rfl), (Nat.le_of_ble_eq_true rfl)⟩ hk0 (ct_X12_isForest hfl (hS.sub (Nat.le_of_ble_eq_true rfl) (Nat.le_of_ble_eq_true rfl)) h_r178) ?_
                                              refine pg_icmp_eq 1563 dL_law_1418 (by decide) (fun c179 => ?_) (fun c179 => ?_)
                                              · rw [if_pos c179] at h
                                                obtain ⟨w180, e_w180⟩ : ∃ z : Int32, z = s.1 + 4 := ⟨_, rfl⟩
                                                replace h := lt_at h e_w180
                                                refine eg_iinc [some (.retAddr 0), some (.ref 0), some (.ref 128), some (.ref 137), some (.int w180), none, none] w180 4 dL_law_1563 rfl rfl e_w180 rfl ?_
                                                refine pg_goto 23 dL_law_1566 (by decide) ?_
                                                obtain rfl := Option.some.inj h
                                                refine pg_widen (k' := k + 1) (n' := n + 6) (Nat.le_add_right _ _) (Nat.le_add_right _ _) ?_
                                                exact hN _ rfl
                                              · rw [if_neg c179] at h
                                                refine pg_iconst 0 dL_law_1421 rfl ?_
                                                obtain rfl := Option.some.inj h
                                                exact ((hT _ rfl).2 _ rfl).elim
                                            · rw [if_neg c176] at h
                                              by_cases c181 : (g.2.2.2.2.1.2 s.1.toNatClampNeg) &&& 31 = 21
                                              · rw [if_pos c181] at h
                                                refine pg_tabIn (off := 1384) 1423 dL_law_39 (by rw [c181]; decide) (by rw [c181]; decide) (by rw [c181]; decide) (by decide) ?_
                                                refine pg_aload_n dL_law_1423 rfl ?_
                                                refine pg_aloadX_n dL_law_1424 rfl ?_
                                                refine pg_iload dL_law_1425 rfl ?_
                                                refine pg_iconst 1 dL_law_1427 rfl ?_
                                                refine pg_iadd dL_law_1428 ?_
                                                obtain ⟨g1, h⟩ := gd_at h
                                                refine pg_sld dL_law_1429 (inR_vp g1) ?_
                                                refine pg_aload_n dL_law_1430 rfl ?_
                                                obtain ⟨r182, h_r182, h⟩ := bd_at h
                                                refine eg_cHi (C := mL_type) (as := [(.ref 0), (.int (g.2.2.2.2.1.2 (s.1 + 1).toNatClampNeg)), (.ref 137)]) dL_law_1431 mw1295 my_L_type mw1298 rfl rfl rfl (Nat.le_of_ble_eq_true rfl) rfl ⟨(Nat.le_of_ble_eq_true rfl), (Nat.le_of_ble_eq_true rfl)⟩ hk (ch_type hfl hS h_r182) ?_
                                                refine eg_istore [some (.retAddr 0), some (.ref 0), some (.ref 128), some (.ref 137), some (.int s.1), some (.int r182.1), none] r182.1 dL_law_1434 rfl (Nat.le_of_ble_eq_true rfl) rfl ?_
                                                refine pg_aload_n dL_law_1436 rfl ?_
                                                refine pg_aloadX_n dL_law_1437 rfl ?_
                                                refine pg_iload dL_law_1438 rfl ?_
                                                refine pg_iconst 1 dL_law_1440 rfl ?_
                                                refine pg_iadd dL_law_1441 ?_
                                                obtain ⟨g1, h⟩ := gd_at h
                                                refine pg_sld dL_law_1442 (inR_vp g1) ?_
                                                obtain ⟨r183, h_r183, h⟩ := bd_at h
                                                refine eg_lVi (C := mX12_type) (as := [(.int (g.2.2.2.2.1.2 (s.1 + 1).toNatClampNeg))]) dL_law_1443 mw1299 cv_X12_type hS sp128 (Nat.le_of_ble_eq_true rfl) (Nat.le_of_ble_eq_true rfl) rfl rfl rfl (Nat.le_of_ble_eq_true rfl) rfl ⟨(Nat.le_of_ble_eq_true rfl), (Nat.le_of_ble_eq_true rfl)⟩ hk (ct_X12_type hfl (hS.sub (Nat.le_of_ble_eq_true rfl) (Nat.le_of_ble_eq_true rfl)) h_r183) ?_
                                                refine eg_istore [some (.retAddr 0), some (.ref 0), some (.ref 128), some (.ref 137), some (.int s.1), some (.int r182.1), some (.int r183.1)] r183.1 dL_law_1446 rfl (Nat.le_of_ble_eq_true rfl) rfl ?_
                                                refine pg_aload_n dL_law_1448 rfl ?_
                                                obtain ⟨r184, h_r184, h⟩ := bd_at h
                                                refine eg_lVi (C := mX12_thrown) (as := []) dL_law_1449 mw1111 cv_X12_thrown hS sp128 (Nat.le_of_ble_eq_true rfl) (Nat.le_of_ble_eq_true rfl) rfl rfl rfl (Nat.le_of_ble_eq_true rfl) rfl ⟨(Nat.le_of_ble_eq_true rfl), (Nat.le_of_ble_eq_true rfl)⟩ hk (ct_X12_thrown hfl (hS.sub (Nat.le_of_ble_eq_true rfl) (Nat.le_of_ble_eq_true rfl)) h_r184) ?_
                                                refine pg_iload dL_law_1452 rfl ?_
                                                refine pg_icmp_eq 1459 dL_law_1454 (by decide) (fun c185 => ?_) (fun c185 => ?_)
                                                · rw [if_pos c185] at h
                                                  refine pg_iload dL_law_1459 rfl ?_
                                                  refine pg_if_ne 1476 dL_law_1461 (by decide) (fun c186 => ?_) (fun c186 => ?_)
                                                  · rw [if_neg c186] at h
                                                    refine pg_goto 1563 dL_law_1476 (by decide) ?_
                                                    obtain ⟨w187, e_w187⟩ : ∃ z : Int32, z = s.1 + 4 := ⟨_, rfl⟩
                                                    replace h := lt_at h e_w187
                                                    refine eg_iinc [some (.retAddr 0), some (.ref 0), some (.ref 128), some (.ref 137), some (.int w187), some (.int r182.1), some (.int r183.1)] w187 4 dL_law_1563 rfl rfl e_w187 rfl ?_
                                                    refine pg_goto 23 dL_law_1566 (by decide) ?_
                                                    obtain rfl := Option.some.inj h
                                                    refine eg_forget [some (.retAddr 0), some (.ref 0), some (.ref 128), some (.ref 137), some (.int w187), none, none] (show pm_sub _ _ from ⟨rfl, ⟨rfl, ⟨rfl, ⟨rfl, ⟨rfl, trivial⟩⟩⟩⟩⟩) ?_
                                                    exact hN _ rfl
                                                  · rw [if_pos c186] at h
                                                    refine pg_aload_n dL_law_1464 rfl ?_
                                                    refine pg_iconst 0 dL_law_1465 rfl ?_
                                                    refine eg_laldJ 0 dL_law_1466 hS sp137 (Nat.le_of_ble_eq_true rfl) (Nat.le_of_ble_eq_true rfl) rfl (inR_vp rfl) rfl ?_
                                                    refine pg_iload dL_law_1467 rfl ?_
                                                    refine pg_i2l dL_law_1469 ?_
                                                    refine pg_lcmp dL_law_1470 ?_
                                                    refine pg_if_eq 1476 dL_law_1471 (by decide) (fun c188 => ?_) (fun c188 => ?_)
                                                    · rw [if_pos c188] at h
                                                      refine pg_goto 1563 dL_law_1476 (by decide) ?_
                                                      obtain ⟨w189, e_w189⟩ : ∃ z : Int32, z = s.1 + 4 := ⟨_, rfl⟩
                                                      replace h := lt_at h e_w189
                                                      refine eg_iinc [some (.retAddr 0), some (.ref 0), some (.ref 128), some (.ref 137), some (.int w189), some (.int r182.1), some (.int r183.1)] w189 4 dL_law_1563 rfl rfl e_w189 rfl ?_
                                                      refine pg_goto 23 dL_law_1566 (by decide) ?_
                                                      obtain rfl := Option.some.inj h
                                                      refine eg_forget [some (.retAddr 0), some (.ref 0), some (.ref 128), some (.ref 137), some (.int w189), none, none] (show pm_sub _ _ from ⟨rfl, ⟨rfl, ⟨rfl, ⟨rfl, ⟨rfl, trivial⟩⟩⟩⟩⟩) ?_
                                                      exact hN _ rfl
                                                    · rw [if_neg c188] at h
                                                      refine pg_iconst 0 dL_law_1474 rfl ?_
                                                      obtain rfl := Option.some.inj h
                                                      exact ((hT _ rfl).2 _ rfl).elim
                                                · rw [if_neg c185] at h
                                                  refine pg_iconst 0 dL_law_1457 rfl ?_
                                                  obtain rfl := Option.some.inj h
                                                  exact ((hT _ rfl).2 _ rfl).elim
                                              · rw [if_neg c181] at h
                                                by_cases c190 : (g.2.2.2.2.1.2 s.1.toNatClampNeg) &&& 31 = 22
                                                · rw [if_pos c190] at h
                                                  refine pg_tabIn (off := 1440) 1479 dL_law_39 (by rw [c190]; decide) (by rw [c190]; decide) (by rw [c190]; decide) (by decide) ?_
                                                  refine pg_aload_n dL_law_1479 rfl ?_
                                                  obtain ⟨r191, h_r191, h⟩ := bd_at h
                                                  refine eg_lVi (C := mX11_clearScript) (as := []) dL_law_1480 mw1304 cv_X11_clearScript hS sp0 (Nat.le_of_ble_eq_true rfl) (Nat.le_of_ble_eq_true rfl) rfl rfl rfl (Nat.le_of_ble_eq_true rfl) rfl ⟨(Nat.le_of_ble_eq_true rfl), (Nat.le_of_ble_eq_true rfl)⟩ hk0 (ct_X11_clearScript hfl (hS.sub (Nat.le_of_ble_eq_true rfl) (Nat.le_of_ble_eq_true rfl)) h_r191) ?_
                                                  refine pg_aload_n dL_law_1483 rfl ?_
                                                  obtain ⟨r192, h_r192, h⟩ := bd_at h
                                                  refine eg_lVi (C := mX12_clearScript) (as := []) dL_law_1484 mw1309 cv_X12_clearScript hS sp128 (Nat.le_of_ble_eq_true rfl) (Nat.le_of_ble_eq_true rfl) rfl rfl rfl (Nat.le_of_ble_eq_true rfl) rfl ⟨(Nat.le_of_ble_eq_true rfl), (Nat.le_of_ble_eq_true rfl)⟩ hk0 (ct_X12_clearScript hfl (hS.sub (Nat.le_of_ble_eq_true rfl) (Nat.le_of_ble_eq_true rfl)) h_r192) ?_
                                                  refine pg_icmp_eq 1563 dL_law_1487 (by decide) (fun c193 => ?_) (fun c193 => ?_)
                                                  · rw [if_pos c193] at h
                                                    obtain ⟨w194, e_w194⟩ : ∃ z : Int32, z = s.1 + 4 := ⟨_, rfl⟩
                                                    replace h := lt_at h e_w194
                                                    refine eg_iinc [some (.retAddr 0), some (.ref 0), some (.ref 128), some (.ref 137), some (.int w194), none, none] w194 4 dL_law_1563 rfl rfl e_w194 rfl ?_
                                                    refine pg_goto 23 dL_law_1566 (by decide) ?_
                                                    obtain rfl := Option.some.inj h
                                                    refine pg_widen (k' := k + 1) (n' := n + 6) (Nat.le_add_right _ _) (Nat.le_add_right _ _) ?_
                                                    exact hN _ rfl
                                                  · rw [if_neg c193] at h
                                                    refine pg_iconst 0 dL_law_1490 rfl ?_
                                                    obtain rfl := Option.some.inj h
                                                    exact ((hT _ rfl).2 _ rfl).elim
                                                · rw [if_neg c190] at h
                                                  by_cases c195 : (g.2.2.2.2.1.2 s.1.toNatClampNeg) &&& 31 = 23
                                                  · rw [if_pos c195] at h
                                                    refine pg_tabIn (off := 1453) 1492 dL_law_39 (by rw [c195]; decide) (by rw [c195]; decide) (by rw [c195]; decide) (by decide) ?_
                                                    refine pg_aload_n dL_law_1492 rfl ?_
                                                    obtain ⟨r196, h_r196, h⟩ := bd_at h
                                                    refine eg_lVi (C := mX11_run) (as := []) dL_law_1493 mw1314 cv_X11_run hS sp0 (Nat.le_of_ble_eq_true rfl) (Nat.le_of_ble_eq_true rfl) rfl rfl rfl (Nat.le_of_ble_eq_true rfl) rfl ⟨(Nat.le_of_ble_eq_true rfl), (Nat.le_of_ble_eq_true rfl)⟩ hk0 (ct_X11_run hfl (hS.sub (Nat.le_of_ble_eq_true rfl) (Nat.le_of_ble_eq_true rfl)) h_r196) ?_
                                                    refine pg_aload_n dL_law_1496 rfl ?_
                                                    obtain ⟨r197, h_r197, h⟩ := bd_at h
                                                    refine eg_lVi (C := mX12_run) (as := []) dL_law_1497 mw1319 cv_X12_run hS sp128 (Nat.le_of_ble_eq_true rfl) (Nat.le_of_ble_eq_true rfl) rfl rfl rfl (Nat.le_of_ble_eq_true rfl) rfl ⟨(Nat.le_of_ble_eq_true rfl), (Nat.le_of_ble_eq_true rfl)⟩ hk0 (ct_X12_run hfl (hS.sub (Nat.le_of_ble_eq_true rfl) (Nat.le_of_ble_eq_true rfl)) h_r197) ?_
                                                    refine pg_icmp_eq 1563 dL_law_1500 (by decide) (fun c198 => ?_) (fun c198 => ?_)
                                                    · rw [if_pos c198] at h
                                                      obtain ⟨w199, e_w199⟩ : ∃ z : Int32, z = s.1 + 4 := ⟨_, rfl⟩
                                                      replace h := lt_at h e_w199
                                                      refine eg_iinc [some (.retAddr 0), some (.ref 0), some (.ref 128), some (.ref 137), some (.int w199), none, none] w199 4 dL_law_1563 rfl rfl e_w199 rfl ?_
                                                      refine pg_goto 23 dL_law_1566 (by decide) ?_
                                                      obtain rfl := Option.some.inj h
                                                      refine pg_widen (k' := k + 1) (n' := n + 6) (Nat.le_add_right _ _) (Nat.le_add_right _ _) ?_
                                                      exact hN _ rfl
                                                    · rw [if_neg c198] at h
                                                      refine pg_iconst 0 dL_law_1503 rfl ?_
                                                      obtain rfl := Option.some.inj h
                                                      exact ((hT _ rfl).2 _ rfl).elim
                                                  · rw [if_neg c195] at h
                                                    by_cases c200 : (g.2.2.2.2.1.2 s.1.toNatClampNeg) &&& 31 = 24
                                                    · rw [if_pos c200] at h
                                                      refine pg_tabIn (off := 1466) 1505 dL_law_39 (by rw [c200]; decide) (by rw [c200]; decide) (by rw [c200]; decide) (by decide) ?_
                                                      refine pg_aload_n dL_law_1505 rfl ?_
                                                      refine pg_aload_n dL_law_1506 rfl ?_
                                                      obtain ⟨r201, h_r201, h⟩ := bd_at h
                                                      refine eg_cHi (C := mL_undo) (as := [(.ref 0), (.ref 137)]) dL_law_1507 mw1324 my_L_undo mw1327 rfl rfl rfl (Nat.le_of_ble_eq_true rfl) rfl ⟨(Nat.le_of_ble_eq_true rfl), (Nat.le_of_ble_eq_true rfl)⟩ hk (ch_undo hfl hS h_r201) ?_
                                                      refine eg_istore [some (.retAddr 0), some (.ref 0), some (.ref 128), some (.ref 137), some (.int s.1), some (.int r201.1), none] r201.1 dL_law_1510 rfl (Nat.le_of_ble_eq_true rfl) rfl ?_
                                                      refine pg_aload_n dL_law_1512 rfl ?_
                                                      obtain ⟨r202, h_r202, h⟩ := bd_at h
                                                      refine eg_lVi (C := mX12_undo) (as := []) dL_law_1513 mw1328 cv_X12_undo hS sp128 (Nat.le_of_ble_eq_true rfl) (Nat.le_of_ble_eq_true rfl) rfl rfl rfl (Nat.le_of_ble_eq_true rfl) rfl ⟨(Nat.le_of_ble_eq_true rfl), (Nat.le_of_ble_eq_true rfl)⟩ hk (ct_X12_undo hfl (hS.sub (Nat.le_of_ble_eq_true rfl) (Nat.le_of_ble_eq_true rfl)) h_r202) ?_
                                                      refine eg_istore [some (.retAddr 0), some (.ref 0), some (.ref 128), some (.ref 137), some (.int s.1), some (.int r201.1), some (.int r202.1)] r202.1 dL_law_1516 rfl (Nat.le_of_ble_eq_true rfl) rfl ?_
                                                      refine pg_aload_n dL_law_1518 rfl ?_
                                                      obtain ⟨r203, h_r203, h⟩ := bd_at h
                                                      refine eg_lVi (C := mX12_thrown) (as := []) dL_law_1519 mw1111 cv_X12_thrown hS sp128 (Nat.le_of_ble_eq_true rfl) (Nat.le_of_ble_eq_true rfl) rfl rfl rfl (Nat.le_of_ble_eq_true rfl) rfl ⟨(Nat.le_of_ble_eq_true rfl), (Nat.le_of_ble_eq_true rfl)⟩ hk (ct_X12_thrown hfl (hS.sub (Nat.le_of_ble_eq_true rfl) (Nat.le_of_ble_eq_true rfl)) h_r203) ?_
                                                      refine pg_iload dL_law_1522 rfl ?_
                                                      refine pg_icmp_eq 1529 dL_law_1524 (by decide) (fun c204 => ?_) (fun c204 => ?_)
                                                      · rw [if_pos c204] at h
                                                        refine pg_iload dL_law_1529 rfl ?_
                                                        refine pg_if_ne 1546 dL_law_1531 (by decide) (fun c205 => ?_) (fun c205 => ?_)
                                                        · rw [if_neg c205] at h
                                                          refine pg_goto 1563 dL_law_1546 (by decide) ?_
                                                          obtain ⟨w206, e_w206⟩ : ∃ z : Int32, z = s.1 + 4 := ⟨_, rfl⟩
                                                          replace h := lt_at h e_w206
                                                          refine eg_iinc [some (.retAddr 0), some (.ref 0), some (.ref 128), some (.ref 137), some (.int w206), some (.int r201.1), some (.int r202.1)] w206 4 dL_law_1563 rfl rfl e_w206 rfl ?_
                                                          refine pg_goto 23 dL_law_1566 (by decide) ?_
                                                          obtain rfl := Option.some.inj h
                                                          refine eg_forget [some (.retAddr 0), some (.ref 0), some (.ref 128), some (.ref 137), some (.int w206), none, none] (show pm_sub _ _ from ⟨rfl, ⟨rfl, ⟨rfl, ⟨rfl, ⟨rfl, trivial⟩⟩⟩⟩⟩) ?_
                                                          exact hN _ rfl
                                                        · rw [if_pos c205] at h
                                                          refine pg_aload_n dL_law_1534 rfl ?_
                                                          refine pg_iconst 0 dL_law_1535 rfl ?_
                                                          refine eg_laldJ 0 dL_law_1536 hS sp137 (Nat.le_of_ble_eq_true rfl) (Nat.le_of_ble_eq_true rfl) rfl (inR_vp rfl) rfl ?_
                                                          refine pg_iload dL_law_1537 rfl ?_
                                                          refine pg_i2l dL_law_1539 ?_
                                                          refine pg_lcmp dL_law_1540 ?_
                                                          refine pg_if_eq 1546 dL_law_1541 (by decide) (fun c207 => ?_) (fun c207 => ?_)
                                                          · rw [if_pos c207] at h
                                                            refine pg_goto 1563 dL_law_1546 (by decide) ?_
                                                            obtain ⟨w208, e_w208⟩ : ∃ z : Int32, z = s.1 + 4 := ⟨_, rfl⟩
                                                            replace h := lt_at h e_w208
                                                            refine eg_iinc [some (.retAddr 0), some (.ref 0), some (.ref 128), some (.ref 137), some (.int w208), some (.int r201.1), some (.int r202.1)] w208 4 dL_law_1563 rfl rfl e_w208 rfl ?_
                                                            refine pg_goto 23 dL_law_1566 (by decide) ?_
                                                            obtain rfl := Option.some.inj h
                                                            refine eg_forget [some (.retAddr 0), some (.ref 0), some (.ref 128), some (.ref 137), some (.int w208), none, none] (show pm_sub _ _ from ⟨rfl, ⟨rfl, ⟨rfl, ⟨rfl, ⟨rfl, trivial⟩⟩⟩⟩⟩) ?_
                                                            exact hN _ rfl
                                                          · rw [if_neg c207] at h
                                                            refine pg_iconst 0 dL_law_1544 rfl ?_
                                                            obtain rfl := Option.some.inj h
                                                            exact ((hT _ rfl).2 _ rfl).elim
                                                      · rw [if_neg c204] at h
                                                        refine pg_iconst 0 dL_law_1527 rfl ?_
                                                        obtain rfl := Option.some.inj h
                                                        exact ((hT _ rfl).2 _ rfl).elim
                                                    · rw [if_neg c200] at h
                                                      by_cases c209 : (g.2.2.2.2.1.2 s.1.toNatClampNeg) &&& 31 = 25
                                                      · rw [if_pos c209] at h
                                                        refine pg_tabIn (off := 1510) 1549 dL_law_39 (by rw [c209]; decide) (by rw [c209]; decide) (by rw [c209]; decide) (by decide) ?_
                                                        refine pg_aload_n dL_law_1549 rfl ?_
                                                        obtain ⟨r210, h_r210, h⟩ := bd_at h
                                                        refine eg_ltVj (C := mX11_digest) (as := []) dL_law_1550 mw1333 cv_X11_digest hS sp0 (Nat.le_of_ble_eq_true rfl) (Nat.le_of_ble_eq_true rfl) rfl rfl rfl (Nat.le_of_ble_eq_true rfl) rfl ⟨(Nat.le_of_ble_eq_true rfl), (Nat.le_of_ble_eq_true rfl)⟩ hk0 (ct_X11_digest hfl (hS.sub (Nat.le_of_ble_eq_true rfl) (Nat.le_of_ble_eq_true rfl)) h_r210) (fun w211 k_w211 => ?_) (fun e212 k_e212 => ?_)
                                                        · rw [k_w211] at h
                                                          replace h := tr_l h
                                                          refine pg_aload_n dL_law_1553 rfl ?_
                                                          obtain ⟨r213, h_r213, h⟩ := bd_at h
                                                          refine eg_lVj (C := mX12_digest) (as := []) dL_law_1554 mw1338 cv_X12_digest hS sp128 (Nat.le_of_ble_eq_true rfl) (Nat.le_of_ble_eq_true rfl) rfl rfl rfl (Nat.le_of_ble_eq_true rfl) rfl ⟨(Nat.le_of_ble_eq_true rfl), (Nat.le_of_ble_eq_true rfl)⟩ hk0 (ct_X12_digest hfl (hS.sub (Nat.le_of_ble_eq_true rfl) (Nat.le_of_ble_eq_true rfl)) h_r213) ?_
                                                          refine pg_lcmp dL_law_1557 ?_
                                                          refine pg_if_eq 1563 dL_law_1558 (by decide) (fun c214 => ?_) (fun c214 => ?_)
                                                          · rw [if_pos c214] at h
                                                            obtain ⟨w215, e_w215⟩ : ∃ z : Int32, z = s.1 + 4 := ⟨_, rfl⟩
                                                            replace h := lt_at h e_w215
                                                            refine eg_iinc [some (.retAddr 0), some (.ref 0), some (.ref 128), some (.ref 137), some (.int w215), none, none] w215 4 dL_law_1563 rfl rfl e_w215 rfl ?_
                                                            refine pg_goto 23 dL_law_1566 (by decide) ?_
                                                            obtain rfl := Option.some.inj h
                                                            refine pg_widen (k' := k + 1) (n' := n + 6) (Nat.le_add_right _ _) (Nat.le_add_right _ _) ?_
                                                            exact hN _ rfl
                                                          · rw [if_neg c214] at h
                                                            refine pg_iconst 0 dL_law_1561 rfl ?_
                                                            obtain rfl := Option.some.inj h
                                                            exact ((hT _ rfl).2 _ rfl).elim
                                                        · rw [k_e212] at h
                                                          replace h := tr_r h
                                                          cases h
                                                      · rw [if_neg c209] at h
                                                        have k_c2 := lv_neT c2 (show (0 : Int32).toInt = 0 from rfl)
                                                        have k_c11 := lv_neT c11 (show (1 : Int32).toInt = 1 from rfl)
                                                        have k_c20 := lv_neT c20 (show (2 : Int32).toInt = 2 from rfl)
                                                        have k_c29 := lv_neT c29 (show (3 : Int32).toInt = 3 from rfl)
                                                        have k_c38 := lv_neT c38 (show (4 : Int32).toInt = 4 from rfl)
                                                        have k_c47 := lv_neT c47 (show (5 : Int32).toInt = 5 from rfl)
                                                        have k_c56 := lv_neT c56 (show (6 : Int32).toInt = 6 from rfl)
                                                        have k_c65 := lv_neT c65 (show (7 : Int32).toInt = 7 from rfl)
                                                        have k_c74 := lv_neT c74 (show (8 : Int32).toInt = 8 from rfl)
                                                        have k_c83 := lv_neT c83 (show (9 : Int32).toInt = 9 from rfl)
                                                        have k_c92 := lv_neT c92 (show (10 : Int32).toInt = 10 from rfl)
                                                        have k_c97 := lv_neT c97 (show (11 : Int32).toInt = 11 from rfl)
                                                        have k_c106 := lv_neT c106 (show (12 : Int32).toInt = 12 from rfl)
                                                        have k_c115 := lv_neT c115 (show (13 : Int32).toInt = 13 from rfl)
                                                        have k_c120 := lv_neT c120 (show (14 : Int32).toInt = 14 from rfl)
                                                        have k_c129 := lv_neT c129 (show (15 : Int32).toInt = 15 from rfl)
                                                        have k_c140 := lv_neT c140 (show (16 : Int32).toInt = 16 from rfl)
                                                        have k_c149 := lv_neT c149 (show (17 : Int32).toInt = 17 from rfl)
                                                        have k_c158 := lv_neT c158 (show (18 : Int32).toInt = 18 from rfl)
                                                        have k_c167 := lv_neT c167 (show (19 : Int32).toInt = 19 from rfl)
                                                        have k_c176 := lv_neT c176 (show (20 : Int32).toInt = 20 from rfl)
                                                        have k_c181 := lv_neT c181 (show (21 : Int32).toInt = 21 from rfl)
                                                        have k_c190 := lv_neT c190 (show (22 : Int32).toInt = 22 from rfl)
                                                        have k_c195 := lv_neT c195 (show (23 : Int32).toInt = 23 from rfl)
                                                        have k_c200 := lv_neT c200 (show (24 : Int32).toInt = 24 from rfl)
                                                        have k_c209 := lv_neT c209 (show (25 : Int32).toInt = 25 from rfl)
                                                        refine pg_tabOut 1563 dL_law_39 (by omega) (by decide) ?_
                                                        obtain ⟨w216, e_w216⟩ : ∃ z : Int32, z = s.1 + 4 := ⟨_, rfl⟩
                                                        replace h := lt_at h e_w216
                                                        refine eg_iinc [some (.retAddr 0), some (.ref 0), some (.ref 128), some (.ref 137), some (.int w216), none, none] w216 4 dL_law_1563 rfl rfl e_w216 rfl ?_
                                                        refine pg_goto 23 dL_law_1566 (by decide) ?_
                                                        obtain rfl := Option.some.inj h
                                                        refine pg_widen (k' := k + 1) (n' := n + 6) (Nat.le_add_right _ _) (Nat.le_add_right _ _) ?_
                                                        exact hN _ rfl
end
