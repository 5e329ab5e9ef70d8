theorem my1343 : Cond.classLink RL 13 "java/lang/IllegalArgumentException" ∈ pm_tbl := List.mem_filter.mpr ⟨List.mem_of_getElem? (i := 961) (by decide +kernel), by decide +kernel⟩
theorem my1344 : Cond.classLink RL 23 "java/lang/IndexOutOfBoundsException" ∈ pm_tbl := List.mem_filter.mpr ⟨List.mem_of_getElem? (i := 978) (by decide +kernel), by decide +kernel⟩
theorem my1345 : Cond.classLink RL 28 "java/lang/IllegalStateException" ∈ pm_tbl := List.mem_filter.mpr ⟨List.mem_of_getElem? (i := 986) (by decide +kernel), by decide +kernel⟩
/-! Bodies with handlers: the law's helpers. -/
section PMH
variable {g : pm_Gl} {M C : pm_M} {X : pm_X} {pc k n : Nat} {ls : List (Option Value)} {st : List Value} {hp : List va_E} {ads : List Nat}
/-- the ends of a body with handlers: it returns, or catches -/
def pm_EndH (g : pm_Gl) (M : pm_M) (X : pm_X) (kb nb : Nat) (Qn : Option Value → List va_E → Prop) : Prop :=
  (pm_kb X = kb ∧ pm_nb X = nb) ∧
  (∀ (pc : Nat) (ls : List (Option Value)) (hp : List va_E) (k n : Nat) (v : Int32) (ty : FieldType), decode M.2.1 pc = .ok (.ireturn, 1) → M.2.2.2.2.2.1 = some ty → narrow ty (.int v) = .int v → k ≤ kb → n ≤ nb → Qn (some (.int v)) hp → pm_G g M X pc ls [.int v] hp k n) ∧
  (∀ (E : String) (pc : Nat) (ls : List (Option Value)) (st : List Value) (hp : List va_E) (k n : Nat) (pre suf : List (Nat × Nat × Nat × Nat)) (x : Nat × Nat × Nat × Nat), M.2.2.2.2.2.2 = pre ++ x :: suf → E ∈ pm_exc → (∀ z ∈ pre, z.2.2.2 ≠ 0 ∧ ∃ nm, Cond.classLink M.1.cls z.2.2.2 nm ∈ pm_tbl ∧ nm ∈ pm_exc ∧ E ≠ nm) → x.1 ≤ pc ∧ pc < x.2.1 ∧ x.2.2.2 ≠ 0 → Cond.classLink M.1.cls x.2.2.2 E ∈ pm_tbl → pm_G g M X x.2.2.1 ls [.float 0] hp k n → pm_GX g M X E pc ls st hp k n)
theorem pm_exc_nwl {E : String} (h : E ∈ pm_exc) : Cond.castable E E ∈ pm_nwl := by
  simp only [pm_exc, List.mem_cons, List.not_mem_nil, or_false] at h
  rcases h with rfl | rfl | rfl
  · exact List.mem_of_getElem? (i := 0) rfl
  · exact List.mem_of_getElem? (i := 1) rfl
  · exact List.mem_of_getElem? (i := 2) rfl
theorem pm_ofH {kb nb : Nat} {as : List Value} {Qn : Option Value → List va_E → Prop} {x0 : Nat × Nat × Nat × Nat} {r0 : List (Nat × Nat × Nat × Nat)} (hy : plainName M.1.cls = true) (hhh : M.2.2.2.2.2.2 = x0 :: r0) (hlen : (pm_sl as).length ≤ M.2.2.1)
    (body : ∀ X : pm_X, pm_EndH g M X kb nb Qn → pm_G g M X 0 (pm_args as M.2.2.1) [] hp 0 0) : pm_Ct g M as hp kb nb Qn qF := by
  intro a0
  refine vx_ofWH (cc := M.2.1) (maxL := M.2.2.1) (ret := M.2.2.2.2.2.1) (hh := x0 :: r0) (ws' := pm_tbl) hy (by rw [pm_w1 hhh]) ?_
  intro p e s m args below meth c s₁ B hml hPc
  obtain ⟨vs, rfl, hvs, hE, hbs, ws, hh, hP, hD⟩ := hPc
  have hts0 := atoms_spec (ws := pm_w M :: pm_tbl) B.pre
  have hts : ∀ w ∈ pm_tbl, w.before vs.toArray s = true := fun w hw => hts0 w (List.mem_cons_of_mem _ hw)
  have hown : s.vm.findClass M.1.cls = some m.cls := findClass_of_methodNamed B.named
  have htab : c.exceptionTable.toList = tableOf (x0 :: r0) := vx_table (x := M.1) B (by have := hts0 _ List.mem_cons_self; rw [pm_w1 hhh] at this; exact this)
  have ok : pm_ok g M (p, e, s, m, vs.toArray, below, meth, c, vx_MQ below (pm_Qc g a0 Qn) (pm_XC g a0 qF) vs.toArray s kb nb (pm_A g), a0, kb, nb) := ⟨B.exec, B.bytes, hml, hown, hts, hE, hbs, B.notSynchronized, fun hnm => (name_of_methodNamed B.named B.method).1.trans hnm⟩
  rw [lg_entry_eq]
  refine body (p, e, s, m, vs.toArray, below, meth, c, vx_MQ below (pm_Qc g a0 Qn) (pm_XC g a0 qF) vs.toArray s kb nb (pm_A g), a0, kb, nb) ⟨⟨rfl, rfl⟩, ?_, ?_⟩ ok a0 ws s.heap [] _ [] List.prefix_rfl hh hP hD va_S.rf (pm_entry hvs hlen) rfl
  · intro pc ls hp k n v ty hd hr hn hk hn2 hq ok ads ws H locs arr stk ha hh hP hD hS hs hl
    obtain ⟨v0, t0, rfl, e0, hl⟩ := hl
    obtain rfl : v0 = _ := e0
    obtain rfl : t0 = [] := hl
    exact W.widen hk hn2 (vx_ret (W.zret B.exec B.bytes (by rw [B.returns, hr]) hn (fun t ht _ => ⟨some (.int v), some (.int v), hp, ads, rfl, hq, ha, ⟨_, _, rfl, rfl, rfl⟩, ⟨ws, hh, by rw [ht]; exact hP, hD⟩, hS.F ht⟩) hS.2.2 hd))
  · intro E pc ls st hp k n pre suf x hsp hex hpre hcov hlk kk ok ads ws H locs arr stk q ce ha hh hP hD hS hs hl hc1 hc2 hc3
    rw [hhh] at hsp
    refine vx_catch (own := M.1.cls) (name := E) (E := E) hown (tableOf pre) ⟨x.1, x.2.1, x.2.2.1, x.2.2.2⟩ (tableOf suf) (by rw [htab, hsp]; simp [tableOf]) (fun z hz => ?_) ?_ hcov.2.2 (hts _ hlk) (va_Nw.use rfl (hE.2.2.2.2.2.2.2.2.2.2.2.1 _ (pm_exc_nwl hex))) hc1 hc2 hc3 (kk ok ads ws H locs arr _ ha hh hP hD hS hs ⟨_, _, rfl, ⟨q, rfl⟩, rfl⟩)
    · obtain ⟨z0, hz0, rfl⟩ := List.mem_map.mp hz
      obtain ⟨h1, nm, h2, h3, h4⟩ := hpre z0 hz0
      exact Or.inr ⟨h1, nm, hts _ h2, hE.2.2.2.2.2.2.2.2.2.2.2.2.1 E hex nm h3 h4⟩
    · show (decide (x.1 ≤ pc) && decide (pc < x.2.1)) = true
      rw [Bool.and_eq_true, decide_eq_true_eq, decide_eq_true_eq]
      exact ⟨hcov.1, hcov.2.1⟩
/-- a call that may throw, in a body with handlers -/
theorem eg_tHi {np idx ci o : Nat} {as st0 fs : List Value} {S : List sF} {m : me} {a b : Nat} {F : sF} {x : (Int32 ⊕ Nat) × me} (hd : decode M.2.1 pc = .ok (.invokevirtual idx, 3)) (hlk : Cond.methodLink M.1.cls idx C.1 ∈ pm_tbl) (hcv : pm_cv C np ci) (hS : pS a b S) (hs : shs[o]? = some F) (h1 : a ≤ o) (h2 : o < b) (hF : F (m.1 o) (m.2.1 o) (m.2.2 o) = .inr (ci, fs)) (hst : st0 = as.reverse ++ .ref o :: st) (hlen : as.length = np) (hw : (st.map fun v => v.category).sum ≤ 8) (hls : ls.length = M.2.2.1) (hroom : C.2.2.2.1 + 1 ≤ M.2.2.2.1 ∧ 8 + (C.2.2.1 + 11) + C.2.2.2.2.1 ≤ M.2.2.2.2.1) (hk : 1 ≤ pm_kb X ∧ 6 ≤ pm_nb X) (hc : pm_Ct g C (.ref o :: as) (en S m) (kC x) (nC x) (qTI S x) (qX S x)) (kk : ∀ v, x.1 = .inl v → pm_G g M X (pc + 3) ls (.int v :: st) (en S x.2) 0 0) (kx : ∀ e, x.1 = .inr e → pm_GX g M X (xnm e) pc ls st (en S x.2) 1 6) : pm_G g M X pc ls st0 (en S m) 0 0 :=
  eg_tVi hd hlk hcv hS hs h1 h2 hF hst hlen hw hls hroom hc kk (fun e he => ⟨hk, kx e he⟩)
end PMH
section
variable {g : pm_Gl} {X : pm_X} {S : List sF}
def h_setBridges (v1 : Int32) (m0 : me) : Option (Int32 × me) :=
  bd (f_X11_setBridges v1 m0) (fun r =>
  tr r.1 (fun v => lt (wJ r.2 137 0 v.toInt64) (fun m2 => some (0, m2))) (fun e => if e = 1 then some (1, r.2) else none))
set_option maxRecDepth 20000 in
set_option maxHeartbeats 4000000 in
theorem ch_setBridges (hfl : g.1.stackTraces = false) (hS : pS 0 138 S) {v1 : Int32} {m0 : me} {x : Int32 × me} (h : h_setBridges v1 m0 = some x) : pm_Ct g mL_setBridges [.ref 0, .int v1, .ref 137] (en S m0) 1 6 (qI S x) qF := by
  refine pm_ofH (by decide +kernel) rfl (Nat.le_of_ble_eq_true rfl) (fun X hE => ?_)
  show pm_G g mL_setBridges X 0 [some (.ref 0), some (.int v1), some (.ref 137), none] [] (en S m0) 0 0
  unfold h_setBridges at h
  refine pg_aload_n dL_setBridges_0 rfl ?_
  refine pg_iconst 0 dL_setBridges_1 rfl ?_
  refine pg_aload_n dL_setBridges_2 rfl ?_
  refine pg_iload_n dL_setBridges_3 rfl ?_
  obtain ⟨r, hr, h⟩ := bd_at h
  refine eg_tHi (C := mX11_setBridges) (as := [.int v1]) dL_setBridges_4 mw638 cv_X11_setBridges hS sp0 (Nat.le_of_ble_eq_true rfl) (Nat.le_of_ble_eq_true rfl) rfl rfl rfl (Nat.le_of_ble_eq_true rfl) rfl ⟨(Nat.le_of_ble_eq_true rfl), (Nat.le_of_ble_eq_true rfl)⟩ (by rw [hE.1.1, hE.1.2]; exact ⟨(Nat.le_of_ble_eq_true rfl), (Nat.le_of_ble_eq_true rfl)⟩) (ct_X11_setBridges hfl (hS.sub (Nat.le_of_ble_eq_true rfl) (Nat.le_of_ble_eq_true rfl)) hr) (fun v kv => ?_) (fun e ke => ?_)
  · rw [kv] at h
    replace h := tr_l h
    refine pg_i2l dL_setBridges_7 ?_
    refine eg_last dL_setBridges_8 hS sp137 (Nat.le_of_ble_eq_true rfl) (Nat.le_of_ble_eq_true rfl) (fun _ _ _ => rfl) (inR_vp rfl) (fun m2 e_m2 => ?_)
    replace h := lt_at h e_m2
    refine pg_goto 15 dL_setBridges_9 (by decide) ?_
    refine pg_iconst 0 dL_setBridges_15 rfl ?_
    obtain rfl := Option.some.inj h
    exact hE.2.1 _ _ _ _ _ _ .int dL_setBridges_16 rfl rfl (Nat.zero_le _) (Nat.zero_le _) ⟨rfl, rfl⟩
  · rw [ke] at h
    replace h := tr_r h
    by_cases c0 : e = 1
    · rw [if_pos c0] at h
      subst c0
      refine hE.2.2 "java/lang/IllegalArgumentException" _ _ _ _ _ _ [] [] (0, 9, 12, 13) rfl (by decide) (fun z hz => absurd hz List.not_mem_nil) ⟨(Nat.le_of_ble_eq_true rfl), (Nat.le_of_ble_eq_true rfl), by decide⟩ my1343 ?_
      refine pg_astoreF_n dL_setBridges_12 (Nat.le_of_ble_eq_true rfl) ?_
      refine pg_iconst 1 dL_setBridges_13 rfl ?_
      obtain rfl := Option.some.inj h
      exact hE.2.1 _ _ _ _ _ _ .int dL_setBridges_14 rfl rfl (Nat.le_of_ble_eq_true rfl) (Nat.le_of_ble_eq_true rfl) ⟨rfl, rfl⟩
    · rw [if_neg c0] at h
      cases h
def h_setTimes (v1 : Int32) (v2 : Int32) (v3 : Int32) (m0 : me) : Option (Int32 × me) :=
  bd (f_X11_setTimes v1 v2 v3 m0) (fun r =>
  tr r.1 (fun v => lt (wJ r.2 137 0 v.toInt64) (fun m2 => some (0, m2))) (fun e => if e = 1 then some (1, r.2) else none))
set_option maxRecDepth 20000 in
set_option maxHeartbeats 4000000 in
theorem ch_setTimes (hfl : g.1.stackTraces = false) (hS : pS 0 138 S) {v1 : Int32} {v2 : Int32} {v3 : Int32} {m0 : me} {x : Int32 × me} (h : h_setTimes v1 v2 v3 m0 = some x) : pm_Ct g mL_setTimes [.ref 0, .int v1, .int v2, .int v3, .ref 137] (en S m0) 1 6 (qI S x) qF := by
  refine pm_ofH (by decide +kernel) rfl (Nat.le_of_ble_eq_true rfl) (fun X hE => ?_)
  show pm_G g mL_setTimes X 0 [some (.ref 0), some (.int v1), some (.int v2), some (.int v3), some (.ref 137), none] [] (en S m0) 0 0
  unfold h_setTimes at h
  refine pg_aload dL_setTimes_0 rfl ?_
  refine pg_iconst 0 dL_setTimes_2 rfl ?_
  refine pg_aload_n dL_setTimes_3 rfl ?_
  refine pg_iload_n dL_setTimes_4 rfl ?_
  refine pg_iload_n dL_setTimes_5 rfl ?_
  refine pg_iload_n dL_setTimes_6 rfl ?_
  obtain ⟨r, hr, h⟩ := bd_at h
  refine eg_tHi (C := mX11_setTimes) (as := [.int v1, .int v2, .int v3]) dL_setTimes_7 mw643 cv_X11_setTimes hS sp0 (Nat.le_of_ble_eq_true rfl) (Nat.le_of_ble_eq_true rfl) rfl rfl rfl (Nat.le_of_ble_eq_true rfl) rfl ⟨(Nat.le_of_ble_eq_true rfl), (Nat.le_of_ble_eq_true rfl)⟩ (by rw [hE.1.1, hE.1.2]; exact ⟨(Nat.le_of_ble_eq_true rfl), (Nat.le_of_ble_eq_true rfl)⟩) (ct_X11_setTimes hfl (hS.sub (Nat.le_of_ble_eq_true rfl) (Nat.le_of_ble_eq_true rfl)) hr) (fun v kv => ?_) (fun e ke => ?_)
  · rw [kv] at h
    replace h := tr_l h
    refine pg_i2l dL_setTimes_10 ?_
    refine eg_last dL_setTimes_11 hS sp137 (Nat.le_of_ble_eq_true rfl) (Nat.le_of_ble_eq_true rfl) (fun _ _ _ => rfl) (inR_vp rfl) (fun m2 e_m2 => ?_)
    replace h := lt_at h e_m2
    refine pg_goto 19 dL_setTimes_12 (by decide) ?_
    refine pg_iconst 0 dL_setTimes_19 rfl ?_
    obtain rfl := Option.some.inj h
    exact hE.2.1 _ _ _ _ _ _ .int dL_setTimes_20 rfl rfl (Nat.zero_le _) (Nat.zero_le _) ⟨rfl, rfl⟩
  · rw [ke] at h
    replace h := tr_r h
    by_cases c0 : e = 1
    · rw [if_pos c0] at h
      subst c0
      refine hE.2.2 "java/lang/IllegalArgumentException" _ _ _ _ _ _ [] [] (0, 12, 15, 13) rfl (by decide) (fun z hz => absurd hz List.not_mem_nil) ⟨(Nat.le_of_ble_eq_true rfl), (Nat.le_of_ble_eq_true rfl), by decide⟩ my1343 ?_
      refine pg_astoreF dL_setTimes_15 (Nat.le_of_ble_eq_true rfl) ?_
      refine pg_iconst 1 dL_setTimes_17 rfl ?_
      obtain rfl := Option.some.inj h
      exact hE.2.1 _ _ _ _ _ _ .int dL_setTimes_18 rfl rfl (Nat.le_of_ble_eq_true rfl) (Nat.le_of_ble_eq_true rfl) ⟨rfl, rfl⟩
    · rw [if_neg c0] at h
      cases h
def h_setPriority (v1 : Int32) (v2 : Int32) (m0 : me) : Option (Int32 × me) :=
  bd (f_X11_setPriority v1 v2 m0) (fun r =>
  tr r.1 (fun v => lt (wJ r.2 137 0 v.toInt64) (fun m2 => some (0, m2))) (fun e => if e = 0 then some (1, r.2) else if e = 1 then some (2, r.2) else none))
set_option maxRecDepth 20000 in
set_option maxHeartbeats 4000000 in
theorem ch_setPriority (hfl : g.1.stackTraces = false) (hS : pS 0 138 S) {v1 : Int32} {v2 : Int32} {m0 : me} {x : Int32 × me} (h : h_setPriority v1 v2 m0 = some x) : pm_Ct g mL_setPriority [.ref 0, .int v1, .int v2, .ref 137] (en S m0) 1 6 (qI S x) qF := by
  refine pm_ofH (by decide +kernel) rfl (Nat.le_of_ble_eq_true rfl) (fun X hE => ?_)
  show pm_G g mL_setPriority X 0 [some (.ref 0), some (.int v1), some (.int v2), some (.ref 137), none] [] (en S m0) 0 0
  unfold h_setPriority at h
  refine pg_aload_n dL_setPriority_0 rfl ?_
  refine pg_iconst 0 dL_setPriority_1 rfl ?_
  refine pg_aload_n dL_setPriority_2 rfl ?_
  refine pg_iload_n dL_setPriority_3 rfl ?_
  refine pg_iload_n dL_setPriority_4 rfl ?_
  obtain ⟨r, hr, h⟩ := bd_at h
  refine eg_tHi (C := mX11_setPriority) (as := [.int v1, .int v2]) dL_setPriority_5 mw648 cv_X11_setPriority hS sp0 (Nat.le_of_ble_eq_true rfl) (Nat.le_of_ble_eq_true rfl) rfl rfl rfl (Nat.le_of_ble_eq_true rfl) rfl ⟨(Nat.le_of_ble_eq_true rfl), (Nat.le_of_ble_eq_true rfl)⟩ (by rw [hE.1.1, hE.1.2]; exact ⟨(Nat.le_of_ble_eq_true rfl), (Nat.le_of_ble_eq_true rfl)⟩) (ct_X11_setPriority hfl (hS.sub (Nat.le_of_ble_eq_true rfl) (Nat.le_of_ble_eq_true rfl)) hr) (fun v kv => ?_) (fun e ke => ?_)
  · rw [kv] at h
    replace h := tr_l h
    refine pg_i2l dL_setPriority_8 ?_
    refine eg_last dL_setPriority_9 hS sp137 (Nat.le_of_ble_eq_true rfl) (Nat.le_of_ble_eq_true rfl) (fun _ _ _ => rfl) (inR_vp rfl) (fun m2 e_m2 => ?_)
    replace h := lt_at h e_m2
    refine pg_goto 21 dL_setPriority_10 (by decide) ?_
    refine pg_iconst 0 dL_setPriority_21 rfl ?_
    obtain rfl := Option.some.inj h
    exact hE.2.1 _ _ _ _ _ _ .int dL_setPriority_22 rfl rfl (Nat.zero_le _) (Nat.zero_le _) ⟨rfl, rfl⟩
  · rw [ke] at h
    replace h := tr_r h
    by_cases c0 : e = 0
    · rw [if_pos c0] at h
      subst c0
      refine hE.2.2 "java/lang/IndexOutOfBoundsException" _ _ _ _ _ _ [] [(0, 10, 17, 13)] (0, 10, 13, 23) rfl (by decide) (fun z hz => absurd hz List.not_mem_nil) ⟨(Nat.le_of_ble_eq_true rfl), (Nat.le_of_ble_eq_true rfl), by decide⟩ my1344 ?_
      refine pg_astoreF dL_setPriority_13 (Nat.le_of_ble_eq_true rfl) ?_
      refine pg_iconst 1 dL_setPriority_15 rfl ?_
      obtain rfl := Option.some.inj h
      exact hE.2.1 _ _ _ _ _ _ .int dL_setPriority_16 rfl rfl (Nat.le_of_ble_eq_true rfl) (Nat.le_of_ble_eq_true rfl) ⟨rfl, rfl⟩
    · rw [if_neg c0] at h
      by_cases c1 : e = 1
      · rw [if_pos c1] at h
        subst c1
        refine hE.2.2 "java/lang/IllegalArgumentException" _ _ _ _ _ _ [(0, 10, 13, 23)] [] (0, 10, 17, 13) rfl (by decide) (fun z hz => by rw [List.mem_singleton] at hz; subst hz; exact ⟨by decide, "java/lang/IndexOutOfBoundsException", my1344, by decide, by decide⟩) ⟨(Nat.le_of_ble_eq_true rfl), (Nat.le_of_ble_eq_true rfl), by decide⟩ my1343 ?_
        refine pg_astoreF dL_setPriority_17 (Nat.le_of_ble_eq_true rfl) ?_
        refine pg_iconst 2 dL_setPriority_19 rfl ?_
        obtain rfl := Option.some.inj h
        exact hE.2.1 _ _ _ _ _ _ .int dL_setPriority_20 rfl rfl (Nat.le_of_ble_eq_true rfl) (Nat.le_of_ble_eq_true rfl) ⟨rfl, rfl⟩
      · rw [if_neg c1] at h
        cases h
def h_addLink (v1 : Int32) (v2 : Int32) (v3 : Int32) (m0 : me) : Option (Int32 × me) :=
  bd (f_X11_addLink v1 v2 v3 m0) (fun r =>
  tr r.1 (fun v => lt (wJ r.2 137 0 v.toInt64) (fun m2 => some (0, m2))) (fun e => if e = 0 then some (1, r.2) else if e = 1 then some (2, r.2) else if e = 2 then some (3, r.2) else none))
set_option maxRecDepth 20000 in
set_option maxHeartbeats 4000000 in
theorem ch_addLink (hfl : g.1.stackTraces = false) (hS : pS 0 138 S) {v1 : Int32} {v2 : Int32} {v3 : Int32} {m0 : me} {x : Int32 × me} (h : h_addLink v1 v2 v3 m0 = some x) : pm_Ct g mL_addLink [.ref 0, .int v1, .int v2, .int v3, .ref 137] (en S m0) 1 6 (qI S x) qF := by
  refine pm_ofH (by decide +kernel) rfl (Nat.le_of_ble_eq_true rfl) (fun X hE => ?_)
  show pm_G g mL_addLink X 0 [some (.ref 0), some (.int v1), some (.int v2), some (.int v3), some (.ref 137), none] [] (en S m0) 0 0
  unfold h_addLink at h
  refine pg_aload dL_addLink_0 rfl ?_
  refine pg_iconst 0 dL_addLink_2 rfl ?_
  refine pg_aload_n dL_addLink_3 rfl ?_
  refine pg_iload_n dL_addLink_4 rfl ?_
  refine pg_iload_n dL_addLink_5 rfl ?_
  refine pg_iload_n dL_addLink_6 rfl ?_
  obtain ⟨r, hr, h⟩ := bd_at h
  refine eg_tHi (C := mX11_addLink) (as := [.int v1, .int v2, .int v3]) dL_addLink_7 mw653 cv_X11_addLink hS sp0 (Nat.le_of_ble_eq_true rfl) (Nat.le_of_ble_eq_true rfl) rfl rfl rfl (Nat.le_of_ble_eq_true rfl) rfl ⟨(Nat.le_of_ble_eq_true rfl), (Nat.le_of_ble_eq_true rfl)⟩ (by rw [hE.1.1, hE.1.2]; exact ⟨(Nat.le_of_ble_eq_true rfl), (Nat.le_of_ble_eq_true rfl)⟩) (ct_X11_addLink hfl (hS.sub (Nat.le_of_ble_eq_true rfl) (Nat.le_of_ble_eq_true rfl)) hr) (fun v kv => ?_) (fun e ke => ?_)
  · rw [kv] at h
    replace h := tr_l h
    refine pg_i2l dL_addLink_10 ?_
    refine eg_last dL_addLink_11 hS sp137 (Nat.le_of_ble_eq_true rfl) (Nat.le_of_ble_eq_true rfl) (fun _ _ _ => rfl) (inR_vp rfl) (fun m2 e_m2 => ?_)
    replace h := lt_at h e_m2
    refine pg_goto 27 dL_addLink_12 (by decide) ?_
    refine pg_iconst 0 dL_addLink_27 rfl ?_
    obtain rfl := Option.some.inj h
    exact hE.2.1 _ _ _ _ _ _ .int dL_addLink_28 rfl rfl (Nat.zero_le _) (Nat.zero_le _) ⟨rfl, rfl⟩
  · rw [ke] at h
    replace h := tr_r h
    by_cases c0 : e = 0
    · rw [if_pos c0] at h
      subst c0
      refine hE.2.2 "java/lang/IndexOutOfBoundsException" _ _ _ _ _ _ [] [(0, 12, 19, 13), (0, 12, 23, 28)] (0, 12, 15, 23) rfl (by decide) (fun z hz => absurd hz List.not_mem_nil) ⟨(Nat.le_of_ble_eq_true rfl), (Nat.le_of_ble_eq_true rfl), by decide⟩ my1344 ?_
      refine pg_astoreF dL_addLink_15 (Nat.le_of_ble_eq_true rfl) ?_
      refine pg_iconst 1 dL_addLink_17 rfl ?_
      obtain rfl := Option.some.inj h
      exact hE.2.1 _ _ _ _ _ _ .int dL_addLink_18 rfl rfl (Nat.le_of_ble_eq_true rfl) (Nat.le_of_ble_eq_true rfl) ⟨rfl, rfl⟩
    · rw [if_neg c0] at h
      by_cases c1 : e = 1
      · rw [if_pos c1] at h
        subst c1
        refine hE.2.2 "java/lang/IllegalArgumentException" _ _ _ _ _ _ [(0, 12, 15, 23)] [(0, 12, 23, 28)] (0, 12, 19, 13) rfl (by decide) (fun z hz => by rw [List.mem_singleton] at hz; subst hz; exact ⟨by decide, "java/lang/IndexOutOfBoundsException", my1344, by decide, by decide⟩) ⟨(Nat.le_of_ble_eq_true rfl), (Nat.le_of_ble_eq_true rfl), by decide⟩ my1343 ?_
        refine pg_astoreF dL_addLink_19 (Nat.le_of_ble_eq_true rfl) ?_
        refine pg_iconst 2 dL_addLink_21 rfl ?_
        obtain rfl := Option.some.inj h
        exact hE.2.1 _ _ _ _ _ _ .int dL_addLink_22 rfl rfl (Nat.le_of_ble_eq_true rfl) (Nat.le_of_ble_eq_true rfl) ⟨rfl, rfl⟩
      · rw [if_neg c1] at h
        by_cases c2 : e = 2
        · rw [if_pos c2] at h
          subst c2
          refine hE.2.2 "java/lang/IllegalStateException" _ _ _ _ _ _ [(0, 12, 15, 23), (0, 12, 19, 13)] [] (0, 12, 23, 28) rfl (by decide) (fun z hz => by simp only [List.mem_cons, List.not_mem_nil, or_false] at hz; rcases hz with rfl | rfl; exact ⟨by decide, "java/lang/IndexOutOfBoundsException", my1344, by decide, by decide⟩; exact ⟨by decide, "java/lang/IllegalArgumentException", my1343, by decide, by decide⟩) ⟨(Nat.le_of_ble_eq_true rfl), (Nat.le_of_ble_eq_true rfl), by decide⟩ my1345 ?_
          refine pg_astoreF dL_addLink_23 (Nat.le_of_ble_eq_true rfl) ?_
          refine pg_iconst 3 dL_addLink_25 rfl ?_
          obtain rfl := Option.some.inj h
          exact hE.2.1 _ _ _ _ _ _ .int dL_addLink_26 rfl rfl (Nat.le_of_ble_eq_true rfl) (Nat.le_of_ble_eq_true rfl) ⟨rfl, rfl⟩
        · rw [if_neg c2] at h
          cases h
def h_fail (v1 : Int32) (m0 : me) : Option (Int32 × me) :=
  bd (f_X11_fail v1 m0) (fun r =>
  tr r.1 (fun v => lt (wJ r.2 137 0 v.toInt64) (fun m2 => some (0, m2))) (fun e => if e = 0 then some (1, r.2) else if e = 2 then some (2, r.2) else none))
set_option maxRecDepth 20000 in
set_option maxHeartbeats 4000000 in
theorem ch_fail (hfl : g.1.stackTraces = false) (hS : pS 0 138 S) {v1 : Int32} {m0 : me} {x : Int32 × me} (h : h_fail v1 m0 = some x) : pm_Ct g mL_fail [.ref 0, .int v1, .ref 137] (en S m0) 1 6 (qI S x) qF := by
  refine pm_ofH (by decide +kernel) rfl (Nat.le_of_ble_eq_true rfl) (fun X hE => ?_)
  show pm_G g mL_fail X 0 [some (.ref 0), some (.int v1), some (.ref 137), none] [] (en S m0) 0 0
  unfold h_fail at h
  refine pg_aload_n dL_fail_0 rfl ?_
  refine pg_iconst 0 dL_fail_1 rfl ?_
  refine pg_aload_n dL_fail_2 rfl ?_
  refine pg_iload_n dL_fail_3 rfl ?_
  obtain ⟨r, hr, h⟩ := bd_at h
  refine eg_tHi (C := mX11_fail) (as := [.int v1]) dL_fail_4 mw658 cv_X11_fail hS sp0 (Nat.le_of_ble_eq_true rfl) (Nat.le_of_ble_eq_true rfl) rfl rfl rfl (Nat.le_of_ble_eq_true rfl) rfl ⟨(Nat.le_of_ble_eq_true rfl), (Nat.le_of_ble_eq_true rfl)⟩ (by rw [hE.1.1, hE.1.2]; exact ⟨(Nat.le_of_ble_eq_true rfl), (Nat.le_of_ble_eq_true rfl)⟩) (ct_X11_fail hfl (hS.sub (Nat.le_of_ble_eq_true rfl) (Nat.le_of_ble_eq_true rfl)) hr) (fun v kv => ?_) (fun e ke => ?_)
  · rw [kv] at h
    replace h := tr_l h
    refine pg_i2l dL_fail_7 ?_
    refine eg_last dL_fail_8 hS sp137 (Nat.le_of_ble_eq_true rfl) (Nat.le_of_ble_eq_true rfl) (fun _ _ _ => rfl) (inR_vp rfl) (fun m2 e_m2 => ?_)
    replace h := lt_at h e_m2
    refine pg_goto 18 dL_fail_9 (by decide) ?_
    refine pg_iconst 0 dL_fail_18 rfl ?_
    obtain rfl := Option.some.inj h
    exact hE.2.1 _ _ _ _ _ _ .int dL_fail_19 rfl rfl (Nat.zero_le _) (Nat.zero_le _) ⟨rfl, rfl⟩
  · rw [ke] at h
    replace h := tr_r h
    by_cases c0 : e = 0
    · rw [if_pos c0] at h
      subst c0
      refine hE.2.2 "java/lang/IndexOutOfBoundsException" _ _ _ _ _ _ [] [(0, 9, 15, 28)] (0, 9, 12, 23) rfl (by decide) (fun z hz => absurd hz List.not_mem_nil) ⟨(Nat.le_of_ble_eq_true rfl), (Nat.le_of_ble_eq_true rfl), by decide⟩ my1344 ?_
      refine pg_astoreF_n dL_fail_12 (Nat.le_of_ble_eq_true rfl) ?_
      refine pg_iconst 1 dL_fail_13 rfl ?_
      obtain rfl := Option.some.inj h
      exact hE.2.1 _ _ _ _ _ _ .int dL_fail_14 rfl rfl (Nat.le_of_ble_eq_true rfl) (Nat.le_of_ble_eq_true rfl) ⟨rfl, rfl⟩
    · rw [if_neg c0] at h
      by_cases c1 : e = 2
      · rw [if_pos c1] at h
        subst c1
        refine hE.2.2 "java/lang/IllegalStateException" _ _ _ _ _ _ [(0, 9, 12, 23)] [] (0, 9, 15, 28) rfl (by decide) (fun z hz => by rw [List.mem_singleton] at hz; subst hz; exact ⟨by decide, "java/lang/IndexOutOfBoundsException", my1344, by decide, by decide⟩) ⟨(Nat.le_of_ble_eq_true rfl), (Nat.le_of_ble_eq_true rfl), by decide⟩ my1345 ?_
        refine pg_astoreF_n dL_fail_15 (Nat.le_of_ble_eq_true rfl) ?_
        refine pg_iconst 2 dL_fail_16 rfl ?_
        obtain rfl := Option.some.inj h
        exact hE.2.1 _ _ _ _ _ _ .int dL_fail_17 rfl rfl (Nat.le_of_ble_eq_true rfl) (Nat.le_of_ble_eq_true rfl) ⟨rfl, rfl⟩
      · rw [if_neg c1] at h
        cases h
def h_fix (v1 : Int32) (m0 : me) : Option (Int32 × me) :=
  bd (f_X11_fix v1 m0) (fun r =>
  tr r.1 (fun v => lt (wJ r.2 137 0 v.toInt64) (fun m2 => some (0, m2))) (fun e => if e = 0 then some (1, r.2) else if e = 2 then some (2, r.2) else none))
set_option maxRecDepth 20000 in
set_option maxHeartbeats 4000000 in
theorem ch_fix (hfl : g.1.stackTraces = false) (hS : pS 0 138 S) {v1 : Int32} {m0 : me} {x : Int32 × me} (h : h_fix v1 m0 = some x) : pm_Ct g mL_fix [.ref 0, .int v1, .ref 137] (en S m0) 1 6 (qI S x) qF := by
  refine pm_ofH (by decide +kernel) rfl (Nat.le_of_ble_eq_true rfl) (fun X hE => ?_)
  show pm_G g mL_fix X 0 [some (.ref 0), some (.int v1), some (.ref 137), none] [] (en S m0) 0 0
  unfold h_fix at h
  refine pg_aload_n dL_fix_0 rfl ?_
  refine pg_iconst 0 dL_fix_1 rfl ?_
  refine pg_aload_n dL_fix_2 rfl ?_
  refine pg_iload_n dL_fix_3 rfl ?_
  obtain ⟨r, hr, h⟩ := bd_at h
  refine eg_tHi (C := mX11_fix) (as := [.int v1]) dL_fix_4 mw663 cv_X11_fix hS sp0 (Nat.le_of_ble_eq_true rfl) (Nat.le_of_ble_eq_true rfl) rfl rfl rfl (Nat.le_of_ble_eq_true rfl) rfl ⟨(Nat.le_of_ble_eq_true rfl), (Nat.le_of_ble_eq_true rfl)⟩ (by rw [hE.1.1, hE.1.2]; exact ⟨(Nat.le_of_ble_eq_true rfl), (Nat.le_of_ble_eq_true rfl)⟩) (ct_X11_fix hfl (hS.sub (Nat.le_of_ble_eq_true rfl) (Nat.le_of_ble_eq_true rfl)) hr) (fun v kv => ?_) (fun e ke => ?_)
  · rw [kv] at h
    replace h := tr_l h
    refine pg_i2l dL_fix_7 ?_
    refine eg_last dL_fix_8 hS sp137 (Nat.le_of_ble_eq_true rfl) (Nat.le_of_ble_eq_true rfl) (fun _ _ _ => rfl) (inR_vp rfl) (fun m2 e_m2 => ?_)
    replace h := lt_at h e_m2
    refine pg_goto 18 dL_fix_9 (by decide) ?_
    refine pg_iconst 0 dL_fix_18 rfl ?_
    obtain rfl := Option.some.inj h
    exact hE.2.1 _ _ _ _ _ _ .int dL_fix_19 rfl rfl (Nat.zero_le _) (Nat.zero_le _) ⟨rfl, rfl⟩
  · rw [ke] at h
    replace h := tr_r h
    by_cases c0 : e = 0
    · rw [if_pos c0] at h
      subst c0
      refine hE.2.2 "java/lang/IndexOutOfBoundsException" _ _ _ _ _ _ [] [(0, 9, 15, 28)] (0, 9, 12, 23) rfl (by decide) (fun z hz => absurd hz List.not_mem_nil) ⟨(Nat.le_of_ble_eq_true rfl), (Nat.le_of_ble_eq_true rfl), by decide⟩ my1344 ?_
      refine pg_astoreF_n dL_fix_12 (Nat.le_of_ble_eq_true rfl) ?_
      refine pg_iconst 1 dL_fix_13 rfl ?_
      obtain rfl := Option.some.inj h
      exact hE.2.1 _ _ _ _ _ _ .int dL_fix_14 rfl rfl (Nat.le_of_ble_eq_true rfl) (Nat.le_of_ble_eq_true rfl) ⟨rfl, rfl⟩
    · rw [if_neg c0] at h
      by_cases c1 : e = 2
      · rw [if_pos c1] at h
        subst c1
        refine hE.2.2 "java/lang/IllegalStateException" _ _ _ _ _ _ [(0, 9, 12, 23)] [] (0, 9, 15, 28) rfl (by decide) (fun z hz => by rw [List.mem_singleton] at hz; subst hz; exact ⟨by decide, "java/lang/IndexOutOfBoundsException", my1344, by decide, by decide⟩) ⟨(Nat.le_of_ble_eq_true rfl), (Nat.le_of_ble_eq_true rfl), by decide⟩ my1345 ?_
        refine pg_astoreF_n dL_fix_15 (Nat.le_of_ble_eq_true rfl) ?_
        refine pg_iconst 2 dL_fix_16 rfl ?_
        obtain rfl := Option.some.inj h
        exact hE.2.1 _ _ _ _ _ _ .int dL_fix_17 rfl rfl (Nat.le_of_ble_eq_true rfl) (Nat.le_of_ble_eq_true rfl) ⟨rfl, rfl⟩
      · rw [if_neg c1] at h
        cases h
def h_moveHost (v1 : Int32) (v2 : Int32) (m0 : me) : Option (Int32 × me) :=
  bd (f_X11_moveHost v1 v2 m0) (fun r =>
  tr r.1 (fun v => lt (wJ r.2 137 0 v.toInt64) (fun m2 => some (0, m2))) (fun e => if e = 0 then some (1, r.2) else none))
set_option maxRecDepth 20000 in
set_option maxHeartbeats 4000000 in
theorem ch_moveHost (hfl : g.1.stackTraces = false) (hS : pS 0 138 S) {v1 : Int32} {v2 : Int32} {m0 : me} {x : Int32 × me} (h : h_moveHost v1 v2 m0 = some x) : pm_Ct g mL_moveHost [.ref 0, .int v1, .int v2, .ref 137] (en S m0) 1 6 (qI S x) qF := by
  refine pm_ofH (by decide +kernel) rfl (Nat.le_of_ble_eq_true rfl) (fun X hE => ?_)
  show pm_G g mL_moveHost X 0 [some (.ref 0), some (.int v1), some (.int v2), some (.ref 137), none] [] (en S m0) 0 0
  unfold h_moveHost at h
  refine pg_aload_n dL_moveHost_0 rfl ?_
  refine pg_iconst 0 dL_moveHost_1 rfl ?_
  refine pg_aload_n dL_moveHost_2 rfl ?_
  refine pg_iload_n dL_moveHost_3 rfl ?_
  refine pg_iload_n dL_moveHost_4 rfl ?_
  obtain ⟨r, hr, h⟩ := bd_at h
  refine eg_tHi (C := mX11_moveHost) (as := [.int v1, .int v2]) dL_moveHost_5 mw668 cv_X11_moveHost hS sp0 (Nat.le_of_ble_eq_true rfl) (Nat.le_of_ble_eq_true rfl) rfl rfl rfl (Nat.le_of_ble_eq_true rfl) rfl ⟨(Nat.le_of_ble_eq_true rfl), (Nat.le_of_ble_eq_true rfl)⟩ (by rw [hE.1.1, hE.1.2]; exact ⟨(Nat.le_of_ble_eq_true rfl), (Nat.le_of_ble_eq_true rfl)⟩) (ct_X11_moveHost hfl (hS.sub (Nat.le_of_ble_eq_true rfl) (Nat.le_of_ble_eq_true rfl)) hr) (fun v kv => ?_) (fun e ke => ?_)
  · rw [kv] at h
    replace h := tr_l h
    refine pg_i2l dL_moveHost_8 ?_
    refine eg_last dL_moveHost_9 hS sp137 (Nat.le_of_ble_eq_true rfl) (Nat.le_of_ble_eq_true rfl) (fun _ _ _ => rfl) (inR_vp rfl) (fun m2 e_m2 => ?_)
    replace h := lt_at h e_m2
    refine pg_goto 17 dL_moveHost_10 (by decide) ?_
    refine pg_iconst 0 dL_moveHost_17 rfl ?_
    obtain rfl := Option.some.inj h
    exact hE.2.1 _ _ _ _ _ _ .int dL_moveHost_18 rfl rfl (Nat.zero_le _) (Nat.zero_le _) ⟨rfl, rfl⟩
  · rw [ke] at h
    replace h := tr_r h
    by_cases c0 : e = 0
    · rw [if_pos c0] at h
      subst c0
      refine hE.2.2 "java/lang/IndexOutOfBoundsException" _ _ _ _ _ _ [] [] (0, 10, 13, 23) rfl (by decide) (fun z hz => absurd hz List.not_mem_nil) ⟨(Nat.le_of_ble_eq_true rfl), (Nat.le_of_ble_eq_true rfl), by decide⟩ my1344 ?_
      refine pg_astoreF dL_moveHost_13 (Nat.le_of_ble_eq_true rfl) ?_
      refine pg_iconst 1 dL_moveHost_15 rfl ?_
      obtain rfl := Option.some.inj h
      exact hE.2.1 _ _ _ _ _ _ .int dL_moveHost_16 rfl rfl (Nat.le_of_ble_eq_true rfl) (Nat.le_of_ble_eq_true rfl) ⟨rfl, rfl⟩
    · rw [if_neg c0] at h
      cases h
def h_bid (v1 : Int32) (v2 : Int32) (v3 : Int32) (m0 : me) : Option (Int32 × me) :=
  bd (f_X11_bid v1 v2 v3 m0) (fun r =>
  tr r.1 (fun v => lt (wJ r.2 137 0 v.toInt64) (fun m2 => some (0, m2))) (fun e => if e = 0 then some (1, r.2) else if e = 1 then some (2, r.2) else none))
set_option maxRecDepth 20000 in
set_option maxHeartbeats 4000000 in
theorem ch_bid (hfl : g.1.stackTraces = false) (hS : pS 0 138 S) {v1 : Int32} {v2 : Int32} {v3 : Int32} {m0 : me} {x : Int32 × me} (h : h_bid v1 v2 v3 m0 = some x) : pm_Ct g mL_bid [.ref 0, .int v1, .int v2, .int v3, .ref 137] (en S m0) 1 6 (qI S x) qF := by
  refine pm_ofH (by decide +kernel) rfl (Nat.le_of_ble_eq_true rfl) (fun X hE => ?_)
  show pm_G g mL_bid X 0 [some (.ref 0), some (.int v1), some (.int v2), some (.int v3), some (.ref 137), none] [] (en S m0) 0 0
  unfold h_bid at h
  refine pg_aload dL_bid_0 rfl ?_
  refine pg_iconst 0 dL_bid_2 rfl ?_
  refine pg_aload_n dL_bid_3 rfl ?_
  refine pg_iload_n dL_bid_4 rfl ?_
  refine pg_iload_n dL_bid_5 rfl ?_
  refine pg_iload_n dL_bid_6 rfl ?_
  obtain ⟨r, hr, h⟩ := bd_at h
  refine eg_tHi (C := mX11_bid) (as := [.int v1, .int v2, .int v3]) dL_bid_7 mw673 cv_X11_bid hS sp0 (Nat.le_of_ble_eq_true rfl) (Nat.le_of_ble_eq_true rfl) rfl rfl rfl (Nat.le_of_ble_eq_true rfl) rfl ⟨(Nat.le_of_ble_eq_true rfl), (Nat.le_of_ble_eq_true rfl)⟩ (by rw [hE.1.1, hE.1.2]; exact ⟨(Nat.le_of_ble_eq_true rfl), (Nat.le_of_ble_eq_true rfl)⟩) (ct_X11_bid hfl (hS.sub (Nat.le_of_ble_eq_true rfl) (Nat.le_of_ble_eq_true rfl)) hr) (fun v kv => ?_) (fun e ke => ?_)
  · rw [kv] at h
    replace h := tr_l h
    refine pg_i2l dL_bid_10 ?_
    refine eg_last dL_bid_11 hS sp137 (Nat.le_of_ble_eq_true rfl) (Nat.le_of_ble_eq_true rfl) (fun _ _ _ => rfl) (inR_vp rfl) (fun m2 e_m2 => ?_)
    replace h := lt_at h e_m2
    refine pg_goto 23 dL_bid_12 (by decide) ?_
    refine pg_iconst 0 dL_bid_23 rfl ?_
    obtain rfl := Option.some.inj h
    exact hE.2.1 _ _ _ _ _ _ .int dL_bid_24 rfl rfl (Nat.zero_le _) (Nat.zero_le _) ⟨rfl, rfl⟩
  · rw [ke] at h
    replace h := tr_r h
    by_cases c0 : e = 0
    · rw [if_pos c0] at h
      subst c0
      refine hE.2.2 "java/lang/IndexOutOfBoundsException" _ _ _ _ _ _ [] [(0, 12, 19, 13)] (0, 12, 15, 23) rfl (by decide) (fun z hz => absurd hz List.not_mem_nil) ⟨(Nat.le_of_ble_eq_true rfl), (Nat.le_of_ble_eq_true rfl), by decide⟩ my1344 ?_
      refine pg_astoreF dL_bid_15 (Nat.le_of_ble_eq_true rfl) ?_
      refine pg_iconst 1 dL_bid_17 rfl ?_
      obtain rfl := Option.some.inj h
      exact hE.2.1 _ _ _ _ _ _ .int dL_bid_18 rfl rfl (Nat.le_of_ble_eq_true rfl) (Nat.le_of_ble_eq_true rfl) ⟨rfl, rfl⟩
    · rw [if_neg c0] at h
      by_cases c1 : e = 1
      · rw [if_pos c1] at h
        subst c1
        refine hE.2.2 "java/lang/IllegalArgumentException" _ _ _ _ _ _ [(0, 12, 15, 23)] [] (0, 12, 19, 13) rfl (by decide) (fun z hz => by rw [List.mem_singleton] at hz; subst hz; exact ⟨by decide, "java/lang/IndexOutOfBoundsException", my1344, by decide, by decide⟩) ⟨(Nat.le_of_ble_eq_true rfl), (Nat.le_of_ble_eq_true rfl), by decide⟩ my1343 ?_
        refine pg_astoreF dL_bid_19 (Nat.le_of_ble_eq_true rfl) ?_
        refine pg_iconst 2 dL_bid_21 rfl ?_
        obtain rfl := Option.some.inj h
        exact hE.2.1 _ _ _ _ _ _ .int dL_bid_22 rfl rfl (Nat.le_of_ble_eq_true rfl) (Nat.le_of_ble_eq_true rfl) ⟨rfl, rfl⟩
      · rw [if_neg c1] at h
        cases h
def h_grant (v1 : Int32) (v2 : Int32) (m0 : me) : Option (Int32 × me) :=
  bd (f_X11_grant v1 v2 m0) (fun r =>
  tr r.1 (fun v => lt (wJ r.2 137 0 v.toInt64) (fun m2 => some (0, m2))) (fun e => if e = 0 then some (1, r.2) else if e = 1 then some (2, r.2) else if e = 2 then some (3, r.2) else none))
set_option maxRecDepth 20000 in
set_option maxHeartbeats 4000000 in
theorem ch_grant (hfl : g.1.stackTraces = false) (hS : pS 0 138 S) {v1 : Int32} {v2 : Int32} {m0 : me} {x : Int32 × me} (h : h_grant v1 v2 m0 = some x) : pm_Ct g mL_grant [.ref 0, .int v1, .int v2, .ref 137] (en S m0) 1 6 (qI S x) qF := by
  refine pm_ofH (by decide +kernel) rfl (Nat.le_of_ble_eq_true rfl) (fun X hE => ?_)
  show pm_G g mL_grant X 0 [some (.ref 0), some (.int v1), some (.int v2), some (.ref 137), none] [] (en S m0) 0 0
  unfold h_grant at h
  refine pg_aload_n dL_grant_0 rfl ?_
  refine pg_iconst 0 dL_grant_1 rfl ?_
  refine pg_aload_n dL_grant_2 rfl ?_
  refine pg_iload_n dL_grant_3 rfl ?_
  refine pg_iload_n dL_grant_4 rfl ?_
  obtain ⟨r, hr, h⟩ := bd_at h
  refine eg_tHi (C := mX11_grant) (as := [.int v1, .int v2]) dL_grant_5 mw678 cv_X11_grant hS sp0 (Nat.le_of_ble_eq_true rfl) (Nat.le_of_ble_eq_true rfl) rfl rfl rfl (Nat.le_of_ble_eq_true rfl) rfl ⟨(Nat.le_of_ble_eq_true rfl), (Nat.le_of_ble_eq_true rfl)⟩ (by rw [hE.1.1, hE.1.2]; exact ⟨(Nat.le_of_ble_eq_true rfl), (Nat.le_of_ble_eq_true rfl)⟩) (ct_X11_grant hfl (hS.sub (Nat.le_of_ble_eq_true rfl) (Nat.le_of_ble_eq_true rfl)) hr) (fun v kv => ?_) (fun e ke => ?_)
  · rw [kv] at h
    replace h := tr_l h
    refine pg_i2l dL_grant_8 ?_
    refine eg_last dL_grant_9 hS sp137 (Nat.le_of_ble_eq_true rfl) (Nat.le_of_ble_eq_true rfl) (fun _ _ _ => rfl) (inR_vp rfl) (fun m2 e_m2 => ?_)
    replace h := lt_at h e_m2
    refine pg_goto 25 dL_grant_10 (by decide) ?_
    refine pg_iconst 0 dL_grant_25 rfl ?_
    obtain rfl := Option.some.inj h
    exact hE.2.1 _ _ _ _ _ _ .int dL_grant_26 rfl rfl (Nat.zero_le _) (Nat.zero_le _) ⟨rfl, rfl⟩
  · rw [ke] at h
    replace h := tr_r h
    by_cases c0 : e = 0
    · rw [if_pos c0] at h
      subst c0
      refine hE.2.2 "java/lang/IndexOutOfBoundsException" _ _ _ _ _ _ [] [(0, 10, 17, 13), (0, 10, 21, 28)] (0, 10, 13, 23) rfl (by decide) (fun z hz => absurd hz List.not_mem_nil) ⟨(Nat.le_of_ble_eq_true rfl), (Nat.le_of_ble_eq_true rfl), by decide⟩ my1344 ?_
      refine pg_astoreF dL_grant_13 (Nat.le_of_ble_eq_true rfl) ?_
      refine pg_iconst 1 dL_grant_15 rfl ?_
      obtain rfl := Option.some.inj h
      exact hE.2.1 _ _ _ _ _ _ .int dL_grant_16 rfl rfl (Nat.le_of_ble_eq_true rfl) (Nat.le_of_ble_eq_true rfl) ⟨rfl, rfl⟩
    · rw [if_neg c0] at h
      by_cases c1 : e = 1
      · rw [if_pos c1] at h
        subst c1
        refine hE.2.2 "java/lang/IllegalArgumentException" _ _ _ _ _ _ [(0, 10, 13, 23)] [(0, 10, 21, 28)] (0, 10, 17, 13) rfl (by decide) (fun z hz => by rw [List.mem_singleton] at hz; subst hz; exact ⟨by decide, "java/lang/IndexOutOfBoundsException", my1344, by decide, by decide⟩) ⟨(Nat.le_of_ble_eq_true rfl), (Nat.le_of_ble_eq_true rfl), by decide⟩ my1343 ?_
        refine pg_astoreF dL_grant_17 (Nat.le_of_ble_eq_true rfl) ?_
        refine pg_iconst 2 dL_grant_19 rfl ?_
        obtain rfl := Option.some.inj h
        exact hE.2.1 _ _ _ _ _ _ .int dL_grant_20 rfl rfl (Nat.le_of_ble_eq_true rfl) (Nat.le_of_ble_eq_true rfl) ⟨rfl, rfl⟩
      · rw [if_neg c1] at h
        by_cases c2 : e = 2
        · rw [if_pos c2] at h
          subst c2
          refine hE.2.2 "java/lang/IllegalStateException" _ _ _ _ _ _ [(0, 10, 13, 23), (0, 10, 17, 13)] [] (0, 10, 21, 28) rfl (by decide) (fun z hz => by simp only [List.mem_cons, List.not_mem_nil, or_false] at hz; rcases hz with rfl | rfl; exact ⟨by decide, "java/lang/IndexOutOfBoundsException", my1344, by decide, by decide⟩; exact ⟨by decide, "java/lang/IllegalArgumentException", my1343, by decide, by decide⟩) ⟨(Nat.le_of_ble_eq_true rfl), (Nat.le_of_ble_eq_true rfl), by decide⟩ my1345 ?_
          refine pg_astoreF dL_grant_21 (Nat.le_of_ble_eq_true rfl) ?_
          refine pg_iconst 3 dL_grant_23 rfl ?_
          obtain rfl := Option.some.inj h
          exact hE.2.1 _ _ _ _ _ _ .int dL_grant_24 rfl rfl (Nat.le_of_ble_eq_true rfl) (Nat.le_of_ble_eq_true rfl) ⟨rfl, rfl⟩
        · rw [if_neg c2] at h
          cases h
def h_tick (v1 : Int32) (m0 : me) : Option (Int32 × me) :=
  bd (f_X11_tick v1 m0) (fun r =>
  tr r.1 (fun v => lt (wJ r.2 137 0 v.toInt64) (fun m2 => some (0, m2))) (fun e => if e = 1 then some (1, r.2) else none))
set_option maxRecDepth 20000 in
set_option maxHeartbeats 4000000 in
theorem ch_tick (hfl : g.1.stackTraces = false) (hS : pS 0 138 S) {v1 : Int32} {m0 : me} {x : Int32 × me} (h : h_tick v1 m0 = some x) : pm_Ct g mL_tick [.ref 0, .int v1, .ref 137] (en S m0) 1 6 (qI S x) qF := by
  refine pm_ofH (by decide +kernel) rfl (Nat.le_of_ble_eq_true rfl) (fun X hE => ?_)
  show pm_G g mL_tick X 0 [some (.ref 0), some (.int v1), some (.ref 137), none] [] (en S m0) 0 0
  unfold h_tick at h
  refine pg_aload_n dL_tick_0 rfl ?_
  refine pg_iconst 0 dL_tick_1 rfl ?_
  refine pg_aload_n dL_tick_2 rfl ?_
  refine pg_iload_n dL_tick_3 rfl ?_
  obtain ⟨r, hr, h⟩ := bd_at h
  refine eg_tHi (C := mX11_tick) (as := [.int v1]) dL_tick_4 mw684 cv_X11_tick hS sp0 (Nat.le_of_ble_eq_true rfl) (Nat.le_of_ble_eq_true rfl) rfl rfl rfl (Nat.le_of_ble_eq_true rfl) rfl ⟨(Nat.le_of_ble_eq_true rfl), (Nat.le_of_ble_eq_true rfl)⟩ (by rw [hE.1.1, hE.1.2]; exact ⟨(Nat.le_of_ble_eq_true rfl), (Nat.le_of_ble_eq_true rfl)⟩) (ct_X11_tick hfl (hS.sub (Nat.le_of_ble_eq_true rfl) (Nat.le_of_ble_eq_true rfl)) hr) (fun v kv => ?_) (fun e ke => ?_)
  · rw [kv] at h
    replace h := tr_l h
    refine pg_i2l dL_tick_7 ?_
    refine eg_last dL_tick_8 hS sp137 (Nat.le_of_ble_eq_true rfl) (Nat.le_of_ble_eq_true rfl) (fun _ _ _ => rfl) (inR_vp rfl) (fun m2 e_m2 => ?_)
    replace h := lt_at h e_m2
    refine pg_goto 15 dL_tick_9 (by decide) ?_
    refine pg_iconst 0 dL_tick_15 rfl ?_
    obtain rfl := Option.some.inj h
    exact hE.2.1 _ _ _ _ _ _ .int dL_tick_16 rfl rfl (Nat.zero_le _) (Nat.zero_le _) ⟨rfl, rfl⟩
  · rw [ke] at h
    replace h := tr_r h
    by_cases c0 : e = 1
    · rw [if_pos c0] at h
      subst c0
      refine hE.2.2 "java/lang/IllegalArgumentException" _ _ _ _ _ _ [] [] (0, 9, 12, 13) rfl (by decide) (fun z hz => absurd hz List.not_mem_nil) ⟨(Nat.le_of_ble_eq_true rfl), (Nat.le_of_ble_eq_true rfl), by decide⟩ my1343 ?_
      refine pg_astoreF_n dL_tick_12 (Nat.le_of_ble_eq_true rfl) ?_
      refine pg_iconst 1 dL_tick_13 rfl ?_
      obtain rfl := Option.some.inj h
      exact hE.2.1 _ _ _ _ _ _ .int dL_tick_14 rfl rfl (Nat.le_of_ble_eq_true rfl) (Nat.le_of_ble_eq_true rfl) ⟨rfl, rfl⟩
    · rw [if_neg c0] at h
      cases h
def h_send (v1 : Int32) (v2 : Int32) (m0 : me) : Option (Int32 × me) :=
  bd (f_X11_send v1 v2 m0) (fun r =>
  tr r.1 (fun v => lt (wJ r.2 137 0 v.toInt64) (fun m2 => some (0, m2))) (fun e => if e = 0 then some (1, r.2) else if e = 1 then some (2, r.2) else none))
set_option maxRecDepth 20000 in
set_option maxHeartbeats 4000000 in
theorem ch_send (hfl : g.1.stackTraces = false) (hS : pS 0 138 S) {v1 : Int32} {v2 : Int32} {m0 : me} {x : Int32 × me} (h : h_send v1 v2 m0 = some x) : pm_Ct g mL_send [.ref 0, .int v1, .int v2, .ref 137] (en S m0) 1 6 (qI S x) qF := by
  refine pm_ofH (by decide +kernel) rfl (Nat.le_of_ble_eq_true rfl) (fun X hE => ?_)
  show pm_G g mL_send X 0 [some (.ref 0), some (.int v1), some (.int v2), some (.ref 137), none] [] (en S m0) 0 0
  unfold h_send at h
  refine pg_aload_n dL_send_0 rfl ?_
  refine pg_iconst 0 dL_send_1 rfl ?_
  refine pg_aload_n dL_send_2 rfl ?_
  refine pg_iload_n dL_send_3 rfl ?_
  refine pg_iload_n dL_send_4 rfl ?_
  obtain ⟨r, hr, h⟩ := bd_at h
  refine eg_tHi (C := mX11_send) (as := [.int v1, .int v2]) dL_send_5 mw689 cv_X11_send hS sp0 (Nat.le_of_ble_eq_true rfl) (Nat.le_of_ble_eq_true rfl) rfl rfl rfl (Nat.le_of_ble_eq_true rfl) rfl ⟨(Nat.le_of_ble_eq_true rfl), (Nat.le_of_ble_eq_true rfl)⟩ (by rw [hE.1.1, hE.1.2]; exact ⟨(Nat.le_of_ble_eq_true rfl), (Nat.le_of_ble_eq_true rfl)⟩) (ct_X11_send hfl (hS.sub (Nat.le_of_ble_eq_true rfl) (Nat.le_of_ble_eq_true rfl)) hr) (fun v kv => ?_) (fun e ke => ?_)
  · rw [kv] at h
    replace h := tr_l h
    refine pg_i2l dL_send_8 ?_
    refine eg_last dL_send_9 hS sp137 (Nat.le_of_ble_eq_true rfl) (Nat.le_of_ble_eq_true rfl) (fun _ _ _ => rfl) (inR_vp rfl) (fun m2 e_m2 => ?_)
    replace h := lt_at h e_m2
    refine pg_goto 21 dL_send_10 (by decide) ?_
    refine pg_iconst 0 dL_send_21 rfl ?_
    obtain rfl := Option.some.inj h
    exact hE.2.1 _ _ _ _ _ _ .int dL_send_22 rfl rfl (Nat.zero_le _) (Nat.zero_le _) ⟨rfl, rfl⟩
  · rw [ke] at h
    replace h := tr_r h
    by_cases c0 : e = 0
    · rw [if_pos c0] at h
      subst c0
      refine hE.2.2 "java/lang/IndexOutOfBoundsException" _ _ _ _ _ _ [] [(0, 10, 17, 13)] (0, 10, 13, 23) rfl (by decide) (fun z hz => absurd hz List.not_mem_nil) ⟨(Nat.le_of_ble_eq_true rfl), (Nat.le_of_ble_eq_true rfl), by decide⟩ my1344 ?_
      refine pg_astoreF dL_send_13 (Nat.le_of_ble_eq_true rfl) ?_
      refine pg_iconst 1 dL_send_15 rfl ?_
      obtain rfl := Option.some.inj h
      exact hE.2.1 _ _ _ _ _ _ .int dL_send_16 rfl rfl (Nat.le_of_ble_eq_true rfl) (Nat.le_of_ble_eq_true rfl) ⟨rfl, rfl⟩
    · rw [if_neg c0] at h
      by_cases c1 : e = 1
      · rw [if_pos c1] at h
        subst c1
        refine hE.2.2 "java/lang/IllegalArgumentException" _ _ _ _ _ _ [(0, 10, 13, 23)] [] (0, 10, 17, 13) rfl (by decide) (fun z hz => by rw [List.mem_singleton] at hz; subst hz; exact ⟨by decide, "java/lang/IndexOutOfBoundsException", my1344, by decide, by decide⟩) ⟨(Nat.le_of_ble_eq_true rfl), (Nat.le_of_ble_eq_true rfl), by decide⟩ my1343 ?_
        refine pg_astoreF dL_send_17 (Nat.le_of_ble_eq_true rfl) ?_
        refine pg_iconst 2 dL_send_19 rfl ?_
        obtain rfl := Option.some.inj h
        exact hE.2.1 _ _ _ _ _ _ .int dL_send_20 rfl rfl (Nat.le_of_ble_eq_true rfl) (Nat.le_of_ble_eq_true rfl) ⟨rfl, rfl⟩
      · rw [if_neg c1] at h
        cases h
def h_bridge (v1 : Int32) (v2 : Int32) (m0 : me) : Option (Int32 × me) :=
  bd (f_X11_bridge v1 v2 m0) (fun r =>
  tr r.1 (fun v => lt (wJ r.2 137 0 v.toInt64) (fun m2 => some (0, m2))) (fun e => if e = 0 then some (1, r.2) else if e = 1 then some (2, r.2) else none))
set_option maxRecDepth 20000 in
set_option maxHeartbeats 4000000 in
theorem ch_bridge (hfl : g.1.stackTraces = false) (hS : pS 0 138 S) {v1 : Int32} {v2 : Int32} {m0 : me} {x : Int32 × me} (h : h_bridge v1 v2 m0 = some x) : pm_Ct g mL_bridge [.ref 0, .int v1, .int v2, .ref 137] (en S m0) 1 6 (qI S x) qF := by
  refine pm_ofH (by decide +kernel) rfl (Nat.le_of_ble_eq_true rfl) (fun X hE => ?_)
  show pm_G g mL_bridge X 0 [some (.ref 0), some (.int v1), some (.int v2), some (.ref 137), none] [] (en S m0) 0 0
  unfold h_bridge at h
  refine pg_aload_n dL_bridge_0 rfl ?_
  refine pg_iconst 0 dL_bridge_1 rfl ?_
  refine pg_aload_n dL_bridge_2 rfl ?_
  refine pg_iload_n dL_bridge_3 rfl ?_
  refine pg_iload_n dL_bridge_4 rfl ?_
  obtain ⟨r, hr, h⟩ := bd_at h
  refine eg_tHi (C := mX11_bridge) (as := [.int v1, .int v2]) dL_bridge_5 mw738 cv_X11_bridge hS sp0 (Nat.le_of_ble_eq_true rfl) (Nat.le_of_ble_eq_true rfl) rfl rfl rfl (Nat.le_of_ble_eq_true rfl) rfl ⟨(Nat.le_of_ble_eq_true rfl), (Nat.le_of_ble_eq_true rfl)⟩ (by rw [hE.1.1, hE.1.2]; exact ⟨(Nat.le_of_ble_eq_true rfl), (Nat.le_of_ble_eq_true rfl)⟩) (ct_X11_bridge hfl (hS.sub (Nat.le_of_ble_eq_true rfl) (Nat.le_of_ble_eq_true rfl)) hr) (fun v kv => ?_) (fun e ke => ?_)
  · rw [kv] at h
    replace h := tr_l h
    refine pg_i2l dL_bridge_8 ?_
    refine eg_last dL_bridge_9 hS sp137 (Nat.le_of_ble_eq_true rfl) (Nat.le_of_ble_eq_true rfl) (fun _ _ _ => rfl) (inR_vp rfl) (fun m2 e_m2 => ?_)
    replace h := lt_at h e_m2
    refine pg_goto 21 dL_bridge_10 (by decide) ?_
    refine pg_iconst 0 dL_bridge_21 rfl ?_
    obtain rfl := Option.some.inj h
    exact hE.2.1 _ _ _ _ _ _ .int dL_bridge_22 rfl rfl (Nat.zero_le _) (Nat.zero_le _) ⟨rfl, rfl⟩
  · rw [ke] at h
    replace h := tr_r h
    by_cases c0 : e = 0
    · rw [if_pos c0] at h
      subst c0
      refine hE.2.2 "java/lang/IndexOutOfBoundsException" _ _ _ _ _ _ [] [(0, 10, 17, 13)] (0, 10, 13, 23) rfl (by decide) (fun z hz => absurd hz List.not_mem_nil) ⟨(Nat.le_of_ble_eq_true rfl), (Nat.le_of_ble_eq_true rfl), by decide⟩ my1344 ?_
      refine pg_astoreF dL_bridge_13 (Nat.le_of_ble_eq_true rfl) ?_
      refine pg_iconst 1 dL_bridge_15 rfl ?_
      obtain rfl := Option.some.inj h
      exact hE.2.1 _ _ _ _ _ _ .int dL_bridge_16 rfl rfl (Nat.le_of_ble_eq_true rfl) (Nat.le_of_ble_eq_true rfl) ⟨rfl, rfl⟩
    · rw [if_neg c0] at h
      by_cases c1 : e = 1
      · rw [if_pos c1] at h
        subst c1
        refine hE.2.2 "java/lang/IllegalArgumentException" _ _ _ _ _ _ [(0, 10, 13, 23)] [] (0, 10, 17, 13) rfl (by decide) (fun z hz => by rw [List.mem_singleton] at hz; subst hz; exact ⟨by decide, "java/lang/IndexOutOfBoundsException", my1344, by decide, by decide⟩) ⟨(Nat.le_of_ble_eq_true rfl), (Nat.le_of_ble_eq_true rfl), by decide⟩ my1343 ?_
        refine pg_astoreF dL_bridge_17 (Nat.le_of_ble_eq_true rfl) ?_
        refine pg_iconst 2 dL_bridge_19 rfl ?_
        obtain rfl := Option.some.inj h
        exact hE.2.1 _ _ _ _ _ _ .int dL_bridge_20 rfl rfl (Nat.le_of_ble_eq_true rfl) (Nat.le_of_ble_eq_true rfl) ⟨rfl, rfl⟩
      · rw [if_neg c1] at h
        cases h
def h_link (v1 : Int32) (v2 : Int32) (m0 : me) : Option (Int32 × me) :=
  bd (f_X11_link v1 v2 m0) (fun r =>
  tr r.1 (fun v => lt (wJ r.2 137 0 v.toInt64) (fun m2 => some (0, m2))) (fun e => if e = 0 then some (1, r.2) else if e = 1 then some (2, r.2) else none))
set_option maxRecDepth 20000 in
set_option maxHeartbeats 4000000 in
theorem ch_link (hfl : g.1.stackTraces = false) (hS : pS 0 138 S) {v1 : Int32} {v2 : Int32} {m0 : me} {x : Int32 × me} (h : h_link v1 v2 m0 = some x) : pm_Ct g mL_link [.ref 0, .int v1, .int v2, .ref 137] (en S m0) 1 6 (qI S x) qF := by
  refine pm_ofH (by decide +kernel) rfl (Nat.le_of_ble_eq_true rfl) (fun X hE => ?_)
  show pm_G g mL_link X 0 [some (.ref 0), some (.int v1), some (.int v2), some (.ref 137), none] [] (en S m0) 0 0
  unfold h_link at h
  refine pg_aload_n dL_link_0 rfl ?_
  refine pg_iconst 0 dL_link_1 rfl ?_
  refine pg_aload_n dL_link_2 rfl ?_
  refine pg_iload_n dL_link_3 rfl ?_
  refine pg_iload_n dL_link_4 rfl ?_
  obtain ⟨r, hr, h⟩ := bd_at h
  refine eg_tHi (C := mX11_link) (as := [.int v1, .int v2]) dL_link_5 mw739 cv_X11_link hS sp0 (Nat.le_of_ble_eq_true rfl) (Nat.le_of_ble_eq_true rfl) rfl rfl rfl (Nat.le_of_ble_eq_true rfl) rfl ⟨(Nat.le_of_ble_eq_true rfl), (Nat.le_of_ble_eq_true rfl)⟩ (by rw [hE.1.1, hE.1.2]; exact ⟨(Nat.le_of_ble_eq_true rfl), (Nat.le_of_ble_eq_true rfl)⟩) (ct_X11_link hfl (hS.sub (Nat.le_of_ble_eq_true rfl) (Nat.le_of_ble_eq_true rfl)) hr) (fun v kv => ?_) (fun e ke => ?_)
  · rw [kv] at h
    replace h := tr_l h
    refine pg_i2l dL_link_8 ?_
    refine eg_last dL_link_9 hS sp137 (Nat.le_of_ble_eq_true rfl) (Nat.le_of_ble_eq_true rfl) (fun _ _ _ => rfl) (inR_vp rfl) (fun m2 e_m2 => ?_)
    replace h := lt_at h e_m2
    refine pg_goto 21 dL_link_10 (by decide) ?_
    refine pg_iconst 0 dL_link_21 rfl ?_
    obtain rfl := Option.some.inj h
    exact hE.2.1 _ _ _ _ _ _ .int dL_link_22 rfl rfl (Nat.zero_le _) (Nat.zero_le _) ⟨rfl, rfl⟩
  · rw [ke] at h
    replace h := tr_r h
    by_cases c0 : e = 0
    · rw [if_pos c0] at h
      subst c0
      refine hE.2.2 "java/lang/IndexOutOfBoundsException" _ _ _ _ _ _ [] [(0, 10, 17, 13)] (0, 10, 13, 23) rfl (by decide) (fun z hz => absurd hz List.not_mem_nil) ⟨(Nat.le_of_ble_eq_true rfl), (Nat.le_of_ble_eq_true rfl), by decide⟩ my1344 ?_
      refine pg_astoreF dL_link_13 (Nat.le_of_ble_eq_true rfl) ?_
      refine pg_iconst 1 dL_link_15 rfl ?_
      obtain rfl := Option.some.inj h
      exact hE.2.1 _ _ _ _ _ _ .int dL_link_16 rfl rfl (Nat.le_of_ble_eq_true rfl) (Nat.le_of_ble_eq_true rfl) ⟨rfl, rfl⟩
    · rw [if_neg c0] at h
      by_cases c1 : e = 1
      · rw [if_pos c1] at h
        subst c1
        refine hE.2.2 "java/lang/IllegalArgumentException" _ _ _ _ _ _ [(0, 10, 13, 23)] [] (0, 10, 17, 13) rfl (by decide) (fun z hz => by rw [List.mem_singleton] at hz; subst hz; exact ⟨by decide, "java/lang/IndexOutOfBoundsException", my1344, by decide, by decide⟩) ⟨(Nat.le_of_ble_eq_true rfl), (Nat.le_of_ble_eq_true rfl), by decide⟩ my1343 ?_
        refine pg_astoreF dL_link_17 (Nat.le_of_ble_eq_true rfl) ?_
        refine pg_iconst 2 dL_link_19 rfl ?_
        obtain rfl := Option.some.inj h
        exact hE.2.1 _ _ _ _ _ _ .int dL_link_20 rfl rfl (Nat.le_of_ble_eq_true rfl) (Nat.le_of_ble_eq_true rfl) ⟨rfl, rfl⟩
      · rw [if_neg c1] at h
        cases h
def h_port (v1 : Int32) (v2 : Int32) (v3 : Int32) (m0 : me) : Option (Int32 × me) :=
  bd (f_X11_port v1 v2 v3 m0) (fun r =>
  tr r.1 (fun v => lt (wJ r.2 137 0 v.toInt64) (fun m2 => some (0, m2))) (fun e => if e = 0 then some (1, r.2) else if e = 1 then some (2, r.2) else none))
set_option maxRecDepth 20000 in
set_option maxHeartbeats 4000000 in
theorem ch_port (hfl : g.1.stackTraces = false) (hS : pS 0 138 S) {v1 : Int32} {v2 : Int32} {v3 : Int32} {m0 : me} {x : Int32 × me} (h : h_port v1 v2 v3 m0 = some x) : pm_Ct g mL_port [.ref 0, .int v1, .int v2, .int v3, .ref 137] (en S m0) 1 6 (qI S x) qF := by
  refine pm_ofH (by decide +kernel) rfl (Nat.le_of_ble_eq_true rfl) (fun X hE => ?_)
  show pm_G g mL_port X 0 [some (.ref 0), some (.int v1), some (.int v2), some (.int v3), some (.ref 137), none] [] (en S m0) 0 0
  unfold h_port at h
  refine pg_aload dL_port_0 rfl ?_
  refine pg_iconst 0 dL_port_2 rfl ?_
  refine pg_aload_n dL_port_3 rfl ?_
  refine pg_iload_n dL_port_4 rfl ?_
  refine pg_iload_n dL_port_5 rfl ?_
  refine pg_iload_n dL_port_6 rfl ?_
  obtain ⟨r, hr, h⟩ := bd_at h
  refine eg_tHi (C := mX11_port) (as := [.int v1, .int v2, .int v3]) dL_port_7 mw740 cv_X11_port hS sp0 (Nat.le_of_ble_eq_true rfl) (Nat.le_of_ble_eq_true rfl) rfl rfl rfl (Nat.le_of_ble_eq_true rfl) rfl ⟨(Nat.le_of_ble_eq_true rfl), (Nat.le_of_ble_eq_true rfl)⟩ (by rw [hE.1.1, hE.1.2]; exact ⟨(Nat.le_of_ble_eq_true rfl), (Nat.le_of_ble_eq_true rfl)⟩) (ct_X11_port hfl (hS.sub (Nat.le_of_ble_eq_true rfl) (Nat.le_of_ble_eq_true rfl)) hr) (fun v kv => ?_) (fun e ke => ?_)
  · rw [kv] at h
    replace h := tr_l h
    refine pg_i2l dL_port_10 ?_
    refine eg_last dL_port_11 hS sp137 (Nat.le_of_ble_eq_true rfl) (Nat.le_of_ble_eq_true rfl) (fun _ _ _ => rfl) (inR_vp rfl) (fun m2 e_m2 => ?_)
    replace h := lt_at h e_m2
    refine pg_goto 23 dL_port_12 (by decide) ?_
    refine pg_iconst 0 dL_port_23 rfl ?_
    obtain rfl := Option.some.inj h
    exact hE.2.1 _ _ _ _ _ _ .int dL_port_24 rfl rfl (Nat.zero_le _) (Nat.zero_le _) ⟨rfl, rfl⟩
  · rw [ke] at h
    replace h := tr_r h
    by_cases c0 : e = 0
    · rw [if_pos c0] at h
      subst c0
      refine hE.2.2 "java/lang/IndexOutOfBoundsException" _ _ _ _ _ _ [] [(0, 12, 19, 13)] (0, 12, 15, 23) rfl (by decide) (fun z hz => absurd hz List.not_mem_nil) ⟨(Nat.le_of_ble_eq_true rfl), (Nat.le_of_ble_eq_true rfl), by decide⟩ my1344 ?_
      refine pg_astoreF dL_port_15 (Nat.le_of_ble_eq_true rfl) ?_
      refine pg_iconst 1 dL_port_17 rfl ?_
      obtain rfl := Option.some.inj h
      exact hE.2.1 _ _ _ _ _ _ .int dL_port_18 rfl rfl (Nat.le_of_ble_eq_true rfl) (Nat.le_of_ble_eq_true rfl) ⟨rfl, rfl⟩
    · rw [if_neg c0] at h
      by_cases c1 : e = 1
      · rw [if_pos c1] at h
        subst c1
        refine hE.2.2 "java/lang/IllegalArgumentException" _ _ _ _ _ _ [(0, 12, 15, 23)] [] (0, 12, 19, 13) rfl (by decide) (fun z hz => by rw [List.mem_singleton] at hz; subst hz; exact ⟨by decide, "java/lang/IndexOutOfBoundsException", my1344, by decide, by decide⟩) ⟨(Nat.le_of_ble_eq_true rfl), (Nat.le_of_ble_eq_true rfl), by decide⟩ my1343 ?_
        refine pg_astoreF dL_port_19 (Nat.le_of_ble_eq_true rfl) ?_
        refine pg_iconst 2 dL_port_21 rfl ?_
        obtain rfl := Option.some.inj h
        exact hE.2.1 _ _ _ _ _ _ .int dL_port_22 rfl rfl (Nat.le_of_ble_eq_true rfl) (Nat.le_of_ble_eq_true rfl) ⟨rfl, rfl⟩
      · rw [if_neg c1] at h
        cases h
def h_entry (v1 : Int32) (v2 : Int32) (m0 : me) : Option (Int32 × me) :=
  bd (f_X11_entry v1 v2 m0) (fun r =>
  tr r.1 (fun v => lt (wJ r.2 137 0 v.toInt64) (fun m2 => some (0, m2))) (fun e => if e = 0 then some (1, r.2) else none))
set_option maxRecDepth 20000 in
set_option maxHeartbeats 4000000 in
theorem ch_entry (hfl : g.1.stackTraces = false) (hS : pS 0 138 S) {v1 : Int32} {v2 : Int32} {m0 : me} {x : Int32 × me} (h : h_entry v1 v2 m0 = some x) : pm_Ct g mL_entry [.ref 0, .int v1, .int v2, .ref 137] (en S m0) 1 6 (qI S x) qF := by
  refine pm_ofH (by decide +kernel) rfl (Nat.le_of_ble_eq_true rfl) (fun X hE => ?_)
  show pm_G g mL_entry X 0 [some (.ref 0), some (.int v1), some (.int v2), some (.ref 137), none] [] (en S m0) 0 0
  unfold h_entry at h
  refine pg_aload_n dL_entry_0 rfl ?_
  refine pg_iconst 0 dL_entry_1 rfl ?_
  refine pg_aload_n dL_entry_2 rfl ?_
  refine pg_iload_n dL_entry_3 rfl ?_
  refine pg_iload_n dL_entry_4 rfl ?_
  obtain ⟨r, hr, h⟩ := bd_at h
  refine eg_tHi (C := mX11_entry) (as := [.int v1, .int v2]) dL_entry_5 mw741 cv_X11_entry hS sp0 (Nat.le_of_ble_eq_true rfl) (Nat.le_of_ble_eq_true rfl) rfl rfl rfl (Nat.le_of_ble_eq_true rfl) rfl ⟨(Nat.le_of_ble_eq_true rfl), (Nat.le_of_ble_eq_true rfl)⟩ (by rw [hE.1.1, hE.1.2]; exact ⟨(Nat.le_of_ble_eq_true rfl), (Nat.le_of_ble_eq_true rfl)⟩) (ct_X11_entry hfl (hS.sub (Nat.le_of_ble_eq_true rfl) (Nat.le_of_ble_eq_true rfl)) hr) (fun v kv => ?_) (fun e ke => ?_)
  · rw [kv] at h
    replace h := tr_l h
    refine pg_i2l dL_entry_8 ?_
    refine eg_last dL_entry_9 hS sp137 (Nat.le_of_ble_eq_true rfl) (Nat.le_of_ble_eq_true rfl) (fun _ _ _ => rfl) (inR_vp rfl) (fun m2 e_m2 => ?_)
    replace h := lt_at h e_m2
    refine pg_goto 17 dL_entry_10 (by decide) ?_
    refine pg_iconst 0 dL_entry_17 rfl ?_
    obtain rfl := Option.some.inj h
    exact hE.2.1 _ _ _ _ _ _ .int dL_entry_18 rfl rfl (Nat.zero_le _) (Nat.zero_le _) ⟨rfl, rfl⟩
  · rw [ke] at h
    replace h := tr_r h
    by_cases c0 : e = 0
    · rw [if_pos c0] at h
      subst c0
      refine hE.2.2 "java/lang/IndexOutOfBoundsException" _ _ _ _ _ _ [] [] (0, 10, 13, 23) rfl (by decide) (fun z hz => absurd hz List.not_mem_nil) ⟨(Nat.le_of_ble_eq_true rfl), (Nat.le_of_ble_eq_true rfl), by decide⟩ my1344 ?_
      refine pg_astoreF dL_entry_13 (Nat.le_of_ble_eq_true rfl) ?_
      refine pg_iconst 1 dL_entry_15 rfl ?_
      obtain rfl := Option.some.inj h
      exact hE.2.1 _ _ _ _ _ _ .int dL_entry_16 rfl rfl (Nat.le_of_ble_eq_true rfl) (Nat.le_of_ble_eq_true rfl) ⟨rfl, rfl⟩
    · rw [if_neg c0] at h
      cases h
def h_tenant (v1 : Int32) (v2 : Int32) (m0 : me) : Option (Int32 × me) :=
  bd (f_X11_tenant v1 v2 m0) (fun r =>
  tr r.1 (fun v => lt (wJ r.2 137 0 v.toInt64) (fun m2 => some (0, m2))) (fun e => if e = 0 then some (1, r.2) else if e = 1 then some (2, r.2) else none))
set_option maxRecDepth 20000 in
set_option maxHeartbeats 4000000 in
theorem ch_tenant (hfl : g.1.stackTraces = false) (hS : pS 0 138 S) {v1 : Int32} {v2 : Int32} {m0 : me} {x : Int32 × me} (h : h_tenant v1 v2 m0 = some x) : pm_Ct g mL_tenant [.ref 0, .int v1, .int v2, .ref 137] (en S m0) 1 6 (qI S x) qF := by
  refine pm_ofH (by decide +kernel) rfl (Nat.le_of_ble_eq_true rfl) (fun X hE => ?_)
  show pm_G g mL_tenant X 0 [some (.ref 0), some (.int v1), some (.int v2), some (.ref 137), none] [] (en S m0) 0 0
  unfold h_tenant at h
  refine pg_aload_n dL_tenant_0 rfl ?_
  refine pg_iconst 0 dL_tenant_1 rfl ?_
  refine pg_aload_n dL_tenant_2 rfl ?_
  refine pg_iload_n dL_tenant_3 rfl ?_
  refine pg_iload_n dL_tenant_4 rfl ?_
  obtain ⟨r, hr, h⟩ := bd_at h
  refine eg_tHi (C := mX11_tenant) (as := [.int v1, .int v2]) dL_tenant_5 mw742 cv_X11_tenant hS sp0 (Nat.le_of_ble_eq_true rfl) (Nat.le_of_ble_eq_true rfl) rfl rfl rfl (Nat.le_of_ble_eq_true rfl) rfl ⟨(Nat.le_of_ble_eq_true rfl), (Nat.le_of_ble_eq_true rfl)⟩ (by rw [hE.1.1, hE.1.2]; exact ⟨(Nat.le_of_ble_eq_true rfl), (Nat.le_of_ble_eq_true rfl)⟩) (ct_X11_tenant hfl (hS.sub (Nat.le_of_ble_eq_true rfl) (Nat.le_of_ble_eq_true rfl)) hr) (fun v kv => ?_) (fun e ke => ?_)
  · rw [kv] at h
    replace h := tr_l h
    refine pg_i2l dL_tenant_8 ?_
    refine eg_last dL_tenant_9 hS sp137 (Nat.le_of_ble_eq_true rfl) (Nat.le_of_ble_eq_true rfl) (fun _ _ _ => rfl) (inR_vp rfl) (fun m2 e_m2 => ?_)
    replace h := lt_at h e_m2
    refine pg_goto 21 dL_tenant_10 (by decide) ?_
    refine pg_iconst 0 dL_tenant_21 rfl ?_
    obtain rfl := Option.some.inj h
    exact hE.2.1 _ _ _ _ _ _ .int dL_tenant_22 rfl rfl (Nat.zero_le _) (Nat.zero_le _) ⟨rfl, rfl⟩
  · rw [ke] at h
    replace h := tr_r h
    by_cases c0 : e = 0
    · rw [if_pos c0] at h
      subst c0
      refine hE.2.2 "java/lang/IndexOutOfBoundsException" _ _ _ _ _ _ [] [(0, 10, 17, 13)] (0, 10, 13, 23) rfl (by decide) (fun z hz => absurd hz List.not_mem_nil) ⟨(Nat.le_of_ble_eq_true rfl), (Nat.le_of_ble_eq_true rfl), by decide⟩ my1344 ?_
      refine pg_astoreF dL_tenant_13 (Nat.le_of_ble_eq_true rfl) ?_
      refine pg_iconst 1 dL_tenant_15 rfl ?_
      obtain rfl := Option.some.inj h
      exact hE.2.1 _ _ _ _ _ _ .int dL_tenant_16 rfl rfl (Nat.le_of_ble_eq_true rfl) (Nat.le_of_ble_eq_true rfl) ⟨rfl, rfl⟩
    · rw [if_neg c0] at h
      by_cases c1 : e = 1
      · rw [if_pos c1] at h
        subst c1
        refine hE.2.2 "java/lang/IllegalArgumentException" _ _ _ _ _ _ [(0, 10, 13, 23)] [] (0, 10, 17, 13) rfl (by decide) (fun z hz => by rw [List.mem_singleton] at hz; subst hz; exact ⟨by decide, "java/lang/IndexOutOfBoundsException", my1344, by decide, by decide⟩) ⟨(Nat.le_of_ble_eq_true rfl), (Nat.le_of_ble_eq_true rfl), by decide⟩ my1343 ?_
        refine pg_astoreF dL_tenant_17 (Nat.le_of_ble_eq_true rfl) ?_
        refine pg_iconst 2 dL_tenant_19 rfl ?_
        obtain rfl := Option.some.inj h
        exact hE.2.1 _ _ _ _ _ _ .int dL_tenant_20 rfl rfl (Nat.le_of_ble_eq_true rfl) (Nat.le_of_ble_eq_true rfl) ⟨rfl, rfl⟩
      · rw [if_neg c1] at h
        cases h
def h_bidOf (v1 : Int32) (v2 : Int32) (m0 : me) : Option (Int32 × me) :=
  bd (f_X11_bidOf v1 v2 m0) (fun r =>
  tr r.1 (fun v => lt (wJ r.2 137 0 v.toInt64) (fun m2 => some (0, m2))) (fun e => if e = 0 then some (1, r.2) else none))
set_option maxRecDepth 20000 in
set_option maxHeartbeats 4000000 in
theorem ch_bidOf (hfl : g.1.stackTraces = false) (hS : pS 0 138 S) {v1 : Int32} {v2 : Int32} {m0 : me} {x : Int32 × me} (h : h_bidOf v1 v2 m0 = some x) : pm_Ct g mL_bidOf [.ref 0, .int v1, .int v2, .ref 137] (en S m0) 1 6 (qI S x) qF := by
  refine pm_ofH (by decide +kernel) rfl (Nat.le_of_ble_eq_true rfl) (fun X hE => ?_)
  show pm_G g mL_bidOf X 0 [some (.ref 0), some (.int v1), some (.int v2), some (.ref 137), none] [] (en S m0) 0 0
  unfold h_bidOf at h
  refine pg_aload_n dL_bidOf_0 rfl ?_
  refine pg_iconst 0 dL_bidOf_1 rfl ?_
  refine pg_aload_n dL_bidOf_2 rfl ?_
  refine pg_iload_n dL_bidOf_3 rfl ?_
  refine pg_iload_n dL_bidOf_4 rfl ?_
  obtain ⟨r, hr, h⟩ := bd_at h
  refine eg_tHi (C := mX11_bidOf) (as := [.int v1, .int v2]) dL_bidOf_5 mw743 cv_X11_bidOf hS sp0 (Nat.le_of_ble_eq_true rfl) (Nat.le_of_ble_eq_true rfl) rfl rfl rfl (Nat.le_of_ble_eq_true rfl) rfl ⟨(Nat.le_of_ble_eq_true rfl), (Nat.le_of_ble_eq_true rfl)⟩ (by rw [hE.1.1, hE.1.2]; exact ⟨(Nat.le_of_ble_eq_true rfl), (Nat.le_of_ble_eq_true rfl)⟩) (ct_X11_bidOf hfl (hS.sub (Nat.le_of_ble_eq_true rfl) (Nat.le_of_ble_eq_true rfl)) hr) (fun v kv => ?_) (fun e ke => ?_)
  · rw [kv] at h
    replace h := tr_l h
    refine pg_i2l dL_bidOf_8 ?_
    refine eg_last dL_bidOf_9 hS sp137 (Nat.le_of_ble_eq_true rfl) (Nat.le_of_ble_eq_true rfl) (fun _ _ _ => rfl) (inR_vp rfl) (fun m2 e_m2 => ?_)
    replace h := lt_at h e_m2
    refine pg_goto 17 dL_bidOf_10 (by decide) ?_
    refine pg_iconst 0 dL_bidOf_17 rfl ?_
    obtain rfl := Option.some.inj h
    exact hE.2.1 _ _ _ _ _ _ .int dL_bidOf_18 rfl rfl (Nat.zero_le _) (Nat.zero_le _) ⟨rfl, rfl⟩
  · rw [ke] at h
    replace h := tr_r h
    by_cases c0 : e = 0
    · rw [if_pos c0] at h
      subst c0
      refine hE.2.2 "java/lang/IndexOutOfBoundsException" _ _ _ _ _ _ [] [] (0, 10, 13, 23) rfl (by decide) (fun z hz => absurd hz List.not_mem_nil) ⟨(Nat.le_of_ble_eq_true rfl), (Nat.le_of_ble_eq_true rfl), by decide⟩ my1344 ?_
      refine pg_astoreF dL_bidOf_13 (Nat.le_of_ble_eq_true rfl) ?_
      refine pg_iconst 1 dL_bidOf_15 rfl ?_
      obtain rfl := Option.some.inj h
      exact hE.2.1 _ _ _ _ _ _ .int dL_bidOf_16 rfl rfl (Nat.le_of_ble_eq_true rfl) (Nat.le_of_ble_eq_true rfl) ⟨rfl, rfl⟩
    · rw [if_neg c0] at h
      cases h
def h_count (v1 : Int32) (m0 : me) : Option (Int32 × me) :=
  bd (f_X11_count v1 m0) (fun r =>
  tr r.1 (fun v => lt (wJ r.2 137 0 v.toInt64) (fun m2 => some (0, m2))) (fun e => if e = 1 then some (1, r.2) else none))
set_option maxRecDepth 20000 in
set_option maxHeartbeats 4000000 in
theorem ch_count (hfl : g.1.stackTraces = false) (hS : pS 0 138 S) {v1 : Int32} {m0 : me} {x : Int32 × me} (h : h_count v1 m0 = some x) : pm_Ct g mL_count [.ref 0, .int v1, .ref 137] (en S m0) 1 6 (qI S x) qF := by
  refine pm_ofH (by decide +kernel) rfl (Nat.le_of_ble_eq_true rfl) (fun X hE => ?_)
  show pm_G g mL_count X 0 [some (.ref 0), some (.int v1), some (.ref 137), none] [] (en S m0) 0 0
  unfold h_count at h
  refine pg_aload_n dL_count_0 rfl ?_
  refine pg_iconst 0 dL_count_1 rfl ?_
  refine pg_aload_n dL_count_2 rfl ?_
  refine pg_iload_n dL_count_3 rfl ?_
  obtain ⟨r, hr, h⟩ := bd_at h
  refine eg_tHi (C := mX11_count) (as := [.int v1]) dL_count_4 mw744 cv_X11_count hS sp0 (Nat.le_of_ble_eq_true rfl) (Nat.le_of_ble_eq_true rfl) rfl rfl rfl (Nat.le_of_ble_eq_true rfl) rfl ⟨(Nat.le_of_ble_eq_true rfl), (Nat.le_of_ble_eq_true rfl)⟩ (by rw [hE.1.1, hE.1.2]; exact ⟨(Nat.le_of_ble_eq_true rfl), (Nat.le_of_ble_eq_true rfl)⟩) (ct_X11_count hfl (hS.sub (Nat.le_of_ble_eq_true rfl) (Nat.le_of_ble_eq_true rfl)) hr) (fun v kv => ?_) (fun e ke => ?_)
  · rw [kv] at h
    replace h := tr_l h
    refine pg_i2l dL_count_7 ?_
    refine eg_last dL_count_8 hS sp137 (Nat.le_of_ble_eq_true rfl) (Nat.le_of_ble_eq_true rfl) (fun _ _ _ => rfl) (inR_vp rfl) (fun m2 e_m2 => ?_)
    replace h := lt_at h e_m2
    refine pg_goto 15 dL_count_9 (by decide) ?_
    refine pg_iconst 0 dL_count_15 rfl ?_
    obtain rfl := Option.some.inj h
    exact hE.2.1 _ _ _ _ _ _ .int dL_count_16 rfl rfl (Nat.zero_le _) (Nat.zero_le _) ⟨rfl, rfl⟩
  · rw [ke] at h
    replace h := tr_r h
    by_cases c0 : e = 1
    · rw [if_pos c0] at h
      subst c0
      refine hE.2.2 "java/lang/IllegalArgumentException" _ _ _ _ _ _ [] [] (0, 9, 12, 13) rfl (by decide) (fun z hz => absurd hz List.not_mem_nil) ⟨(Nat.le_of_ble_eq_true rfl), (Nat.le_of_ble_eq_true rfl), by decide⟩ my1343 ?_
      refine pg_astoreF_n dL_count_12 (Nat.le_of_ble_eq_true rfl) ?_
      refine pg_iconst 1 dL_count_13 rfl ?_
      obtain rfl := Option.some.inj h
      exact hE.2.1 _ _ _ _ _ _ .int dL_count_14 rfl rfl (Nat.le_of_ble_eq_true rfl) (Nat.le_of_ble_eq_true rfl) ⟨rfl, rfl⟩
    · rw [if_neg c0] at h
      cases h
def h_type (v1 : Int32) (m0 : me) : Option (Int32 × me) :=
  bd (f_X11_type v1 m0) (fun r =>
  tr r.1 (fun v => lt (wJ r.2 137 0 v.toInt64) (fun m2 => some (0, m2))) (fun e => if e = 1 then some (1, r.2) else if e = 2 then some (2, r.2) else none))
set_option maxRecDepth 20000 in
set_option maxHeartbeats 4000000 in
theorem ch_type (hfl : g.1.stackTraces = false) (hS : pS 0 138 S) {v1 : Int32} {m0 : me} {x : Int32 × me} (h : h_type v1 m0 = some x) : pm_Ct g mL_type [.ref 0, .int v1, .ref 137] (en S m0) 1 6 (qI S x) qF := by
  refine pm_ofH (by decide +kernel) rfl (Nat.le_of_ble_eq_true rfl) (fun X hE => ?_)
  show pm_G g mL_type X 0 [some (.ref 0), some (.int v1), some (.ref 137), none] [] (en S m0) 0 0
  unfold h_type at h
  refine pg_aload_n dL_type_0 rfl ?_
  refine pg_iconst 0 dL_type_1 rfl ?_
  refine pg_aload_n dL_type_2 rfl ?_
  refine pg_iload_n dL_type_3 rfl ?_
  obtain ⟨r, hr, h⟩ := bd_at h
  refine eg_tHi (C := mX11_type) (as := [.int v1]) dL_type_4 mw745 cv_X11_type hS sp0 (Nat.le_of_ble_eq_true rfl) (Nat.le_of_ble_eq_true rfl) rfl rfl rfl (Nat.le_of_ble_eq_true rfl) rfl ⟨(Nat.le_of_ble_eq_true rfl), (Nat.le_of_ble_eq_true rfl)⟩ (by rw [hE.1.1, hE.1.2]; exact ⟨(Nat.le_of_ble_eq_true rfl), (Nat.le_of_ble_eq_true rfl)⟩) (ct_X11_type hfl (hS.sub (Nat.le_of_ble_eq_true rfl) (Nat.le_of_ble_eq_true rfl)) hr) (fun v kv => ?_) (fun e ke => ?_)
  · rw [kv] at h
    replace h := tr_l h
    refine pg_i2l dL_type_7 ?_
    refine eg_last dL_type_8 hS sp137 (Nat.le_of_ble_eq_true rfl) (Nat.le_of_ble_eq_true rfl) (fun _ _ _ => rfl) (inR_vp rfl) (fun m2 e_m2 => ?_)
    replace h := lt_at h e_m2
    refine pg_goto 18 dL_type_9 (by decide) ?_
    refine pg_iconst 0 dL_type_18 rfl ?_
    obtain rfl := Option.some.inj h
    exact hE.2.1 _ _ _ _ _ _ .int dL_type_19 rfl rfl (Nat.zero_le _) (Nat.zero_le _) ⟨rfl, rfl⟩
  · rw [ke] at h
    replace h := tr_r h
    by_cases c0 : e = 1
    · rw [if_pos c0] at h
      subst c0
      refine hE.2.2 "java/lang/IllegalArgumentException" _ _ _ _ _ _ [] [(0, 9, 15, 28)] (0, 9, 12, 13) rfl (by decide) (fun z hz => absurd hz List.not_mem_nil) ⟨(Nat.le_of_ble_eq_true rfl), (Nat.le_of_ble_eq_true rfl), by decide⟩ my1343 ?_
      refine pg_astoreF_n dL_type_12 (Nat.le_of_ble_eq_true rfl) ?_
      refine pg_iconst 1 dL_type_13 rfl ?_
      obtain rfl := Option.some.inj h
      exact hE.2.1 _ _ _ _ _ _ .int dL_type_14 rfl rfl (Nat.le_of_ble_eq_true rfl) (Nat.le_of_ble_eq_true rfl) ⟨rfl, rfl⟩
    · rw [if_neg c0] at h
      by_cases c1 : e = 2
      · rw [if_pos c1] at h
        subst c1
        refine hE.2.2 "java/lang/IllegalStateException" _ _ _ _ _ _ [(0, 9, 12, 13)] [] (0, 9, 15, 28) rfl (by decide) (fun z hz => by rw [List.mem_singleton] at hz; subst hz; exact ⟨by decide, "java/lang/IllegalArgumentException", my1343, by decide, by decide⟩) ⟨(Nat.le_of_ble_eq_true rfl), (Nat.le_of_ble_eq_true rfl), by decide⟩ my1345 ?_
        refine pg_astoreF_n dL_type_15 (Nat.le_of_ble_eq_true rfl) ?_
        refine pg_iconst 2 dL_type_16 rfl ?_
        obtain rfl := Option.some.inj h
        exact hE.2.1 _ _ _ _ _ _ .int dL_type_17 rfl rfl (Nat.le_of_ble_eq_true rfl) (Nat.le_of_ble_eq_true rfl) ⟨rfl, rfl⟩
      · rw [if_neg c1] at h
        cases h
def h_undo (m0 : me) : Option (Int32 × me) :=
  bd (f_X11_undo m0) (fun r =>
  tr r.1 (fun v => lt (wJ r.2 137 0 v.toInt64) (fun m2 => some (0, m2))) (fun e => if e = 2 then some (1, r.2) else none))
set_option maxRecDepth 20000 in
set_option maxHeartbeats 4000000 in
theorem ch_undo (hfl : g.1.stackTraces = false) (hS : pS 0 138 S) {m0 : me} {x : Int32 × me} (h : h_undo m0 = some x) : pm_Ct g mL_undo [.ref 0, .ref 137] (en S m0) 1 6 (qI S x) qF := by
  refine pm_ofH (by decide +kernel) rfl (Nat.le_of_ble_eq_true rfl) (fun X hE => ?_)
  show pm_G g mL_undo X 0 [some (.ref 0), some (.ref 137), none] [] (en S m0) 0 0
  unfold h_undo at h
  refine pg_aload_n dL_undo_0 rfl ?_
  refine pg_iconst 0 dL_undo_1 rfl ?_
  refine pg_aload_n dL_undo_2 rfl ?_
  obtain ⟨r, hr, h⟩ := bd_at h
  refine eg_tHi (C := mX11_undo) (as := []) dL_undo_3 mw761 cv_X11_undo hS sp0 (Nat.le_of_ble_eq_true rfl) (Nat.le_of_ble_eq_true rfl) rfl rfl rfl (Nat.le_of_ble_eq_true rfl) rfl ⟨(Nat.le_of_ble_eq_true rfl), (Nat.le_of_ble_eq_true rfl)⟩ (by rw [hE.1.1, hE.1.2]; exact ⟨(Nat.le_of_ble_eq_true rfl), (Nat.le_of_ble_eq_true rfl)⟩) (ct_X11_undo hfl (hS.sub (Nat.le_of_ble_eq_true rfl) (Nat.le_of_ble_eq_true rfl)) hr) (fun v kv => ?_) (fun e ke => ?_)
  · rw [kv] at h
    replace h := tr_l h
    refine pg_i2l dL_undo_6 ?_
    refine eg_last dL_undo_7 hS sp137 (Nat.le_of_ble_eq_true rfl) (Nat.le_of_ble_eq_true rfl) (fun _ _ _ => rfl) (inR_vp rfl) (fun m2 e_m2 => ?_)
    replace h := lt_at h e_m2
    refine pg_goto 14 dL_undo_8 (by decide) ?_
    refine pg_iconst 0 dL_undo_14 rfl ?_
    obtain rfl := Option.some.inj h
    exact hE.2.1 _ _ _ _ _ _ .int dL_undo_15 rfl rfl (Nat.zero_le _) (Nat.zero_le _) ⟨rfl, rfl⟩
  · rw [ke] at h
    replace h := tr_r h
    by_cases c0 : e = 2
    · rw [if_pos c0] at h
      subst c0
      refine hE.2.2 "java/lang/IllegalStateException" _ _ _ _ _ _ [] [] (0, 8, 11, 28) rfl (by decide) (fun z hz => absurd hz List.not_mem_nil) ⟨(Nat.le_of_ble_eq_true rfl), (Nat.le_of_ble_eq_true rfl), by decide⟩ my1345 ?_
      refine pg_astoreF_n dL_undo_11 (Nat.le_of_ble_eq_true rfl) ?_
      refine pg_iconst 1 dL_undo_12 rfl ?_
      obtain rfl := Option.some.inj h
      exact hE.2.1 _ _ _ _ _ _ .int dL_undo_13 rfl rfl (Nat.le_of_ble_eq_true rfl) (Nat.le_of_ble_eq_true rfl) ⟨rfl, rfl⟩
    · rw [if_neg c0] at h
      cases h
end
