/-! A body's contract, its ends, throws and catches. -/
section PME
variable {g : pm_Gl} {M C : pm_M} {X : pm_X} {pc k n : Nat} {ls : List (Option Value)} {st : List Value} {hp : List va_E} {ads : List Nat}
def pm_sl (as : List Value) : List (Option Value) := as.flatMap fun v => if v.category = 2 then [some v, none] else [some v]
def pm_args (as : List Value) (n : Nat) : List (Option Value) := pm_sl as ++ List.replicate (n - (pm_sl as).length) none
theorem pm_sl_len : ∀ {as vs : List Value}, pm_l g ads as vs → (lg_sl vs).length = (pm_sl as).length
  | [], vs, h => by
    have h1 : vs = [] := h
    subst h1
    rfl
  | y :: ys, _, ⟨v, ws, h1, h2, h3⟩ => by
    have hc := h2.cat
    have ih := pm_sl_len h3
    rw [h1]
    unfold pm_sl lg_sl at ih ⊢
    rw [List.flatMap_cons, List.flatMap_cons, List.length_append, List.length_append, ih, hc]
    split <;> rfl
theorem pm_sl_get : ∀ {as vs : List Value} {i : Nat} {x : Value}, pm_l g ads as vs → (pm_sl as)[i]? = some (some x) → ∃ v, pm_v g ads x v ∧ (lg_sl vs)[i]? = some (.val v)
  | [], vs, i, x, _, h => by simp [pm_sl] at h
  | y :: ys, _, i, x, ⟨v, ws, h1, h2, h3⟩, h => by
    have hc := h2.cat
    have ih := fun j => pm_sl_get (i := j) (x := x) h3
    rw [h1]
    unfold pm_sl at ih h
    unfold lg_sl at ih ⊢
    rw [List.flatMap_cons] at h ⊢
    by_cases c2 : y.category = 2
    · rw [if_pos c2] at h
      rw [if_pos (hc.trans c2)]
      match i, h with
      | 0, h =>
        rw [List.cons_append, List.getElem?_cons_zero] at h
        cases h
        exact ⟨v, h2, rfl⟩
      | 1, h =>
        rw [List.cons_append, List.getElem?_cons_succ, List.cons_append, List.getElem?_cons_zero] at h
        cases h
      | j + 2, h => exact ih j h
    · rw [if_neg c2] at h
      rw [if_neg (by rw [hc]; exact c2)]
      match i, h with
      | 0, h =>
        rw [List.cons_append, List.getElem?_cons_zero] at h
        cases h
        exact ⟨v, h2, rfl⟩
      | j + 1, h => exact ih j h
theorem pm_entry {as vs : List Value} {nL : Nat} (h : pm_l g ads as vs) (hn : (pm_sl as).length ≤ nL) : pm_s g ads (pm_args as nL) ((lg_sl vs ++ List.replicate (nL - (lg_sl vs).length) Slot.unset).toArray) := by
  have hlen := pm_sl_len h
  have hv := lv_entry vs (n := nL) (by rw [hlen]; exact hn)
  refine ⟨?_, hv.2.1, fun i x hi => ?_⟩
  · rw [hv.1]
    unfold pm_args
    rw [List.length_append, List.length_replicate]
    omega
  · unfold pm_args at hi
    by_cases hil : i < (pm_sl as).length
    · rw [List.getElem?_append_left hil] at hi
      obtain ⟨v, e1, e2⟩ := pm_sl_get h hi
      refine ⟨v, e1, ?_⟩
      rw [List.getElem?_toArray, List.getElem?_append_left (by rw [hlen]; exact hil)]
      exact e2
    · rw [List.getElem?_append_right (Nat.not_lt.mp hil)] at hi
      have := List.mem_of_getElem? hi
      rw [List.mem_replicate] at this
      exact absurd this.2 (by simp)
def pm_nm2 : List String := ["java/lang/RuntimeException", "java/lang/Exception"]
/-- what 'throw new cls("tx")' rests on -/
def pm_th (ik is ic : Nat) (cls tx : String) : Prop := Cond.classLink RX11 ik cls ∈ pm_tbl ∧ Cond.initialized cls ∈ pm_tbl ∧ (is, tx) ∈ pm_msgs ∧ cls ∈ pm_exc ∧ (∀ w ∈ (vx_atS RX11 ic cls pm_nm2).filter goodWord, w ∈ pm_tbl) ∧ (∀ w ∈ (vx_atS RX11 ic cls pm_nm2).filter (fun w => !goodWord w), w ∈ pm_nwl) ∧ (∀ w ∈ Cond.classLink RX11 ik cls :: Cond.initialized cls :: vx_atS RX11 ic cls pm_nm2, vx_ot w = true) ∧ Bundle.fit cls = true ∧ (∀ q ∈ pm_nm2, Bundle.fit q = true)
/-- a body's ends -/
def pm_End (g : pm_Gl) (M : pm_M) (X : pm_X) (kb nb : Nat) (Qn : Option Value → List va_E → Prop) (Qx : String → List va_E → Prop) : Prop :=
  (pm_kb X = kb ∧ pm_nb X = nb) ∧
  (∀ (pc : Nat) (ls : List (Option Value)) (hp : List va_E) (k n : Nat) (v : Int32) (ty : FieldType), decode M.2.1 pc = .ok (.ireturn, 1) → M.2.2.2.2.2.1 = some ty → narrow ty (.int v) = .int v → k ≤ kb → n ≤ nb → Qn (some (.int v)) hp → pm_G g M X pc ls [.int v] hp k n) ∧
  (∀ (pc : Nat) (ls : List (Option Value)) (hp : List va_E) (k n : Nat), decode M.2.1 pc = .ok (.return_, 1) → M.2.2.2.2.2.1 = none → k ≤ kb → n ≤ nb → Qn none hp → pm_G g M X pc ls [] hp k n) ∧
  (∀ (pc : Nat) (ls : List (Option Value)) (hp : List va_E) (k n : Nat) (v : Int64), decode M.2.1 pc = .ok (.lreturn, 1) → M.2.2.2.2.2.1 = some .long → k ≤ kb → n ≤ nb → Qn (some (.long v)) hp → pm_G g M X pc ls [.long v] hp k n) ∧
  (∀ (E : String) (pc : Nat) (ls : List (Option Value)) (st : List Value) (hp : List va_E) (k n : Nat), M.2.2.2.2.2.2 = [] → k ≤ kb → n ≤ nb → Qx E hp → pm_GX g M X E pc ls st hp k n) ∧
  (∀ (pc : Nat) (ls : List (Option Value)) (st : List Value) (hp : List va_E) (k n ik is ic : Nat) (cls tx : String), pm_th ik is ic cls tx → M.1.cls = RX11 → M.2.2.2.2.2.2 = [] → decode M.2.1 pc = .ok (.new ik, 3) → decode M.2.1 (pc + 3) = .ok (.dup, 1) → decode M.2.1 (pc + 4) = .ok (.ldc is, 2) → decode M.2.1 (pc + 6) = .ok (.invokespecial ic, 3) → decode M.2.1 (pc + 9) = .ok (.athrow, 1) → ls.length = M.2.2.1 → 5 < M.2.2.2.1 → (st.map fun v => v.category).sum + 82 ≤ M.2.2.2.2.1 → k + 1 ≤ kb → n + 6 ≤ nb → Qx cls hp → pm_G g M X pc ls st hp k n) ∧
  (∀ (pc : Nat) (ls : List (Option Value)) (st : List Value) (hp : List va_E) (k n ik is ic : Nat) (cls tx : String), pm_th ik is ic cls tx → M.1.cls = RX11 → M.2.2.2.2.2.2 = [] → decode M.2.1 pc = .ok (.new ik, 3) → decode M.2.1 (pc + 3) = .ok (.dup, 1) → decode M.2.1 (pc + 4) = .ok (.ldc_w is, 3) → decode M.2.1 (pc + 7) = .ok (.invokespecial ic, 3) → decode M.2.1 (pc + 10) = .ok (.athrow, 1) → ls.length = M.2.2.1 → 5 < M.2.2.2.1 → (st.map fun v => v.category).sum + 82 ≤ M.2.2.2.2.1 → k + 1 ≤ kb → n + 6 ≤ nb → Qx cls hp → pm_G g M X pc ls st hp k n)
theorem pm_hat {args : Array Value} {s : State} {ik is ic : Nat} {cls tx : String} (h : pm_th ik is ic cls tx) (hts : ∀ w ∈ pm_tbl, w.before args s = true) (hE : pm_E g s s.heap) : ∀ w ∈ vx_atS RX11 ic cls pm_nm2, w.before args s = true := by
  obtain ⟨t1, t2, t3, t4, t5, t6, t7, t8, t9⟩ := h
  exact vx_hat (B := pm_nwl) (fun w hw => hts w (t5 w hw)) t6 (fun w hw => va_Nw.use (pm_nwl_on hw) (hE.2.2.2.2.2.2.2.2.2.2.2.1 w hw))
theorem pm_of {kb nb : Nat} {as : List Value} {Qn : Option Value → List va_E → Prop} {Qx : String → List va_E → Prop} (hy : plainName M.1.cls = true) (hhh : M.2.2.2.2.2.2 = []) (hfl : g.1.stackTraces = false) (hlen : (pm_sl as).length ≤ M.2.2.1)
    (body : ∀ X : pm_X, pm_End g M X kb nb Qn Qx → pm_G g M X 0 (pm_args as M.2.2.1) [] hp 0 0) : pm_Ct g M as hp kb nb Qn Qx := by
  intro a0
  refine vx_ofW (cc := M.2.1) (maxL := M.2.2.1) (ret := M.2.2.2.2.2.1) (ws' := pm_tbl) hy (by rw [pm_w0 hhh]) ?_
  intro p e s m args below meth c s₁ B hml hex hPc
  obtain ⟨vs, rfl, hvs, hE, hbs, ws, hh, hP, hD⟩ := hPc
  have hts0 := atoms_spec (ws := pm_w M :: pm_tbl) B.pre
  have hts : ∀ w ∈ pm_tbl, w.before vs.toArray s = true := fun w hw => hts0 w (List.mem_cons_of_mem _ hw)
  have hown : s.vm.findClass M.1.cls = some m.cls := findClass_of_methodNamed B.named
  have ok : pm_ok g M (p, e, s, m, vs.toArray, below, meth, c, vx_MQ below (pm_Qc g a0 Qn) (pm_XC g a0 Qx) vs.toArray s kb nb (pm_A g), a0, kb, nb) := ⟨B.exec, B.bytes, hml, hown, hts, hE, hbs, B.notSynchronized, fun hnm => (name_of_methodNamed B.named B.method).1.trans hnm⟩
  rw [lg_entry_eq]
  refine body (p, e, s, m, vs.toArray, below, meth, c, vx_MQ below (pm_Qc g a0 Qn) (pm_XC g a0 Qx) vs.toArray s kb nb (pm_A g), a0, kb, nb) ⟨⟨rfl, rfl⟩, ?_, ?_, ?_, ?_, ?_, ?_⟩ ok a0 ws s.heap [] _ [] List.prefix_rfl hh hP hD va_S.rf (pm_entry hvs hlen) rfl
  · intro pc ls hp k n v ty hd hr hn hk hn2 hq ok ads ws H locs arr stk ha hh hP hD hS hs hl
    obtain ⟨v0, t0, rfl, e0, hl⟩ := hl
    obtain rfl : v0 = _ := e0
    obtain rfl : t0 = [] := hl
    exact W.widen hk hn2 (vx_ret (W.zret B.exec B.bytes (by rw [B.returns, hr]) hn (fun t ht _ => ⟨some (.int v), some (.int v), hp, ads, rfl, hq, ha, ⟨_, _, rfl, rfl, rfl⟩, ⟨ws, hh, by rw [ht]; exact hP, hD⟩, hS.F ht⟩) hS.2.2 hd))
  · intro pc ls hp k n hd hr hk hn2 hq ok ads ws H locs arr stk ha hh hP hD hS hs hl
    obtain rfl : stk = [] := hl
    exact W.widen hk hn2 (vx_ret (W.vret B.exec B.bytes (by rw [B.returns, hr]) (fun t ht _ => ⟨none, none, hp, ads, rfl, hq, ha, rfl, ⟨ws, hh, by rw [ht]; exact hP, hD⟩, hS.F ht⟩) hS.2.2 hd))
  · intro pc ls hp k n v hd hr hk hn2 hq ok ads ws H locs arr stk ha hh hP hD hS hs hl
    obtain ⟨v0, t0, rfl, e0, hl⟩ := hl
    obtain rfl : v0 = _ := e0
    obtain rfl : t0 = [] := hl
    exact W.widen hk hn2 (vx_ret (W.lret B.exec B.bytes (by rw [B.returns, hr]) (fun t ht _ => ⟨some (.long v), some (.long v), hp, ads, rfl, hq, ha, ⟨_, _, rfl, rfl, rfl⟩, ⟨ws, hh, by rw [ht]; exact hP, hD⟩, hS.F ht⟩) hS.2.2 hd))
  · intro E pc ls st hp k n _ hk hn2 hq ok ads ws H locs arr stk q ce ha hh hP hD hS hs hl hc1 hc2 hc3
    exact vx_out (fun x hx => (hex x hx).elim) B.notSynchronized hc1 hc2 hc3 (fun t ht _ => ⟨hp, ads, hq, ha, ⟨ws, hh, by rw [ht]; exact hP, hD⟩, hS.F ht⟩) hS.2.2 hk hn2
  · intro pc ls st hp k n ik is ic cls tx hth hM _ d0 d3 d4 d6 d9 hls hf5 hlo hk hn2 hq ok ads ws H locs arr stk ha hh hP hD hS hs hl
    have hat := pm_hat hth hts hE
    obtain ⟨t1, t2, t3, t4, t5, t6, t7, t8, t9⟩ := hth
    have hown' : s.vm.findClass RX11 = some m.cls := by rw [← hM]; exact hown
    refine vx_throwS (text := tx) (names := pm_nm2) B.exec B.bytes hfl hown' t8 t9 (hts _ t1) (hts _ t2) (hE.2.2.2.2.2.2.2.2.2.2.1 _ t3) hat t7 hE.2.2.2.2.2.2.2.2.1 hE.2.2.2.2.2.2.2.2.2.1 hS (hs.1.trans (hls.trans hml.symm)) d0 d3 d4 d6 d9 (fun x hx => (hex x hx).elim) hf5 (by rw [hl.cat]; exact hlo) hk hn2 B.notSynchronized (fun t _ hz hkp => ⟨hp, ads, hq, ha, ⟨ws, hh, hP.kept (fun j q hj => hkp q.1 (hP j q hj).lt), hD⟩, ?_⟩) hS.2.2 hk hn2
    exact ⟨Nat.le_trans hS.1 hz, fun q h1 h2 => (hkp q (Nat.lt_of_lt_of_le h1 hS.1)).trans (hS.2.1 q h1 h2)⟩
  · intro pc ls st hp k n ik is ic cls tx hth hM _ d0 d3 d4 d6 d9 hls hf5 hlo hk hn2 hq ok ads ws H locs arr stk ha hh hP hD hS hs hl
    have hat := pm_hat hth hts hE
    obtain ⟨t1, t2, t3, t4, t5, t6, t7, t8, t9⟩ := hth
    have hown' : s.vm.findClass RX11 = some m.cls := by rw [← hM]; exact hown
    refine vx_throwSW (text := tx) (names := pm_nm2) B.exec B.bytes hfl hown' t8 t9 (hts _ t1) (hts _ t2) (hE.2.2.2.2.2.2.2.2.2.2.1 _ t3) hat t7 hE.2.2.2.2.2.2.2.2.1 hE.2.2.2.2.2.2.2.2.2.1 hS (hs.1.trans (hls.trans hml.symm)) d0 d3 d4 d6 d9 (fun x hx => (hex x hx).elim) hf5 (by rw [hl.cat]; exact hlo) hk hn2 B.notSynchronized (fun t _ hz hkp => ⟨hp, ads, hq, ha, ⟨ws, hh, hP.kept (fun j q hj => hkp q.1 (hP j q hj).lt), hD⟩, ?_⟩) hS.2.2 hk hn2
    exact ⟨Nat.le_trans hS.1 hz, fun q h1 h2 => (hkp q (Nat.lt_of_lt_of_le h1 hS.1)).trans (hS.2.1 q h1 h2)⟩
end PME
