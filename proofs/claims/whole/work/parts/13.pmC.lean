/-! Contracts over pictures, calls, new cells. -/
section PMC
variable {g : pm_Gl} {M : pm_M} {X : pm_X} {pc k n : Nat} {ls : List (Option Value)} {st : List Value} {hp : List va_E} {ads : List Nat}
def pm_W (g : pm_Gl) (ads : List Nat) (hp : List va_E) (U : State) : Prop := ∃ ws : va_W, pm_h g ads hp ws ∧ va_P g.2.1 vwCl ws U.heap ∧ va_D (pm_A g) ws
def pm_o (g : pm_Gl) (ads : List Nat) (r r' : Option Value) : Prop := pm_l g ads r.toList r'.toList
def pm_Pc (g : pm_Gl) (ads : List Nat) (as : List Value) (hp : List va_E) : Array Value → State → Prop := fun v U => ∃ vs : List Value, v = vs.toArray ∧ pm_l g ads as vs ∧ pm_E g U U.heap ∧ g.2.2.2.2.2 ≤ U.heap.size ∧ pm_W g ads hp U
def pm_Qc (g : pm_Gl) (ads : List Nat) (Qn : Option Value → List va_E → Prop) : Array Value → State → Outcome → State → Prop := fun _ s0 oc t => ∃ (r r' : Option Value) (hp' : List va_E) (ads' : List Nat), oc = .returned r' ∧ Qn r hp' ∧ ads <+: ads' ∧ pm_o g ads' r r' ∧ pm_W g ads' hp' t ∧ va_F (pm_A g) s0 t
def pm_XC (g : pm_Gl) (ads : List Nat) (Qx : String → List va_E → Prop) : String → State → State → Prop := fun E s0 t => ∃ (hp' : List va_E) (ads' : List Nat), Qx E hp' ∧ ads <+: ads' ∧ pm_W g ads' hp' t ∧ va_F (pm_A g) s0 t
/-- the word of a method's code -/
def pm_w (M : pm_M) : Cond := match M.2.2.2.2.2.2 with
  | [] => .code M.1 M.2.1 M.2.2.1 M.2.2.2.2.2.1
  | hh => .codeWith M.1 M.2.1 M.2.2.1 M.2.2.2.2.2.1 hh
/-- A CONTRACT: method M, called with the arguments as in the heap hp, makes at most kb cells of nb slots; it returns with Qn, or throws with Qx -/
def pm_Ct (g : pm_Gl) (M : pm_M) (as : List Value) (hp : List va_E) (kb nb : Nat) (Qn : Option Value → List va_E → Prop) (Qx : String → List va_E → Prop) : Prop :=
  ∀ ads : List Nat, vx_Met g.1 M.1 (pm_w M :: pm_tbl) (pm_R M kb nb) (pm_Pc g ads as hp) (pm_Qc g ads Qn) (pm_XC g ads Qx) kb nb (pm_A g)
def pm_GX (g : pm_Gl) (M : pm_M) (X : pm_X) (E : String) (pc : Nat) (ls : List (Option Value)) (st : List Value) (hp : List va_E) (k n : Nat) : Prop := match X with
  | (p, e, s, m, args, below, meth, c, Q, a0, kb, nb) => pm_ok g M (p, e, s, m, args, below, meth, c, Q, a0, kb, nb) → ∀ (ads : List Nat) (ws : va_W) (H : Heap) (locs : List Loc) (arr : Array Slot) (stk : List Value) (q : Addr) (ce : Cell), a0 <+: ads → pm_h g ads hp ws → va_P g.2.1 vwCl ws H → va_D (pm_A g) ws → va_S (pm_A g) s.heap H locs → pm_s g ads ls arr → pm_l g ads st stk → H[q]? = some ce → ce.vm = .none → s.vm.findClass E = some ce.cls → vx_W p g.1 e (pm_R M kb nb) s m args below meth c H locs k n Q (F0 m pc arr stk) q
theorem pm_nwl_on {w : Cond} (h : w ∈ pm_nwl) : w.onTables = true := by
  simp only [pm_nwl, List.mem_cons, List.not_mem_nil, or_false] at h
  rcases h with rfl | rfl | rfl | rfl | rfl | rfl <;> rfl
theorem pm_nwl_warm {w : Cond} {s U : State} (h : w ∈ pm_nwl) (hW : s.WarmedH U.vm) (hZ : va_Nw w s) : va_Nw w U := by
  simp only [pm_nwl, List.mem_cons, List.not_mem_nil, or_false] at h
  rcases h with rfl | rfl | rfl | rfl | rfl | rfl
  · exact va_Nw.warmC hW hZ
  · exact va_Nw.warmC hW hZ
  · exact va_Nw.warmC hW hZ
  · exact va_Nw.warmD hW hZ
  · exact va_Nw.warmD hW hZ
  · exact va_Nw.warmD hW hZ
theorem pm_E.same {u U : State} {H : Heap} (hv : u.vm = U.vm) (h : pm_E g u H) : pm_E g U H := by
  obtain ⟨h1, h2, h3, h4, h5, h6, h7, h8, h9, h10, h11, h12, h13, h14, h15, h16, h17⟩ := h
  have hvm : u.vm.Alike U.vm := by rw [hv]; exact Vm.Alike.refl _
  exact ⟨h1.moved hvm, h2.moved hvm, h3, h4, va_Nw.same rfl hv h5, h6.moved hvm, h7.moved hvm, h8.moved hvm, h9.moved hvm, h10.moved hvm, fun q hq => (h11 q hq).same hv.symm, fun w hw => va_Nw.same (pm_nwl_on hw) hv (h12 w hw), fun E hE F hF hne => (h13 E hE F hF hne).moved hvm, h14.same hv.symm, h15.moved hvm, h16.moved hvm, h17.moved hvm⟩
theorem pm_E.enter {s U : State} {H : Heap} {locs : List Loc} (h : pm_E g s s.heap) (hW : s.WarmedH U.vm) (hS : va_S (pm_A g) s.heap H locs) (hU : U.heap = H) : pm_E g U U.heap := by
  obtain ⟨h1, h2, h3, h4, h5, h6, h7, h8, h9, h10, h11, h12, h13, h14, h15, h16, h17⟩ := h
  have hk : ∀ a : Nat, a < s.heap.size → ¬ pm_A g a → U.heap[a]? = s.heap[a]? := by rw [hU]; exact hS.2.1
  have hsz : s.heap.size ≤ U.heap.size := by rw [hU]; exact hS.1
  have hvm := hW.alike
  refine ⟨h1.moved hvm, (h2.kept ?_).moved hvm, h3, Nat.lt_of_lt_of_le h4 hsz, va_Nw.warmM hW h5, h6.moved hvm, (h7.kept hk).moved hvm, (h8.kept hk).moved hvm, (h9.kept hk).moved hvm, (h10.kept hk).moved hvm, fun q hq => (h11 q hq).warm hW, fun w hw => pm_nwl_warm hw hW (h12 w hw), fun E hE F hF hne => (h13 E hE F hF hne).moved hvm, h14.warm hW, (h15.kept hk).moved hvm, (h16.kept hk).moved hvm, (h17.kept hk).moved hvm⟩
  exact hk _ h4 (Nat.not_le.mpr h3)
theorem pm_blind (as : List Value) (hp : List va_E) : FrameBlind (pm_Pc g ads as hp) := by
  intro a U f mk h
  obtain ⟨vs, h1, h2, h3, h4, h5⟩ := h
  exact ⟨vs, h1, h2, pm_E.same (u := U) (U := U.calling f mk a) rfl h3, h4, h5⟩
theorem pm_good : ∀ {w : Cond}, w ∈ pm_tbl → ∀ (w0 : Cond), GoodIn (w0 :: pm_tbl) [w] := by
  intro w hw w0 w' hw'
  rw [List.mem_singleton] at hw'
  subst hw'
  exact ⟨List.mem_cons_of_mem _ hw, good_of_word (List.mem_filter.mp hw).2⟩
theorem pm_goodT {w : Cond} (hw : w ∈ pm_tbl) : GoodIn pm_tbl (w :: pm_tbl) := by
  intro w' hw'
  rcases List.mem_cons.mp hw' with rfl | h
  · exact ⟨hw, good_of_word (List.mem_filter.mp hw).2⟩
  · exact ⟨h, good_of_word (List.mem_filter.mp h).2⟩
/-- behind a call's run -/
theorem pm_run {p : Program} {e : Env} {s : State} {m : MethodId} {args : Array Value} {below : List Frame} {meth : Method} {c : Code} {Q : State → Prop} {a0 : List Nat} {kb nb mc ms : Nat} {H : Heap} {locs : List Loc} {arr : Array Slot} {stk rest : List Value} {Qn : Option Value → List va_E → Prop} {Qx : String → List va_E → Prop} {a : Array Value}
    (ok : pm_ok g M (p, e, s, m, args, below, meth, c, Q, a0, kb, nb)) (hr : vx_Run p g.1 e (pm_R M kb nb) s m args below meth c H locs k n mc ms (F0 m pc arr stk) rest (pm_Qc g ads Qn a) (pm_XC g ads Qx) (pm_A g)) (ha : a0 <+: ads) (hS : va_S (pm_A g) s.heap H locs) (hs : pm_s g ads ls arr) (hl : pm_l g ads st rest)
    (kn : ∀ r hp', Qn r hp' → pm_G g M (p, e, s, m, args, below, meth, c, Q, a0, kb, nb) (pc + 3) ls (r.toList ++ st) hp' (k + mc) (n + ms)) (kx : ∀ E hp', Qx E hp' → pm_GX g M (p, e, s, m, args, below, meth, c, Q, a0, kb, nb) E pc ls st hp' (k + mc) (n + ms)) :
    W p g.1 e (pm_R M kb nb) s m args below meth c H locs k n Q (F0 m pc arr stk) := by
  intro T hT Xs
  rcases hr T hT Xs with ⟨v, st₀, t, T', L, h0, X', hL, e1, e2, ⟨r, r', hp', ads', hv, hq, hpre, ho, ⟨ws', hh', hP', hD'⟩, hF⟩, go⟩ | ⟨q, st₀, t, T', L, E, ce, h0, X', hL, e1, e2, ⟨hp', ads', hq, hpre, ⟨ws', hh', hP', hD'⟩, hF⟩, hcell, hvm, hcl, go⟩
  · cases hv
    obtain ⟨-, -, hS'⟩ := vx_keep h0 e1 hS (fun _ _ h => h) (fun _ h => h) hL hF
    obtain ⟨t2, a1, b1⟩ := kn r hp' hq ok ads' ws' T'.heap (locs ++ L) arr (v.toList ++ rest) (ha.trans hpre) hh' (by rw [e1]; exact hP') hD' hS' (hs.ext hpre) (pm_l.join ho (hl.ext hpre)) T' rfl X'
    exact ⟨t2, go t2 a1, b1⟩
  · obtain ⟨-, -, hS'⟩ := vx_keep h0 e1 hS (fun _ _ h => h) (fun _ h => h) hL hF
    obtain ⟨t2, a1, b1⟩ := kx E hp' hq ok ads' ws' T'.heap (locs ++ L) arr rest q ce (ha.trans hpre) hh' (by rw [e1]; exact hP') hD' hS' (hs.ext hpre) (hl.ext hpre) (by rw [e1]; exact hcell) hvm hcl T' rfl X'
    exact ⟨t2, Steps.trans go a1, b1⟩
/-- what a call of a method rests on -/
def pm_my (M : pm_M) (np : Nat) : Prop := pm_w M ∈ pm_tbl ∧ Cond.initialized M.1.cls ∈ pm_tbl ∧ (M.1.cls ≠ "java/lang/invoke/MethodHandle" ∧ M.1.cls ≠ "java/lang/invoke/VarHandle" ∧ (parseMethodDescriptor M.1.desc).map (fun d => d.parameters.length) = some np)
end PMC
