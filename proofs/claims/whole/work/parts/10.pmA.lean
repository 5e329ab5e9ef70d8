/-! THE FLAT MACHINE. A method's run is told over 'places': a heap is a list of cells, a reference is a place of it; pm_G is the machine's own goal at such a picture, whatever the addresses are. -/
/-- launch, class numbers and slots, array classes by kind (0 int, 1 boolean, 2 long, 3 Network), outer addresses (0 script, 1 the row of numbers, 2 the text of words), the script, the first address that is ours -/
abbrev pm_Gl : Type := Launch × va_G × (Nat → ClassId) × (Nat → Nat) × (Nat × (Nat → Int32)) × Nat
def pm_tbl : List Cond := lw_tbl.filter goodWord
def pm_A (g : pm_Gl) : Nat → Prop := fun q => g.2.2.2.2.2 ≤ q
def pm_T (g : pm_Gl) : List (ClassId × FieldType) := [(g.2.2.1 0, .int), (g.2.2.1 1, .boolean), (g.2.2.1 2, .long), (g.2.2.1 3, .object RX4)]
/-- a picture's value, and the machine's: a reference is a place, .retAddr k stands for the k-th outer address, .float for some reference -/
def pm_v (g : pm_Gl) (ads : List Nat) (x v : Value) : Prop := match x with
  | .ref k => ∃ a, ads[k]? = some a ∧ v = .ref a
  | .retAddr k => v = .ref (g.2.2.2.1 k)
  | .float _ => ∃ a, v = .ref a
  | y => v = y
def pm_l (g : pm_Gl) (ads : List Nat) : List Value → List Value → Prop
  | [], vs => vs = []
  | x :: xs, vs => ∃ v ws, vs = v :: ws ∧ pm_v g ads x v ∧ pm_l g ads xs ws
def pm_r (ads : List Nat) (n : Nat) (f f' : Nat → Option Nat) : Prop := ∀ i, i < n → (∀ k, f i = some k → ∃ a, ads[k]? = some a ∧ f' i = some a) ∧ (f i = none → f' i = none)
def pm_c (g : pm_Gl) (ads : List Nat) (x e : va_E) : Prop := match x with
  | .inr o => ∃ vs, e = .inr (o.1, vs) ∧ pm_l g ads o.2 vs
  | .inl (t, n, .inl f) => e = .inl (g.2.2.1 t, n, .inl f)
  | .inl (t, n, .inr (.inl f)) => e = .inl (g.2.2.1 t, n, .inr (.inl f))
  | .inl (t, n, .inr (.inr (.inr (.inr f)))) => ∃ f', e = .inl (g.2.2.1 t, n, .inr (.inr (.inr (.inr f')))) ∧ pm_r ads n f f'
  | _ => False
def pm_h (g : pm_Gl) (ads : List Nat) (hp : List va_E) (ws : va_W) : Prop := ads.length = hp.length ∧ ws.length = hp.length ∧ ∀ (k : Nat) (x : va_E), hp[k]? = some x → ∃ a e, ads[k]? = some a ∧ ws[k]? = some (a, e) ∧ pm_c g ads x e
def pm_s (g : pm_Gl) (ads : List Nat) (ls : List (Option Value)) (arr : Array Slot) : Prop := arr.size = ls.length ∧ lv_wf arr ∧ ∀ (i : Nat) (x : Value), ls[i]? = some (some x) → ∃ v, pm_v g ads x v ∧ arr[i]? = some (.val v)
/-- how many numbers follow each word -/
def pm_nums : Nat → Int32 := fun j => if j = 0 then 3 else if j = 1 then 3 else if j = 4 then 2 else if j = 5 then 2 else 1
/-- the texts of the exceptions, by their entries -/
def pm_msgs : List (Nat × String) := [(184, "no such bridge"), (186, "what is out of range"), (325, "no such number"), (327, "an argument is out of range"), (329, "not in this state"), (198, "no such link"), (152, "no such tenant"), (68, "bridges is out of range"), (81, "a time is out of range"), (155, "credits is out of range"), (164, "too many credits"), (176, "no such host"), (178, "from and to are equal"), (251, "value is out of range"), (257, "the script is full"), (277, "the undo stack is empty")]
def pm_exc : List String := ["java/lang/IndexOutOfBoundsException", "java/lang/IllegalArgumentException", "java/lang/IllegalStateException"]
/-- words of a throw that the tables alone decide -/
def pm_nwl : List Cond := [.castable "java/lang/IndexOutOfBoundsException" "java/lang/IndexOutOfBoundsException", .castable "java/lang/IllegalArgumentException" "java/lang/IllegalArgumentException", .castable "java/lang/IllegalStateException" "java/lang/IllegalStateException", .declares (Bundle.initS "java/lang/RuntimeException"), .declares (Bundle.initS "java/lang/Exception"), .declares (Bundle.initS "java/lang/Throwable")]
/-- the bytes of the text of words -/
def pm_byt : List Int32 := [108, 105, 110, 107, 32, 98, 105, 100, 32, 32, 102, 97, 105, 108, 32, 102, 105, 120, 32, 32, 112, 114, 105, 111, 32, 104, 111, 115, 116, 32, 116, 105, 99, 107, 32]
/-- what stays true of the tables and of old cells -/
def pm_E (g : pm_Gl) (U : State) (H : Heap) : Prop :=
  va_K g.2.1 vwCl (pm_T g) U ∧ va_X (g.2.2.2.1 0) g.2.2.2.2.1.1 g.2.2.2.2.1.2 U H ∧ g.2.2.2.1 0 < g.2.2.2.2.2 ∧ g.2.2.2.1 0 < H.size ∧
  va_Nw (.methodLinkNest RX4 82 yX11_isOutside RX11) U ∧ va_AO RX4 U ∧
  va_Z RX7 "NUMBERS" "[I" (.ref (g.2.2.2.1 1)) (pm_A g) U H ∧ va_T .int (g.2.2.2.1 1) 7 (fun j => .int (pm_nums j)) (pm_A g) U H ∧
  vx_Zq Bundle.tN "UNASSIGNED_STACK" Bundle.steD (pm_A g) U H ∧ vx_Zq Bundle.tN "SUPPRESSED_SENTINEL" Bundle.listD (pm_A g) U H ∧
  (∀ q ∈ pm_msgs, vk_R RX11 q.1 q.2 (g.2.2.2.1 (1000 + q.1)) U) ∧ (∀ w ∈ pm_nwl, va_Nw w U) ∧ (∀ E ∈ pm_exc, ∀ F ∈ pm_exc, E ≠ F → va_Nc E F U) ∧
  vk_R RX7 68 "link bid  fail fix  prio host tick " (g.2.2.2.1 2) U ∧ vk_S 1 [35] [pm_byt] (fun _ => g.2.2.2.1 2) (fun _ => g.2.2.2.1 3) (pm_A g) U H ∧
  va_Z "java/lang/String" "COMPACT_STRINGS" "Z" (.int 1) (pm_A g) U H ∧ va_Zq "jdk/internal/util/Preconditions" "SIOOBE_FORMATTER" "Ljava/util/function/BiFunction;" (pm_A g) U H
/-- a method: its name, its code, its locals, the frames and the words that its calls need, what it returns, its handlers -/
abbrev pm_M : Type := MethodName × ByteArray × Nat × Nat × Nat × Option FieldType × List (Nat × Nat × Nat × Nat)
abbrev pm_X : Type := Program × Env × State × MethodId × Array Value × List Frame × Method × Code × (State → Prop) × List Nat × Nat × Nat
def pm_ok (g : pm_Gl) (M : pm_M) (X : pm_X) : Prop := match X with
  | (p, _, s, m, args, _, meth, c, _, _, _, _) => p.tables.exec = Jvm.exec ∧ c.code = M.2.1 ∧ c.maxLocals = M.2.2.1 ∧ s.vm.findClass M.1.cls = some m.cls ∧ (∀ w ∈ pm_tbl, w.before args s = true) ∧ pm_E g s s.heap ∧ g.2.2.2.2.2 ≤ s.heap.size ∧ meth.locks = false ∧ (M.1.name = "<init>" → meth.name = "<init>")
def pm_R (M : pm_M) (kb nb : Nat) : Room := { frames := M.2.2.2.1, cells := kb, slots := nb, locals := M.2.2.2.2.1 }
def pm_G (g : pm_Gl) (M : pm_M) (X : pm_X) (pc : Nat) (ls : List (Option Value)) (st : List Value) (hp : List va_E) (k n : Nat) : Prop := match X with
  | (p, e, s, m, args, below, meth, c, Q, a0, kb, nb) => pm_ok g M (p, e, s, m, args, below, meth, c, Q, a0, kb, nb) → ∀ (ads : List Nat) (ws : va_W) (H : Heap) (locs : List Loc) (arr : Array Slot) (stk : List Value), a0 <+: ads → pm_h g ads hp ws → va_P g.2.1 vwCl ws H → va_D (pm_A g) ws → va_S (pm_A g) s.heap H locs → pm_s g ads ls arr → pm_l g ads st stk → W p g.1 e (pm_R M kb nb) s m args below meth c H locs k n Q (F0 m pc arr stk)
section PMA
variable {g : pm_Gl} {M : pm_M} {X : pm_X} {ads ads' : List Nat}
theorem pm_v.ext (h : ads <+: ads') {x v : Value} (hv : pm_v g ads x v) : pm_v g ads' x v := by
  cases x <;> first | exact hv | skip
  obtain ⟨a, h1, h2⟩ := hv
  obtain ⟨t, rfl⟩ := h
  exact ⟨a, by rw [List.getElem?_append_left (List.getElem?_eq_some_iff.mp h1).1]; exact h1, h2⟩
theorem pm_l.ext (h : ads <+: ads') : ∀ {xs vs : List Value}, pm_l g ads xs vs → pm_l g ads' xs vs
  | [], _, hv => hv
  | _ :: _, _, ⟨v, ws, h1, h2, h3⟩ => ⟨v, ws, h1, pm_v.ext h h2, pm_l.ext h h3⟩
theorem pm_r.ext (h : ads <+: ads') {n : Nat} {f f' : Nat → Option Nat} (hr : pm_r ads n f f') : pm_r ads' n f f' := by
  intro i hi
  refine ⟨fun k hk => ?_, (hr i hi).2⟩
  obtain ⟨a, h1, h2⟩ := (hr i hi).1 k hk
  obtain ⟨t, rfl⟩ := h
  exact ⟨a, by rw [List.getElem?_append_left (List.getElem?_eq_some_iff.mp h1).1]; exact h1, h2⟩
theorem pm_c.ext (h : ads <+: ads') {x e : va_E} (hc : pm_c g ads x e) : pm_c g ads' x e := by
  match x, hc with
  | .inr o, ⟨vs, h1, h2⟩ => exact ⟨vs, h1, pm_l.ext h h2⟩
  | .inl (t, n, .inl f), hc => exact hc
  | .inl (t, n, .inr (.inl f)), hc => exact hc
  | .inl (t, n, .inr (.inr (.inl f))), hc => exact hc
  | .inl (t, n, .inr (.inr (.inr (.inl f)))), hc => exact hc
  | .inl (t, n, .inr (.inr (.inr (.inr f)))), ⟨f', h1, h2⟩ => exact ⟨f', h1, pm_r.ext h h2⟩
theorem pm_s.ext (h : ads <+: ads') {ls : List (Option Value)} {arr : Array Slot} (hs : pm_s g ads ls arr) : pm_s g ads' ls arr :=
  ⟨hs.1, hs.2.1, fun i x hi => by obtain ⟨v, h1, h2⟩ := hs.2.2 i x hi; exact ⟨v, pm_v.ext h h1, h2⟩⟩
theorem pm_l.len : ∀ {xs vs : List Value}, pm_l g ads xs vs → vs.length = xs.length
  | [], _, hv => by rw [show _ = [] from hv]
  | _ :: _, _, ⟨v, ws, h1, h2, h3⟩ => by rw [h1, List.length_cons, List.length_cons, pm_l.len h3]
theorem pm_l.get : ∀ {xs vs : List Value} {j : Nat} {x : Value}, pm_l g ads xs vs → xs[j]? = some x → ∃ v, vs[j]? = some v ∧ pm_v g ads x v
  | [], _, j, x, _, h => by simp at h
  | _ :: _, _, 0, x, ⟨v, ws, h1, h2, h3⟩, h => by
    rw [List.getElem?_cons_zero] at h
    cases h
    exact ⟨v, by rw [h1]; rfl, h2⟩
  | _ :: _, _, j + 1, x, ⟨v, ws, h1, h2, h3⟩, h => by
    rw [List.getElem?_cons_succ] at h
    obtain ⟨v', h4, h5⟩ := pm_l.get h3 h
    exact ⟨v', by rw [h1, List.getElem?_cons_succ]; exact h4, h5⟩
theorem pm_l.set : ∀ {xs vs : List Value} {j : Nat} {x v : Value}, pm_l g ads xs vs → pm_v g ads x v → pm_l g ads (xs.set j x) (vs.set j v)
  | [], vs, j, x, v, h, _ => by
    have h1 : vs = [] := h
    subst h1
    exact rfl
  | _ :: _, _, 0, x, v, ⟨v0, ws, h1, h2, h3⟩, hv => by
    subst h1
    exact ⟨v, ws, rfl, hv, h3⟩
  | _ :: _, _, j + 1, x, v, ⟨v0, ws, h1, h2, h3⟩, hv => by
    subst h1
    exact ⟨v0, ws.set j v, rfl, h2, pm_l.set h3 hv⟩
theorem pm_l.app : ∀ {xs ys vs : List Value}, pm_l g ads (xs ++ ys) vs → ∃ us ws, vs = us ++ ws ∧ pm_l g ads xs us ∧ pm_l g ads ys ws
  | [], _, vs, h => ⟨[], vs, rfl, rfl, h⟩
  | _ :: _, _, _, ⟨v, ws, h1, h2, h3⟩ => by
    obtain ⟨us, ws', e1, e2, e3⟩ := pm_l.app h3
    exact ⟨v :: us, ws', by rw [h1, e1]; rfl, ⟨v, us, rfl, h2, e2⟩, e3⟩
theorem pm_l.join : ∀ {xs ys us ws : List Value}, pm_l g ads xs us → pm_l g ads ys ws → pm_l g ads (xs ++ ys) (us ++ ws)
  | [], _, us, ws, h, h2 => by
    have h1 : us = [] := h
    subst h1
    exact h2
  | _ :: _, _, _, ws, ⟨v, us, h1, h2, h3⟩, h4 => ⟨v, us ++ ws, by rw [h1]; rfl, h2, pm_l.join h3 h4⟩
theorem pm_l.rev : ∀ {xs us : List Value}, pm_l g ads xs us → pm_l g ads xs.reverse us.reverse
  | [], us, h => by
    have h1 : us = [] := h
    subst h1
    exact rfl
  | x :: xs, _, ⟨v, us, h1, h2, h3⟩ => by
    rw [h1, List.reverse_cons, List.reverse_cons]
    exact pm_l.join (pm_l.rev h3) ⟨v, [], rfl, h2, rfl⟩
theorem pm_v.cat {x v : Value} (h : pm_v g ads x v) : v.category = x.category := by
  cases x with
  | ref k => obtain ⟨a, -, h2⟩ := h; exact (congrArg Value.category h2).trans rfl
  | float b => obtain ⟨a, h2⟩ := h; exact (congrArg Value.category h2).trans rfl
  | retAddr k => exact (congrArg Value.category (show v = _ from h)).trans rfl
  | _ => exact congrArg Value.category (show v = _ from h)
theorem pm_l.cat : ∀ {xs us : List Value}, pm_l g ads xs us → (us.map fun v => v.category) = xs.map fun v => v.category
  | [], us, h => by
    have h1 : us = [] := h
    subst h1
    rfl
  | x :: xs, _, ⟨v, us, h1, h2, h3⟩ => by
    rw [h1, List.map_cons, List.map_cons, pm_v.cat h2, pm_l.cat h3]
/-- a cell of the picture, in the world -/
theorem pm_h.at {hp : List va_E} {ws : va_W} (h : pm_h g ads hp ws) {k a : Nat} {x : va_E} (hx : hp[k]? = some x) (ha : ads[k]? = some a) : ∃ e, ws[k]? = some (a, e) ∧ pm_c g ads x e := by
  obtain ⟨a', e, h1, h2, h3⟩ := h.2.2 k x hx
  cases ha.symm.trans h1
  exact ⟨e, h2, h3⟩
theorem pm_h.set {hp : List va_E} {ws : va_W} (h : pm_h g ads hp ws) {k a : Nat} {x e : va_E} (ha : ads[k]? = some a) (hc : pm_c g ads x e) : pm_h g ads (hp.set k x) (ws.set k (a, e)) := by
  refine ⟨by rw [List.length_set]; exact h.1, by rw [List.length_set, List.length_set]; exact h.2.1, fun j y hj => ?_⟩
  by_cases hjk : k = j
  · subst hjk
    have hl : k < hp.length := by
      have h1 := (List.getElem?_eq_some_iff.mp hj).1
      rw [List.length_set] at h1
      exact h1
    rw [List.getElem?_set_self hl] at hj
    cases hj
    exact ⟨a, e, ha, by rw [List.getElem?_set_self (by rw [h.2.1]; exact hl)], hc⟩
  · rw [List.getElem?_set_ne hjk] at hj
    obtain ⟨a', e', h1, h2, h3⟩ := h.2.2 j y hj
    exact ⟨a', e', h1, by rw [List.getElem?_set_ne hjk]; exact h2, h3⟩
theorem pm_h.push {hp : List va_E} {ws : va_W} (h : pm_h g ads hp ws) {q : Nat} {x e : va_E} (hc : pm_c g (ads ++ [q]) x e) : pm_h g (ads ++ [q]) (hp ++ [x]) (ws ++ [(q, e)]) := by
  refine ⟨by simp [h.1], by simp [h.2.1], fun j y hj => ?_⟩
  by_cases hjl : j < hp.length
  · rw [List.getElem?_append_left hjl] at hj
    obtain ⟨a', e', h1, h2, h3⟩ := h.2.2 j y hj
    exact ⟨a', e', by rw [List.getElem?_append_left (by rw [h.1]; exact hjl)]; exact h1, by rw [List.getElem?_append_left (by rw [h.2.1]; exact hjl)]; exact h2, h3.ext (List.prefix_append _ _)⟩
  · have hj2 : j = hp.length := by
      have h1 := (List.getElem?_eq_some_iff.mp hj).1
      rw [List.length_append, List.length_singleton] at h1
      omega
    subst hj2
    rw [List.getElem?_concat_length] at hj
    cases hj
    exact ⟨q, e, by rw [← h.1, List.getElem?_concat_length], by rw [← h.2.1, List.getElem?_concat_length], hc⟩
/-- the known locals as a list -/
theorem pm_s.lv {ls : List (Option Value)} {arr : Array Slot} (h : pm_s g ads ls arr) : ∃ lv : List (Nat × Value), lv_has arr ls.length lv ∧ ∀ (i : Nat) (v : Value), arr[i]? = some (.val v) → (i, v) ∈ lv := by
  refine ⟨(List.range arr.size).filterMap (fun i => match (arr[i]? : Option Slot) with | some (Slot.val v) => some (i, v) | _ => none), ⟨h.1, h.2.1, fun q hq => ?_⟩, fun i v hi => ?_⟩
  · obtain ⟨i, -, hi⟩ := List.mem_filterMap.mp hq
    split at hi
    · cases hi
      assumption
    · cases hi
  · refine List.mem_filterMap.mpr ⟨i, List.mem_range.mpr (Array.getElem?_eq_some_iff.mp hi).1, ?_⟩
    rw [hi]
def pm_long (o : Option (Option Value)) : Bool := match o with
  | some (some v) => v.category == 2
  | _ => false
/-- a store of one word -/
def pm_st1 (ls : List (Option Value)) (i : Nat) (x : Value) : List (Option Value) := match i with
  | 0 => ls.set 0 (some x)
  | j + 1 => if pm_long ls[j]? = true then (ls.set j none).set (j + 1) (some x) else ls.set (j + 1) (some x)
/-- a store of two words -/
def pm_st2 (ls : List (Option Value)) (i : Nat) (x : Value) : List (Option Value) := match i with
  | 0 => (ls.set 1 none).set 0 (some x)
  | j + 1 => if pm_long ls[j]? = true then ((ls.set j none).set (j + 2) none).set (j + 1) (some x) else (ls.set (j + 2) none).set (j + 1) (some x)
theorem pm_st1_get {ls : List (Option Value)} {i j : Nat} {x y : Value} (hi : i < ls.length) (h : (pm_st1 ls i x)[j]? = some (some y)) : (j = i ∧ y = x) ∨ (j ≠ i ∧ ls[j]? = some (some y) ∧ ¬ (j + 1 = i ∧ y.category = 2)) := by
  by_cases hj : i = j
  · subst hj
    left
    refine ⟨rfl, ?_⟩
    cases i with
    | zero => rw [pm_st1, List.getElem?_set_self hi] at h; cases h; rfl
    | succ j =>
      rw [pm_st1] at h
      split at h
      · rw [List.getElem?_set_self (by rw [List.length_set]; exact hi)] at h; cases h; rfl
      · rw [List.getElem?_set_self hi] at h; cases h; rfl
  · right
    refine ⟨fun e => hj e.symm, ?_⟩
    cases i with
    | zero => rw [pm_st1, List.getElem?_set_ne hj] at h; exact ⟨h, fun e => by omega⟩
    | succ i =>
      rw [pm_st1] at h
      split at h
      · rename_i hl
        rw [List.getElem?_set_ne hj] at h
        by_cases hk : i = j
        · subst hk
          rw [List.getElem?_set_self (by omega)] at h
          cases h
        · rw [List.getElem?_set_ne hk] at h
          exact ⟨h, fun e => by omega⟩
      · rename_i hl
        rw [List.getElem?_set_ne hj] at h
        refine ⟨h, fun e => hl ?_⟩
        obtain ⟨e1, e2⟩ := e
        have e3 : j = i := by omega
        subst e3
        rw [h]
        show (y.category == 2) = true
        rw [e2]
        rfl
theorem pm_st2_get {ls : List (Option Value)} {i j : Nat} {x y : Value} (hi : i + 1 < ls.length) (h : (pm_st2 ls i x)[j]? = some (some y)) : (j = i ∧ y = x) ∨ (j ≠ i ∧ j ≠ i + 1 ∧ ls[j]? = some (some y) ∧ ¬ (j + 1 = i ∧ y.category = 2)) := by
  by_cases hj : i = j
  · subst hj
    left
    refine ⟨rfl, ?_⟩
    cases i with
    | zero => rw [pm_st2, List.getElem?_set_self (by rw [List.length_set]; omega)] at h; cases h; rfl
    | succ j =>
      rw [pm_st2] at h
      split at h
      · rw [List.getElem?_set_self (by rw [List.length_set, List.length_set]; omega)] at h; cases h; rfl
      · rw [List.getElem?_set_self (by rw [List.length_set]; omega)] at h; cases h; rfl
  · right
    refine ⟨fun e => hj e.symm, ?_⟩
    cases i with
    | zero =>
      rw [pm_st2, List.getElem?_set_ne hj] at h
      by_cases h1 : 1 = j
      · subst h1; rw [List.getElem?_set_self (by omega)] at h; cases h
      · rw [List.getElem?_set_ne h1] at h
        exact ⟨fun e => h1 e.symm, h, fun e => by omega⟩
    | succ i =>
      rw [pm_st2] at h
      split at h
      · rename_i hl
        rw [List.getElem?_set_ne hj] at h
        by_cases h1 : i + 2 = j
        · subst h1; rw [List.getElem?_set_self (by rw [List.length_set]; omega)] at h; cases h
        · rw [List.getElem?_set_ne h1] at h
          by_cases hk : i = j
          · subst hk
            rw [List.getElem?_set_self (by omega)] at h
            cases h
          · rw [List.getElem?_set_ne hk] at h
            exact ⟨fun e => h1 e.symm, h, fun e => by omega⟩
      · rename_i hl
        rw [List.getElem?_set_ne hj] at h
        by_cases h1 : i + 2 = j
        · subst h1; rw [List.getElem?_set_self (by omega)] at h; cases h
        · rw [List.getElem?_set_ne h1] at h
          refine ⟨fun e => h1 e.symm, h, fun e => hl ?_⟩
          obtain ⟨e1, e2⟩ := e
          have e3 : j = i := by omega
          subst e3
          rw [h]
          show (y.category == 2) = true
          rw [e2]
          rfl
theorem pm_st1_len (ls : List (Option Value)) (i : Nat) (x : Value) : (pm_st1 ls i x).length = ls.length := by
  cases i with
  | zero => rw [pm_st1, List.length_set]
  | succ j => rw [pm_st1]; split <;> simp
theorem pm_st2_len (ls : List (Option Value)) (i : Nat) (x : Value) : (pm_st2 ls i x).length = ls.length := by
  cases i with
  | zero => rw [pm_st2]; simp
  | succ j => rw [pm_st2]; split <;> simp
/-- behind a store, from the list that the kit's row gives -/
theorem pm_s.st1 {ls : List (Option Value)} {arr arr' : Array Slot} {lv : List (Nat × Value)} {i : Nat} {x v : Value} (h : pm_s g ads ls arr) (hi : i < ls.length) (hv : pm_v g ads x v) (hlv : ∀ (j : Nat) (w : Value), arr[j]? = some (.val w) → (j, w) ∈ lv)
    (h' : lv_has arr' ls.length ((i, v) :: lv.filter (fun q => !(q.1 == i) && !(q.1 + 1 == i && q.2.category == 2)))) : pm_s g ads (pm_st1 ls i x) arr' := by
  refine ⟨by rw [pm_st1_len]; exact h'.1, h'.2.1, fun j y hj => ?_⟩
  rcases pm_st1_get hi hj with ⟨rfl, rfl⟩ | ⟨h1, h2, h3⟩
  · exact ⟨v, hv, h'.2.2 _ List.mem_cons_self⟩
  · obtain ⟨w, e1, e2⟩ := h.2.2 j y h2
    refine ⟨w, e1, h'.2.2 (j, w) (List.mem_cons_of_mem _ (List.mem_filter.mpr ⟨hlv j w e2, ?_⟩))⟩
    have e3 := pm_v.cat e1
    simp only [Bool.and_eq_true, Bool.not_eq_true', beq_eq_false_iff_ne, ne_eq, Bool.and_eq_false_iff]
    refine ⟨h1, ?_⟩
    by_cases hc : j + 1 = i
    · right; rw [e3]; exact fun e => h3 ⟨hc, e⟩
    · left; exact hc
theorem pm_s.st2 {ls : List (Option Value)} {arr arr' : Array Slot} {lv : List (Nat × Value)} {i : Nat} {x v : Value} (h : pm_s g ads ls arr) (hi : i + 1 < ls.length) (hv : pm_v g ads x v) (hlv : ∀ (j : Nat) (w : Value), arr[j]? = some (.val w) → (j, w) ∈ lv)
    (h' : lv_has arr' ls.length ((i, v) :: lv.filter (fun q => !(q.1 == i) && (!(q.1 == i + 1) && !(q.1 + 1 == i && q.2.category == 2))))) : pm_s g ads (pm_st2 ls i x) arr' := by
  refine ⟨by rw [pm_st2_len]; exact h'.1, h'.2.1, fun j y hj => ?_⟩
  rcases pm_st2_get hi hj with ⟨rfl, rfl⟩ | ⟨h1, h4, h2, h3⟩
  · exact ⟨v, hv, h'.2.2 _ List.mem_cons_self⟩
  · obtain ⟨w, e1, e2⟩ := h.2.2 j y h2
    refine ⟨w, e1, h'.2.2 (j, w) (List.mem_cons_of_mem _ (List.mem_filter.mpr ⟨hlv j w e2, ?_⟩))⟩
    have e3 := pm_v.cat e1
    simp only [Bool.and_eq_true, Bool.not_eq_true', beq_eq_false_iff_ne, ne_eq, Bool.and_eq_false_iff]
    refine ⟨h1, h4, ?_⟩
    by_cases hc : j + 1 = i
    · right; rw [e3]; exact fun e => h3 ⟨hc, e⟩
    · left; exact hc
end PMA
