/-! Calls, a body's contract, its ends. -/
section PMD
variable {g : pm_Gl} {M C : pm_M} {X : pm_X} {pc k n : Nat} {ls : List (Option Value)} {st : List Value} {hp : List va_E} {ads : List Nat}
def pm_kb (X : pm_X) : Nat := X.2.2.2.2.2.2.2.2.2.2.1
def pm_nb (X : pm_X) : Nat := X.2.2.2.2.2.2.2.2.2.2.2
theorem pm_w0 (h : M.2.2.2.2.2.2 = []) : pm_w M = .code M.1 M.2.1 M.2.2.1 M.2.2.2.2.2.1 := by
  unfold pm_w
  rw [h]
theorem pm_w1 {x : Nat × Nat × Nat × Nat} {r : List (Nat × Nat × Nat × Nat)} (h : M.2.2.2.2.2.2 = x :: r) : pm_w M = .codeWith M.1 M.2.1 M.2.2.1 M.2.2.2.2.2.1 (x :: r) := by
  unfold pm_w
  rw [h]
/-- an instance method, called by its own class's name -/
def pm_cv (C : pm_M) (np ci : Nat) : Prop := pm_my C np ∧ Cond.instanceMethod C.1 ∈ pm_tbl ∧ Cond.selects C.1.cls C.1 C.1 ∈ pm_tbl ∧ C.2.2.2.2.2.2 = [] ∧ ∃ T N, vwCl[ci]? = some (C.1.cls, T, N)
theorem pg_callV {np idx o ci mc ms : Nat} {as st0 : List Value} {fs : List Value} {Qn : Option Value → List va_E → Prop} {Qx : String → List va_E → Prop}
    (hd : decode M.2.1 pc = .ok (.invokevirtual idx, 3)) (hlk : Cond.methodLink M.1.cls idx C.1 ∈ pm_tbl) (hcv : pm_cv C np ci) (ho : hp[o]? = some (.inr (ci, fs))) (hst : st0 = as.reverse ++ .ref o :: st) (hlen : as.length = np) (hw : (st.map fun v => v.category).sum ≤ 8) (hls : ls.length = M.2.2.1)
    (hroom : C.2.2.2.1 + 1 ≤ M.2.2.2.1 ∧ 8 + (C.2.2.1 + 11) + C.2.2.2.2.1 ≤ M.2.2.2.2.1) (hk : k + mc ≤ pm_kb X ∧ n + ms ≤ pm_nb X) (hc : pm_Ct g C (.ref o :: as) hp mc ms Qn Qx)
    (kn : ∀ r hp', Qn r hp' → pm_G g M X (pc + 3) ls (r.toList ++ st) hp' (k + mc) (n + ms)) (kx : ∀ E hp', Qx E hp' → pm_GX g M X E pc ls st hp' (k + mc) (n + ms)) : pm_G g M X pc ls st0 hp k n := by
  obtain ⟨p, e, s, m, args, below, meth, c, Q, a0, kb, nb⟩ := X
  intro ok ads ws H locs arr stk ha hh hP hD hS hs hl
  obtain ⟨hx, hb, hml, hown, hts, hE, hbs, hlk0⟩ := id ok
  subst hst
  obtain ⟨us, r1, rfl, h1, h2⟩ := pm_l.app hl
  obtain ⟨v, rest, rfl, h3, h4⟩ := h2
  obtain ⟨a, h5, rfl⟩ := h3
  obtain ⟨E0, h6, h7⟩ := hh.at ho h5
  obtain ⟨vs, rfl, h8⟩ := h7
  obtain ⟨⟨m1, m2, m3⟩, i1, i2, i3, T, N, i4⟩ := hcv
  have h1r : pm_l g ads as us.reverse := by have := h1.rev; rwa [List.reverse_reverse] at this
  have hW : pm_w C :: pm_tbl = Cond.code C.1 C.2.1 C.2.2.1 C.2.2.2.2.2.1 :: pm_tbl := by rw [pm_w0 i3]
  refine pm_run (ads := ads) (a := (Value.ref a :: us.reverse).toArray) (rest := rest) ok (vx_runV (n := np) (C := C.1.cls) (b := a) (As := us.reverse) ⟨hx, hb, hml, hown, hts⟩ (hc ads) ⟨callB_of np hts (pm_goodT m1) hW rfl rfl (hts _ m2) (hts _ hlk) m3 hroom, hts _ i1, hts _ i2⟩ ⟨pm_blind _ _, va_recv hE.1 hP i4 h6, fun U hU hWm => ?_⟩ rfl ?_ (hs.1.trans hls) (by simp) (lv_room (by rw [h4.cat]; exact hw)) hd hk) ha hS hs h4 kn kx
  · exact ⟨_, rfl, ⟨_, _, rfl, ⟨a, h5, rfl⟩, h1r⟩, hE.enter hWm hS hU, by rw [hU]; exact Nat.le_trans hbs hS.1, ws, hh, by rw [hU]; exact hP, hD⟩
  · rw [h1r.len, hlen]
/-- a static method -/
def pm_cs (C : pm_M) (np : Nat) : Prop := pm_my C np ∧ Cond.static C.1 ∈ pm_tbl ∧ C.2.2.2.2.2.2 = []
theorem pg_callS {np idx mc ms : Nat} {as st0 : List Value} {Qn : Option Value → List va_E → Prop} {Qx : String → List va_E → Prop}
    (hd : decode M.2.1 pc = .ok (.invokestatic idx, 3)) (hlk : Cond.methodLink M.1.cls idx C.1 ∈ pm_tbl) (hcv : pm_cs C np) (hst : st0 = as.reverse ++ st) (hlen : as.length = np) (hw : (st.map fun v => v.category).sum ≤ 8) (hls : ls.length = M.2.2.1)
    (hroom : C.2.2.2.1 + 1 ≤ M.2.2.2.1 ∧ 8 + (C.2.2.1 + 11) + C.2.2.2.2.1 ≤ M.2.2.2.2.1) (hk : k + mc ≤ pm_kb X ∧ n + ms ≤ pm_nb X) (hc : pm_Ct g C as hp mc ms Qn Qx)
    (kn : ∀ r hp', Qn r hp' → pm_G g M X (pc + 3) ls (r.toList ++ st) hp' (k + mc) (n + ms)) (kx : ∀ E hp', Qx E hp' → pm_GX g M X E pc ls st hp' (k + mc) (n + ms)) : pm_G g M X pc ls st0 hp k n := by
  obtain ⟨p, e, s, m, args, below, meth, c, Q, a0, kb, nb⟩ := X
  intro ok ads ws H locs arr stk ha hh hP hD hS hs hl
  obtain ⟨hx, hb, hml, hown, hts, hE, hbs, hlk0⟩ := id ok
  subst hst
  obtain ⟨us, rest, rfl, h1, h4⟩ := pm_l.app hl
  obtain ⟨⟨m1, m2, m3⟩, i1, i3⟩ := hcv
  have h1r : pm_l g ads as us.reverse := by have := h1.rev; rwa [List.reverse_reverse] at this
  have hW : pm_w C :: pm_tbl = Cond.code C.1 C.2.1 C.2.2.1 C.2.2.2.2.2.1 :: pm_tbl := by rw [pm_w0 i3]
  refine pm_run (ads := ads) (a := us.reverse.toArray) (rest := rest) ok (vx_runS (n := np) (As := us.reverse) ⟨hx, hb, hml, hown, hts⟩ (hc ads) ⟨callB_of np hts (pm_goodT m1) hW rfl rfl (hts _ m2) (hts _ hlk) m3 hroom, hts _ i1⟩ ⟨pm_blind _ _, fun U hU hWm => ?_⟩ rfl ?_ (hs.1.trans hls) (by simp) (lv_room (by rw [h4.cat]; exact hw)) hd hk) ha hS hs h4 kn kx
  · exact ⟨_, rfl, h1r, hE.enter hWm hS hU, by rw [hU]; exact Nat.le_trans hbs hS.1, ws, hh, by rw [hU]; exact hP, hD⟩
  · rw [h1r.len, hlen]
/-- a static method with handlers -/
theorem pg_callSX {np idx mc ms : Nat} {as st0 : List Value} {Qn : Option Value → List va_E → Prop} {Qx : String → List va_E → Prop} {x0 : Nat × Nat × Nat × Nat} {r0 : List (Nat × Nat × Nat × Nat)}
    (hd : decode M.2.1 pc = .ok (.invokestatic idx, 3)) (hlk : Cond.methodLink M.1.cls idx C.1 ∈ pm_tbl) (hmy : pm_my C np) (hstt : Cond.static C.1 ∈ pm_tbl) (hhh : C.2.2.2.2.2.2 = x0 :: r0) (hst : st0 = as.reverse ++ st) (hlen : as.length = np) (hw : (st.map fun v => v.category).sum ≤ 8) (hls : ls.length = M.2.2.1)
    (hroom : C.2.2.2.1 + 1 ≤ M.2.2.2.1 ∧ 8 + (C.2.2.1 + 11) + C.2.2.2.2.1 ≤ M.2.2.2.2.1) (hk : k + mc ≤ pm_kb X ∧ n + ms ≤ pm_nb X) (hc : pm_Ct g C as hp mc ms Qn Qx)
    (kn : ∀ r hp', Qn r hp' → pm_G g M X (pc + 3) ls (r.toList ++ st) hp' (k + mc) (n + ms)) (kx : ∀ E hp', Qx E hp' → pm_GX g M X E pc ls st hp' (k + mc) (n + ms)) : pm_G g M X pc ls st0 hp k n := by
  obtain ⟨p, e, s, m, args, below, meth, c, Q, a0, kb, nb⟩ := X
  intro ok ads ws H locs arr stk ha hh hP hD hS hs hl
  obtain ⟨hx, hb, hml, hown, hts, hE, hbs, hlk0⟩ := id ok
  subst hst
  obtain ⟨us, rest, rfl, h1, h4⟩ := pm_l.app hl
  obtain ⟨m1, m2, m3⟩ := hmy
  have h1r : pm_l g ads as us.reverse := by have := h1.rev; rwa [List.reverse_reverse] at this
  have hW : pm_w C :: pm_tbl = Cond.codeWith C.1 C.2.1 C.2.2.1 C.2.2.2.2.2.1 (x0 :: r0) :: pm_tbl := by rw [pm_w1 hhh]
  have hG : GoodIn pm_tbl (va_wsS M.1.cls idx C.1 (pm_w C :: pm_tbl)) := by
    intro w hw
    unfold va_wsS at hw
    rcases List.mem_append.mp hw with h | h
    · simp only [List.mem_cons, List.not_mem_nil, or_false] at h
      rcases h with rfl | rfl | rfl
      · exact ⟨hlk, good_of_word (List.mem_filter.mp hlk).2⟩
      · exact ⟨hstt, good_of_word (List.mem_filter.mp hstt).2⟩
      · exact ⟨m2, good_of_word (List.mem_filter.mp m2).2⟩
    · exact pm_goodT m1 w h
  refine pm_run (ads := ads) (a := us.reverse.toArray) (rest := rest) ok (vx_runSX (n := np) (As := us.reverse) (hh := x0 :: r0) ⟨hx, hb, hml, hown, hts⟩ (hc ads) (vx_cwSW np hts hG hW rfl rfl m3 hroom) ⟨pm_blind _ _, fun U hU hWm => ?_⟩ rfl ?_ (hs.1.trans hls) (by simp) (lv_room (by rw [h4.cat]; exact hw)) hd hk) ha hS hs h4 kn kx
  · exact ⟨_, rfl, h1r, hE.enter hWm hS hU, by rw [hU]; exact Nat.le_trans hbs hS.1, ws, hh, by rw [hU]; exact hP, hD⟩
  · rw [h1r.len, hlen]
/-- the one private static method of a nest mate: isOutside -/
theorem pg_callSN {np mc ms : Nat} {as st0 : List Value} {Qn : Option Value → List va_E → Prop} {Qx : String → List va_E → Prop}
    (hd : decode M.2.1 pc = .ok (.invokestatic 82, 3)) (hM : M.1.cls = RX4) (hC : C.1 = yX11_isOutside) (hcv : pm_cs C np) (hst : st0 = as.reverse ++ st) (hlen : as.length = np) (hw : (st.map fun v => v.category).sum ≤ 8) (hls : ls.length = M.2.2.1)
    (hroom : C.2.2.2.1 + 1 ≤ M.2.2.2.1 ∧ 8 + (C.2.2.1 + 11) + C.2.2.2.2.1 ≤ M.2.2.2.2.1) (hk : k + mc ≤ pm_kb X ∧ n + ms ≤ pm_nb X) (hc : pm_Ct g C as hp mc ms Qn Qx)
    (kn : ∀ r hp', Qn r hp' → pm_G g M X (pc + 3) ls (r.toList ++ st) hp' (k + mc) (n + ms)) (kx : ∀ E hp', Qx E hp' → pm_GX g M X E pc ls st hp' (k + mc) (n + ms)) : pm_G g M X pc ls st0 hp k n := by
  obtain ⟨p, e, s, m, args, below, meth, c, Q, a0, kb, nb⟩ := X
  intro ok ads ws H locs arr stk ha hh hP hD hS hs hl
  obtain ⟨hx, hb, hml, hown, hts, hE, hbs, hlk0⟩ := id ok
  subst hst
  obtain ⟨us, rest, rfl, h1, h4⟩ := pm_l.app hl
  obtain ⟨⟨m1, m2, m3⟩, i1, i3⟩ := hcv
  have h1r : pm_l g ads as us.reverse := by have := h1.rev; rwa [List.reverse_reverse] at this
  have hW : pm_w C :: pm_tbl = Cond.code C.1 C.2.1 C.2.2.1 C.2.2.2.2.2.1 :: pm_tbl := by rw [pm_w0 i3]
  have hn : va_Nw (.methodLinkNest M.1.cls 82 C.1 RX11) s := by rw [hM, hC]; exact hE.2.2.2.2.1
  refine pm_run (ads := ads) (a := us.reverse.toArray) (rest := rest) ok (vx_runSN (n := np) (As := us.reverse) (host := RX11) ⟨hx, hb, hml, hown, hts⟩ (hc ads) ⟨va_cnB np hts (pm_goodT m1) hW rfl rfl hn (hts _ m2) m3 hroom, hts _ i1, trivial⟩ ⟨pm_blind _ _, fun U hU hWm => ?_⟩ rfl ?_ (hs.1.trans hls) (by simp) (lv_room (by rw [h4.cat]; exact hw)) hd hk) ha hS hs h4 kn kx
  · exact ⟨_, rfl, h1r, hE.enter hWm hS hU, by rw [hU]; exact Nat.le_trans hbs hS.1, ws, hh, by rw [hU]; exact hP, hD⟩
  · rw [h1r.len, hlen]
/-- a constructor -/
def pm_ci (C : pm_M) (np : Nat) : Prop := pm_my C np ∧ Cond.instanceMethod C.1 ∈ pm_tbl ∧ C.2.2.2.2.2.2 = [] ∧ C.1.name = "<init>" ∧ C.2.2.2.2.2.1 = none
theorem pg_callI {np idx o mc ms : Nat} {as st0 : List Value} {Qn : Option Value → List va_E → Prop} {Qx : String → List va_E → Prop}
    (hd : decode M.2.1 pc = .ok (.invokespecial idx, 3)) (hlk : Cond.methodLink M.1.cls idx C.1 ∈ pm_tbl) (hcv : pm_ci C np) (hst : st0 = as.reverse ++ .ref o :: st) (hlen : as.length = np) (hw : (st.map fun v => v.category).sum ≤ 8) (hls : ls.length = M.2.2.1)
    (hroom : C.2.2.2.1 + 1 ≤ M.2.2.2.1 ∧ 8 + (C.2.2.1 + 11) + C.2.2.2.2.1 ≤ M.2.2.2.2.1) (hk : k + mc ≤ pm_kb X ∧ n + ms ≤ pm_nb X) (hc : pm_Ct g C (.ref o :: as) hp mc ms Qn Qx)
    (kn : ∀ r hp', Qn r hp' → pm_G g M X (pc + 3) ls (r.toList ++ st) hp' (k + mc) (n + ms)) (kx : ∀ E hp', Qx E hp' → pm_GX g M X E pc ls st hp' (k + mc) (n + ms)) : pm_G g M X pc ls st0 hp k n := by
  obtain ⟨p, e, s, m, args, below, meth, c, Q, a0, kb, nb⟩ := X
  intro ok ads ws H locs arr stk ha hh hP hD hS hs hl
  obtain ⟨hx, hb, hml, hown, hts, hE, hbs, hlk0⟩ := id ok
  subst hst
  obtain ⟨us, r1, rfl, h1, h2⟩ := pm_l.app hl
  obtain ⟨v, rest, rfl, h3, h4⟩ := h2
  obtain ⟨a, h5, rfl⟩ := h3
  obtain ⟨⟨m1, m2, m3⟩, i1, i3, i4, i5⟩ := hcv
  have h1r : pm_l g ads as us.reverse := by have := h1.rev; rwa [List.reverse_reverse] at this
  have hW : pm_w C :: pm_tbl = Cond.code C.1 C.2.1 C.2.2.1 none :: pm_tbl := by rw [pm_w0 i3, i5]
  refine pm_run (ads := ads) (a := (Value.ref a :: us.reverse).toArray) (rest := rest) ok (vx_runI (n := np) (b := a) (As := us.reverse) ⟨hx, hb, hml, hown, hts⟩ (hc ads) ⟨callB_of np hts (pm_goodT m1) hW rfl rfl (hts _ m2) (hts _ hlk) m3 hroom, i4, hts _ i1⟩ ⟨pm_blind _ _, fun U hU hWm => ?_⟩ rfl ?_ (hs.1.trans hls) (by simp) (lv_room (by rw [h4.cat]; exact hw)) hd hk) ha hS hs h4 kn kx
  · exact ⟨_, rfl, ⟨_, _, rfl, ⟨a, h5, rfl⟩, h1r⟩, hE.enter hWm hS hU, by rw [hU]; exact Nat.le_trans hbs hS.1, ws, hh, by rw [hU]; exact hP, hD⟩
  · rw [h1r.len, hlen]
/-- Object's own constructor -/
theorem pg_objI {idx o : Nat} (hd : decode M.2.1 pc = .ok (.invokespecial idx, 3)) (hlk : Cond.methodLink M.1.cls idx Lib.objectInit ∈ pm_tbl) (hin : Cond.instanceMethod Lib.objectInit ∈ pm_tbl) (hco : Cond.code Lib.objectInit ⟨#[0xb1]⟩ 1 none ∈ pm_tbl) (hls : ls.length = M.2.2.1) (hf : 1 ≤ M.2.2.2.1) (hw : (st.map fun v => v.category).sum + 12 ≤ M.2.2.2.2.1) (kk : pm_G g M X (pc + 3) ls st hp k n) : pm_G g M X pc ls (.ref o :: st) hp k n := by
  obtain ⟨p, e, s, m, args, below, meth, c, Q, a0, kb, nb⟩ := X
  intro ok ads ws H locs arr stk ha hh hP hD hS hs hl
  obtain ⟨hx, hb, hml, hown, hts, hE, hbs, hlk0⟩ := id ok
  obtain ⟨v, rest, rfl, h3, h4⟩ := hl
  obtain ⟨a, h5, rfl⟩ := h3
  have hr : 2 * (F0 m pc arr (Value.ref a :: rest)).monitorRoom + (rest.map fun v => v.category).sum + 12 ≤ (pm_R M kb nb).locals := by
    rw [h4.cat]
    have h0 : (F0 m pc arr (Value.ref a :: rest)).monitorRoom = 0 := rfl
    rw [h0]
    show 2 * 0 + _ + 12 ≤ M.2.2.2.2.1
    omega
  exact W.objInit hx hb hown (hts _ hlk) (hts _ hin) (hts _ hco) rfl (hs.1.trans (hls.trans hml.symm)) rfl hd hf hr (kk ok ads ws H locs arr rest ha hh hP hD hS hs h4)
end PMD
