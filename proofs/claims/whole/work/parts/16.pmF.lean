/-! New cells, copies, Math, statics, catches. -/
section PMF
variable {g : pm_Gl} {M C : pm_M} {X : pm_X} {pc k n : Nat} {ls : List (Option Value)} {st : List Value} {hp : List va_E} {ads : List Nat}
def pm_pl (fs : List Value) : Bool := fs.all fun v => match v with
  | .ref _ => false
  | .retAddr _ => false
  | .float _ => false
  | _ => true
theorem pm_plain : ∀ {fs : List Value}, pm_pl fs = true → pm_l g ads fs fs
  | [], _ => rfl
  | x :: xs, h => by
    unfold pm_pl at h
    rw [List.all_cons, Bool.and_eq_true] at h
    refine ⟨x, xs, rfl, ?_, pm_plain h.2⟩
    cases x <;> first | rfl | exact absurd h.1 (by simp)
/-- what 'new' rests on -/
def pm_ne (own : String) (idx ci N : Nat) (fs : List Value) : Prop := ∃ (D : String) (T : u_T) (tys : Nat → FieldType), vwCl[ci]? = some (D, T, N) ∧ (∀ w ∈ u_ws D T N, w ∈ pm_tbl) ∧ (∀ q, q < N → parseFieldDescriptor (T q).2.2.1 = some (tys q)) ∧ Cond.classLink own idx D ∈ pm_tbl ∧ Cond.instantiable D N ∈ pm_tbl ∧ Cond.initialized D ∈ pm_tbl ∧ (∀ j, j < N → defaultValue (tys j) = vp_V fs j) ∧ pm_pl fs = true
theorem pg_new {idx ci N : Nat} {fs : List Value} (hd : decode M.2.1 pc = .ok (.new idx, 3)) (hn : pm_ne M.1.cls idx ci N fs) (hk : k + 1 ≤ pm_kb X) (hs9 : n + N ≤ pm_nb X) (kk : pm_G g M X (pc + 3) ls (.ref hp.length :: st) (hp ++ [.inr (ci, fs)]) (k + 1) (n + N)) : pm_G g M X pc ls st hp k n := by
  obtain ⟨p, e, s, m, args, below, meth, c, Q, a0, kb, nb⟩ := X
  intro ok ads ws H locs arr stk ha hh hP hD hS hs hl
  obtain ⟨hx, hb, hml, hown, hts, hE, hbs, hlk⟩ := id ok
  obtain ⟨D, T, tys, f1, f2, f3, f4, f5, f6, f7, f8⟩ := hn
  refine va_new (fs := fs) hx hb hts f2 tys f3 hown (hts _ f4) (hts _ f5) (hts _ f6) hE.1 hP hD hS (fun q h => Nat.le_trans hbs h) f1 f7 hk hs9 hd (fun q H1 hP1 hD1 hS1 => ?_)
  have hpre : ads <+: ads ++ [q] := List.prefix_append _ _
  refine kk ok (ads ++ [q]) (ws ++ [(q, .inr (ci, fs))]) H1 locs arr _ (ha.trans hpre) (hh.push ⟨fs, rfl, pm_plain f8⟩) hP1 hD1 hS1 (hs.ext hpre) ⟨_, _, rfl, ⟨q, ?_, rfl⟩, hl.ext hpre⟩
  rw [← hh.1, List.getElem?_concat_length]
theorem pm_cA {s : State} {cA : ClassId} {ty : FieldType} {t : Nat} {c0 : ClassId} (hK : va_K g.2.1 vwCl (pm_T g ++ [(cA, ty)]) s) (ht : (pm_T g)[t]? = some (c0, ty)) : cA = c0 := by
  have hlt := (List.getElem?_eq_some_iff.mp ht).1
  have h1 := (hK.2 t (c0, ty) (by rw [List.getElem?_append_left hlt]; exact ht)).2
  have h2 := (hK.2 (pm_T g).length (cA, ty) (List.getElem?_concat_length ..)).2
  cases ty with
  | object D =>
    obtain ⟨_, _, _, _, _, e1⟩ := h1
    obtain ⟨_, _, _, _, _, e2⟩ := h2
    exact Option.some.inj (e2.symm.trans e1)
  | _ => exact Option.some.inj ((show s.vm.findClass _ = some cA from h2).symm.trans (show s.vm.findClass _ = some c0 from h1))
theorem pg_newI {x : Int32} {N : Nat} (hd : decode M.2.1 pc = .ok (.newarray .int, 2)) (hw : Cond.arrayClass .int ∈ pm_tbl) (hx0 : ¬ x < 0) (hN : x.toNatClampNeg = N) (hb0 : N * componentBytes .int ≤ 536870912) (hk : k + 1 ≤ pm_kb X) (hs9 : n + N ≤ pm_nb X) (kk : pm_G g M X (pc + 2) ls (.ref hp.length :: st) (hp ++ [.inl (0, N, .inl (fun _ => 0))]) (k + 1) (n + N)) : pm_G g M X pc ls (.int x :: st) hp k n := by
  obtain ⟨p, e, s, m, args, below, meth, c, Q, a0, kb, nb⟩ := X
  intro ok ads ws H locs arr stk ha hh hP hD hS hs hl
  obtain ⟨hx, hb, hml, hown, hts, hE, hbs, hlk⟩ := id ok
  obtain ⟨v0, t0, rfl, e0, hl⟩ := hl
  obtain rfl : v0 = _ := e0
  refine va_newa (atype := .int) (ty := .int) (a0 := (N, .inl (fun _ => 0))) hx hb (hts _ hw) rfl hE.1 hP hD hS (fun q h => Nat.le_trans hbs h) (fun _ => rfl) hx0 hN hb0 hk hs9 hd (fun q cA H1 hK1 hP1 hD1 hS1 => ?_)
  obtain rfl : cA = g.2.2.1 0 := pm_cA (t := 0) hK1 rfl
  have hpre : ads <+: ads ++ [q] := List.prefix_append _ _
  refine kk ok (ads ++ [q]) _ H1 locs arr _ (ha.trans hpre) (hh.push (x := .inl (0, N, .inl (fun _ => 0))) rfl) hP1 hD1 hS1 (hs.ext hpre) ⟨_, _, rfl, ⟨q, ?_, rfl⟩, hl.ext hpre⟩
  rw [← hh.1, List.getElem?_concat_length]
theorem pg_newZ {x : Int32} {N : Nat} (hd : decode M.2.1 pc = .ok (.newarray .boolean, 2)) (hw : Cond.arrayClass .boolean ∈ pm_tbl) (hx0 : ¬ x < 0) (hN : x.toNatClampNeg = N) (hb0 : N * componentBytes .boolean ≤ 536870912) (hk : k + 1 ≤ pm_kb X) (hs9 : n + N ≤ pm_nb X) (kk : pm_G g M X (pc + 2) ls (.ref hp.length :: st) (hp ++ [.inl (1, N, .inl (fun _ => 0))]) (k + 1) (n + N)) : pm_G g M X pc ls (.int x :: st) hp k n := by
  obtain ⟨p, e, s, m, args, below, meth, c, Q, a0, kb, nb⟩ := X
  intro ok ads ws H locs arr stk ha hh hP hD hS hs hl
  obtain ⟨hx, hb, hml, hown, hts, hE, hbs, hlk⟩ := id ok
  obtain ⟨v0, t0, rfl, e0, hl⟩ := hl
  obtain rfl : v0 = _ := e0
  refine va_newa (atype := .boolean) (ty := .boolean) (a0 := (N, .inl (fun _ => 0))) hx hb (hts _ hw) rfl hE.1 hP hD hS (fun q h => Nat.le_trans hbs h) (fun _ => rfl) hx0 hN hb0 hk hs9 hd (fun q cA H1 hK1 hP1 hD1 hS1 => ?_)
  obtain rfl : cA = g.2.2.1 1 := pm_cA (t := 1) hK1 rfl
  have hpre : ads <+: ads ++ [q] := List.prefix_append _ _
  refine kk ok (ads ++ [q]) _ H1 locs arr _ (ha.trans hpre) (hh.push (x := .inl (1, N, .inl (fun _ => 0))) rfl) hP1 hD1 hS1 (hs.ext hpre) ⟨_, _, rfl, ⟨q, ?_, rfl⟩, hl.ext hpre⟩
  rw [← hh.1, List.getElem?_concat_length]
theorem pg_newJ {x : Int32} {N : Nat} (hd : decode M.2.1 pc = .ok (.newarray .long, 2)) (hw : Cond.arrayClass .long ∈ pm_tbl) (hx0 : ¬ x < 0) (hN : x.toNatClampNeg = N) (hb0 : N * componentBytes .long ≤ 536870912) (hk : k + 1 ≤ pm_kb X) (hs9 : n + N ≤ pm_nb X) (kk : pm_G g M X (pc + 2) ls (.ref hp.length :: st) (hp ++ [.inl (2, N, .inr (.inl (fun _ => 0)))]) (k + 1) (n + N)) : pm_G g M X pc ls (.int x :: st) hp k n := by
  obtain ⟨p, e, s, m, args, below, meth, c, Q, a0, kb, nb⟩ := X
  intro ok ads ws H locs arr stk ha hh hP hD hS hs hl
  obtain ⟨hx, hb, hml, hown, hts, hE, hbs, hlk⟩ := id ok
  obtain ⟨v0, t0, rfl, e0, hl⟩ := hl
  obtain rfl : v0 = _ := e0
  refine va_newa (atype := .long) (ty := .long) (a0 := (N, .inr (.inl (fun _ => 0)))) hx hb (hts _ hw) rfl hE.1 hP hD hS (fun q h => Nat.le_trans hbs h) (fun _ => rfl) hx0 hN hb0 hk hs9 hd (fun q cA H1 hK1 hP1 hD1 hS1 => ?_)
  obtain rfl : cA = g.2.2.1 2 := pm_cA (t := 2) hK1 rfl
  have hpre : ads <+: ads ++ [q] := List.prefix_append _ _
  refine kk ok (ads ++ [q]) _ H1 locs arr _ (ha.trans hpre) (hh.push (x := .inl (2, N, .inr (.inl (fun _ => 0)))) rfl) hP1 hD1 hS1 (hs.ext hpre) ⟨_, _, rfl, ⟨q, ?_, rfl⟩, hl.ext hpre⟩
  rw [← hh.1, List.getElem?_concat_length]
theorem pg_newN {x : Int32} {N idx : Nat} (hd : decode M.2.1 pc = .ok (.anewarray idx, 3)) (hw : Cond.classLink M.1.cls idx RX4 ∈ pm_tbl) (hx0 : ¬ x < 0) (hN : x.toNatClampNeg = N) (hb0 : N * 4 ≤ 536870912) (hk : k + 1 ≤ pm_kb X) (hs9 : n + N ≤ pm_nb X) (kk : pm_G g M X (pc + 3) ls (.ref hp.length :: st) (hp ++ [.inl (3, N, .inr (.inr (.inr (.inr (fun _ => none)))))]) (k + 1) (n + N)) : pm_G g M X pc ls (.int x :: st) hp k n := by
  obtain ⟨p, e, s, m, args, below, meth, c, Q, a0, kb, nb⟩ := X
  intro ok ads ws H locs arr stk ha hh hP hD hS hs hl
  obtain ⟨hx, hb, hml, hown, hts, hE, hbs, hlk⟩ := id ok
  obtain ⟨v0, t0, rfl, e0, hl⟩ := hl
  obtain rfl : v0 = _ := e0
  refine va_newq hx hb hown (hts _ hw) hE.2.2.2.2.2.1 hE.1 hP hD hS (fun q h => Nat.le_trans hbs h) hx0 hN hb0 hk hs9 hd (fun q cA H1 hK1 hP1 hD1 hS1 => ?_)
  obtain rfl : cA = g.2.2.1 3 := pm_cA (t := 3) hK1 rfl
  have hpre : ads <+: ads ++ [q] := List.prefix_append _ _
  refine kk ok (ads ++ [q]) _ H1 locs arr _ (ha.trans hpre) (hh.push (x := .inl (3, N, .inr (.inr (.inr (.inr (fun _ => none)))))) ⟨_, rfl, fun i _ => ⟨fun k9 h => (by cases h), fun _ => rfl⟩⟩) hP1 hD1 hS1 (hs.ext hpre) ⟨_, _, rfl, ⟨q, ?_, rfl⟩, hl.ext hpre⟩
  rw [← hh.1, List.getElem?_concat_length]
/-- a final field in a constructor: a reference -/
theorem pg_putF {idx ci j o q : Nat} {ty : FieldType} {fs : List Value} (hd : decode M.2.1 pc = .ok (.putfield idx, 3)) (hf : pm_fa M.1.cls idx ci j true ty) (hin : M.1.name = "<init>") (hcl : ∃ T N, vwCl[ci]? = some (M.1.cls, T, N)) (hty : ∀ a : Nat, narrow ty (.ref a) = .ref a ∧ fits ty (.ref a) = true) (ho : hp[o]? = some (.inr (ci, fs))) (hj : j < fs.length) (kk : pm_G g M X (pc + 3) ls st (hp.set o (.inr (ci, fs.set j (.ref q)))) k n) : pm_G g M X pc ls (.ref q :: .ref o :: st) hp k n := by
  obtain ⟨p, e, s, m, args, below, meth, c, Q, a0, kb, nb⟩ := X
  intro ok ads ws H locs arr stk ha hh hP hD hS hs hl
  obtain ⟨hx, hb, hml, hown, hts, hE, hbs, hlk, hnm⟩ := id ok
  obtain ⟨v0, t0, rfl, e0, hl⟩ := hl
  obtain ⟨v1, t1, rfl, e1, hl⟩ := hl
  obtain ⟨a, e2, rfl⟩ := e1
  obtain ⟨b, e3, rfl⟩ := id e0
  obtain ⟨E, h1, h2⟩ := hh.at ho e2
  obtain ⟨vs, rfl, h3⟩ := h2
  obtain ⟨D, T, N, tys, f1, f2, f3, f4, f5, f6, f7, f8, f9⟩ := hf
  obtain ⟨T2, N2, f10⟩ := hcl
  obtain ⟨rfl, -⟩ : D = M.1.cls ∧ _ := Prod.mk.inj (Option.some.inj (f1.symm.trans f10))
  have hd2 : parseFieldDescriptor (T j).2.2.1 = some ty := (f5 j f2).trans (by rw [f8])
  refine va_putF (T := T) hx hb hts f3 tys f5 f6 hown hE.1 hP hD hS o h1 f1 j f2 (hts _ f4) (fun _ q => q) f7 (hnm hin) f9 hd2 (hty b).1 (hty b).2 (by rw [h3.len]; exact hj) hd (fun H1 locs1 hP hD hS => ?_)
  exact kk ok ads _ H1 locs1 arr _ ha (hh.set e2 ⟨_, rfl, h3.set e0⟩) hP hD hS hs hl
/-- System.arraycopy over int or boolean rows -/
theorem pg_copy {idx o q t N0 N1 : Nat} {f f1 : Nat → Int32} {sp dp x : Int32} {ty : FieldType} (hd : decode M.2.1 pc = .ok (.invokestatic idx, 3)) (hw1 : Cond.methodLink M.1.cls idx arraycopyName ∈ pm_tbl) (hw2 : Cond.native arraycopyName ∈ pm_tbl) (hw3 : Cond.static arraycopyName ∈ pm_tbl) (hw4 : Cond.initialized "java/lang/System" ∈ pm_tbl) (ht : (pm_T g)[t]? = some (g.2.2.1 t, ty)) (hpr : refKind ty = false)
    (ho : hp[o]? = some (.inl (t, N0, .inl f))) (hq : hp[q]? = some (.inl (t, N1, .inl f1))) (h1 : ¬ sp < 0) (h2 : ¬ dp < 0) (h3 : ¬ x < 0) (h4 : sp.toNatClampNeg + x.toNatClampNeg ≤ N0) (h5 : dp.toNatClampNeg + x.toNatClampNeg ≤ N1) (hfit : ∀ i, i < x.toNatClampNeg → fits ty (.int (f (sp.toNatClampNeg + i))) = true)
    (hls : ls.length = M.2.2.1) (hfr : 1 ≤ M.2.2.2.1) (hlo : (st.map fun v => v.category).sum + (nativeFrameWords "java/lang/System" "arraycopy" 5 + 11) ≤ M.2.2.2.2.1)
    (kk : pm_G g M X (pc + 3) ls st (hp.set q (.inl (t, N1, .inl (va_cpy f f1 sp.toNatClampNeg dp.toNatClampNeg x.toNatClampNeg)))) k n) : pm_G g M X pc ls (.int x :: .int dp :: .ref q :: .int sp :: .ref o :: st) hp k n := by
  obtain ⟨p, e, s, m, args, below, meth, c, Q, a0, kb, nb⟩ := X
  intro ok ads ws H locs arr stk ha hh hP hD hS hs hl
  obtain ⟨hx, hb, hml, hown, hts, hE, hbs, hlk⟩ := id ok
  obtain ⟨v0, t0, rfl, e0, hl⟩ := hl
  obtain rfl : v0 = _ := e0
  obtain ⟨v1, t1, rfl, e1, hl⟩ := hl
  obtain rfl : v1 = _ := e1
  obtain ⟨v2, t2, rfl, ⟨a, e2, rfl⟩, hl⟩ := hl
  obtain ⟨v3, t3, rfl, e3, hl⟩ := hl
  obtain rfl : v3 = _ := e3
  obtain ⟨v4, t4, rfl, ⟨b, e4, rfl⟩, hl⟩ := hl
  obtain ⟨E1, g1, g2⟩ := hh.at hq e2
  obtain rfl : E1 = _ := g2
  obtain ⟨E2, g3, g4⟩ := hh.at ho e4
  obtain rfl : E2 = _ := g4
  refine va_copyi hx hb (hml.trans (hls.symm.trans hs.1.symm)) hown (hts _ hw1) (hts _ hw2) (hts _ hw3) (hts _ hw4) hE.1 hP hD hS o q t t g3 g1 ht ht hpr h1 h2 h3 h4 h5 hfit hfr (by rw [hl.cat]; exact hlo) hd (fun H1 locs1 hP hD hS => ?_)
  exact kk ok ads _ H1 locs1 arr _ ha (hh.set e2 (x := .inl (t, N1, .inl (va_cpy f f1 sp.toNatClampNeg dp.toNatClampNeg x.toNatClampNeg))) rfl) hP hD hS hs hl
theorem pg_max {idx : Nat} {x y : Int32} (hd : decode M.2.1 pc = .ok (.invokestatic idx, 3)) (hw1 : Cond.methodLink M.1.cls idx Lib.Math.max.name ∈ pm_tbl) (hw2 : Cond.static Lib.Math.max.name ∈ pm_tbl) (hw3 : Cond.initialized "java/lang/Math" ∈ pm_tbl) (hw4 : Cond.code Lib.Math.max.name Lib.Math.max.code 2 (some .int) ∈ pm_tbl) (hls : ls.length = M.2.2.1) (hfr : 1 ≤ M.2.2.2.1) (hlo : (st.map fun v => v.category).sum + 13 ≤ M.2.2.2.2.1) (hk : k ≤ pm_kb X) (hn : n ≤ pm_nb X) (kk : pm_G g M X (pc + 3) ls (.int (if x < y then y else x) :: st) hp k n) : pm_G g M X pc ls (.int y :: .int x :: st) hp k n := by
  obtain ⟨p, e, s, m, args, below, meth, c, Q, a0, kb, nb⟩ := X
  intro ok ads ws H locs arr stk ha hh hP hD hS hs hl
  obtain ⟨hx, hb, hml, hown, hts, hE, hbs, hlk⟩ := id ok
  obtain ⟨v0, t0, rfl, e0, hl⟩ := hl
  obtain rfl : v0 = _ := e0
  obtain ⟨v1, t1, rfl, e1, hl⟩ := hl
  obtain rfl : v1 = _ := e1
  exact va_mmax hx hb (hml.trans (hls.symm.trans hs.1.symm)) hown (hts _ hw1) (hts _ hw2) (hts _ hw3) (hts _ hw4) hfr (by rw [hl.cat]; exact hlo) hk hn hd (kk ok ads ws H locs arr _ ha hh hP hD hS hs ⟨_, _, rfl, rfl, hl⟩)
theorem pg_min {idx : Nat} {x y : Int32} (hd : decode M.2.1 pc = .ok (.invokestatic idx, 3)) (hw1 : Cond.methodLink M.1.cls idx Lib.Math.min.name ∈ pm_tbl) (hw2 : Cond.static Lib.Math.min.name ∈ pm_tbl) (hw3 : Cond.initialized "java/lang/Math" ∈ pm_tbl) (hw4 : Cond.code Lib.Math.min.name Lib.Math.min.code 2 (some .int) ∈ pm_tbl) (hls : ls.length = M.2.2.1) (hfr : 1 ≤ M.2.2.2.1) (hlo : (st.map fun v => v.category).sum + 13 ≤ M.2.2.2.2.1) (hk : k ≤ pm_kb X) (hn : n ≤ pm_nb X) (kk : pm_G g M X (pc + 3) ls (.int (if y < x then y else x) :: st) hp k n) : pm_G g M X pc ls (.int y :: .int x :: st) hp k n := by
  obtain ⟨p, e, s, m, args, below, meth, c, Q, a0, kb, nb⟩ := X
  intro ok ads ws H locs arr stk ha hh hP hD hS hs hl
  obtain ⟨hx, hb, hml, hown, hts, hE, hbs, hlk⟩ := id ok
  obtain ⟨v0, t0, rfl, e0, hl⟩ := hl
  obtain rfl : v0 = _ := e0
  obtain ⟨v1, t1, rfl, e1, hl⟩ := hl
  obtain rfl : v1 = _ := e1
  exact va_mmin hx hb (hml.trans (hls.symm.trans hs.1.symm)) hown (hts _ hw1) (hts _ hw2) (hts _ hw3) (hts _ hw4) hfr (by rw [hl.cat]; exact hlo) hk hn hd (kk ok ads ws H locs arr _ ha hh hP hD hS hs ⟨_, _, rfl, rfl, hl⟩)
theorem pg_abs {idx : Nat} {x : Int32} (hd : decode M.2.1 pc = .ok (.invokestatic idx, 3)) (hw1 : Cond.methodLink M.1.cls idx Lib.Math.abs.name ∈ pm_tbl) (hw2 : Cond.static Lib.Math.abs.name ∈ pm_tbl) (hw3 : Cond.initialized "java/lang/Math" ∈ pm_tbl) (hw4 : Cond.code Lib.Math.abs.name Lib.Math.abs.code 1 (some .int) ∈ pm_tbl) (hls : ls.length = M.2.2.1) (hfr : 1 ≤ M.2.2.2.1) (hlo : (st.map fun v => v.category).sum + 13 ≤ M.2.2.2.2.1) (hk : k ≤ pm_kb X) (hn : n ≤ pm_nb X) (kk : pm_G g M X (pc + 3) ls (.int (if 0 ≤ x then x else 0 - x) :: st) hp k n) : pm_G g M X pc ls (.int x :: st) hp k n := by
  obtain ⟨p, e, s, m, args, below, meth, c, Q, a0, kb, nb⟩ := X
  intro ok ads ws H locs arr stk ha hh hP hD hS hs hl
  obtain ⟨hx, hb, hml, hown, hts, hE, hbs, hlk⟩ := id ok
  obtain ⟨v0, t0, rfl, e0, hl⟩ := hl
  obtain rfl : v0 = _ := e0
  exact va_mabs hx hb (hml.trans (hls.symm.trans hs.1.symm)) hown (hts _ hw1) (hts _ hw2) (hts _ hw3) (hts _ hw4) hfr (by rw [hl.cat]; exact hlo) hk hn hd (kk ok ads ws H locs arr _ ha hh hP hD hS hs ⟨_, _, rfl, rfl, hl⟩)
theorem pg_gets {idx : Nat} (hd : decode M.2.1 pc = .ok (.getstatic idx, 3)) (hw : Cond.fieldLink M.1.cls idx RX7 "NUMBERS" "[I" ∈ pm_tbl) (kk : pm_G g M X (pc + 3) ls (.retAddr 1 :: st) hp k n) : pm_G g M X pc ls st hp k n := by
  obtain ⟨p, e, s, m, args, below, meth, c, Q, a0, kb, nb⟩ := X
  intro ok ads ws H locs arr stk ha hh hP hD hS hs hl
  obtain ⟨hx, hb, hml, hown, hts, hE, hbs, hlk⟩ := id ok
  exact va_gets hx hb hE.2.2.2.2.2.2.1 hS hown (hts _ hw) (fun _ q => q) hd (kk ok ads ws H locs arr _ ha hh hP hD hS hs ⟨_, _, rfl, rfl, hl⟩)
theorem pg_nums {i : Int32} (hd : decode M.2.1 pc = .ok (.iaload, 1)) (hi : vp_in i 7) (kk : pm_G g M X (pc + 1) ls (.int (pm_nums i.toNatClampNeg) :: st) hp k n) : pm_G g M X pc ls (.int i :: .retAddr 1 :: st) hp k n := by
  obtain ⟨p, e, s, m, args, below, meth, c, Q, a0, kb, nb⟩ := X
  intro ok ads ws H locs arr stk ha hh hP hD hS hs hl
  obtain ⟨hx, hb, hml, hown, hts, hE, hbs, hlk⟩ := id ok
  obtain ⟨v0, t0, rfl, e0, hl⟩ := hl
  obtain rfl : v0 = _ := e0
  obtain ⟨v1, t1, rfl, e1, hl⟩ := hl
  obtain rfl : v1 = _ := e1
  exact va_ti hx hb hE.2.2.2.2.2.2.2.1 hS hi rfl hd (kk ok ads ws H locs arr _ ha hh hP hD hS hs ⟨_, _, rfl, rfl, hl⟩)
/-- a store of some reference -/
theorem pg_astoreF_n {i : Fin 4} {x : UInt32} (hd : decode M.2.1 pc = .ok (.astore_n i, 1)) (hi : (i : Nat) < ls.length) (kk : pm_G g M X (pc + 1) (pm_st1 ls (i : Nat) (.float x)) st hp k n) : pm_G g M X pc ls (.float x :: st) hp k n := by
  obtain ⟨p, e, s, m, args, below, meth, c, Q, a0, kb, nb⟩ := X
  intro ok ads ws H locs arr stk ha hh hP hD hS hs hl
  obtain ⟨hx, hb, hml, hown, hts, hE, hbs, hlk⟩ := id ok
  obtain ⟨v0, t0, rfl, e0, hl⟩ := hl
  obtain ⟨lv, h1, h2⟩ := hs.lv
  obtain ⟨a, rfl⟩ := id e0
  refine lv_astore_n hx hb hd rfl h1 hi rfl (fun arr' h3 => ?_)
  exact kk ok ads ws H locs arr' _ ha hh hP hD hS (hs.st1 hi e0 h2 h3) hl
theorem pg_astoreF {i : Nat} {x : UInt32} (hd : decode M.2.1 pc = .ok (.astore i, 2)) (hi : i < ls.length) (kk : pm_G g M X (pc + 2) (pm_st1 ls i (.float x)) st hp k n) : pm_G g M X pc ls (.float x :: st) hp k n := by
  obtain ⟨p, e, s, m, args, below, meth, c, Q, a0, kb, nb⟩ := X
  intro ok ads ws H locs arr stk ha hh hP hD hS hs hl
  obtain ⟨hx, hb, hml, hown, hts, hE, hbs, hlk⟩ := id ok
  obtain ⟨v0, t0, rfl, e0, hl⟩ := hl
  obtain ⟨lv, h1, h2⟩ := hs.lv
  obtain ⟨a, rfl⟩ := id e0
  refine lv_astore hx hb hd h1 hi rfl (fun arr' h3 => ?_)
  exact kk ok ads ws H locs arr' _ ha hh hP hD hS (hs.st1 hi e0 h2 h3) hl
end PMF
