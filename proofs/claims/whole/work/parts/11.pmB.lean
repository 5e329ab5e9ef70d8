/-! A rule an instruction: the goal at its picture out of the goal at the next one. -/
section PMB
variable {g : pm_Gl} {M : pm_M} {X : pm_X} {pc k n : Nat} {ls : List (Option Value)} {st : List Value} {hp : List va_E}
theorem pg_iadd {x y : Int32} (hd : decode M.2.1 pc = .ok (.iadd, 1)) (kk : pm_G g M X (pc + 1) ls (.int (x + y) :: st) hp k n) : pm_G g M X pc ls (.int y :: .int x :: st) hp k n := by
  obtain ⟨p, e, s, m, args, below, meth, c, Q, a0, kb, nb⟩ := X
  intro ok ads ws H locs arr stk ha hh hP hD hS hs hl
  obtain ⟨hx, hb, hml, hown, hts, hE, hbs, hlk⟩ := id ok
  obtain ⟨v0, t0, rfl, e0, hl⟩ := hl
  obtain rfl : v0 = _ := e0
  obtain ⟨v1, t1, rfl, e1, hl⟩ := hl
  obtain rfl : v1 = _ := e1
  refine lv_iadd hx hb hd ?_
  exact kk ok ads ws H locs arr _ ha hh hP hD hS hs ⟨_, _, rfl, rfl, hl⟩
theorem pg_isub {x y : Int32} (hd : decode M.2.1 pc = .ok (.isub, 1)) (kk : pm_G g M X (pc + 1) ls (.int (x - y) :: st) hp k n) : pm_G g M X pc ls (.int y :: .int x :: st) hp k n := by
  obtain ⟨p, e, s, m, args, below, meth, c, Q, a0, kb, nb⟩ := X
  intro ok ads ws H locs arr stk ha hh hP hD hS hs hl
  obtain ⟨hx, hb, hml, hown, hts, hE, hbs, hlk⟩ := id ok
  obtain ⟨v0, t0, rfl, e0, hl⟩ := hl
  obtain rfl : v0 = _ := e0
  obtain ⟨v1, t1, rfl, e1, hl⟩ := hl
  obtain rfl : v1 = _ := e1
  refine lv_isub hx hb hd ?_
  exact kk ok ads ws H locs arr _ ha hh hP hD hS hs ⟨_, _, rfl, rfl, hl⟩
theorem pg_imul {x y : Int32} (hd : decode M.2.1 pc = .ok (.imul, 1)) (kk : pm_G g M X (pc + 1) ls (.int (x * y) :: st) hp k n) : pm_G g M X pc ls (.int y :: .int x :: st) hp k n := by
  obtain ⟨p, e, s, m, args, below, meth, c, Q, a0, kb, nb⟩ := X
  intro ok ads ws H locs arr stk ha hh hP hD hS hs hl
  obtain ⟨hx, hb, hml, hown, hts, hE, hbs, hlk⟩ := id ok
  obtain ⟨v0, t0, rfl, e0, hl⟩ := hl
  obtain rfl : v0 = _ := e0
  obtain ⟨v1, t1, rfl, e1, hl⟩ := hl
  obtain rfl : v1 = _ := e1
  refine lv_imul hx hb hd ?_
  exact kk ok ads ws H locs arr _ ha hh hP hD hS hs ⟨_, _, rfl, rfl, hl⟩
theorem pg_iand {x y : Int32} (hd : decode M.2.1 pc = .ok (.iand, 1)) (kk : pm_G g M X (pc + 1) ls (.int (x &&& y) :: st) hp k n) : pm_G g M X pc ls (.int y :: .int x :: st) hp k n := by
  obtain ⟨p, e, s, m, args, below, meth, c, Q, a0, kb, nb⟩ := X
  intro ok ads ws H locs arr stk ha hh hP hD hS hs hl
  obtain ⟨hx, hb, hml, hown, hts, hE, hbs, hlk⟩ := id ok
  obtain ⟨v0, t0, rfl, e0, hl⟩ := hl
  obtain rfl : v0 = _ := e0
  obtain ⟨v1, t1, rfl, e1, hl⟩ := hl
  obtain rfl : v1 = _ := e1
  refine lv_iand hx hb hd ?_
  exact kk ok ads ws H locs arr _ ha hh hP hD hS hs ⟨_, _, rfl, rfl, hl⟩
theorem pg_ior {x y : Int32} (hd : decode M.2.1 pc = .ok (.ior, 1)) (kk : pm_G g M X (pc + 1) ls (.int (x ||| y) :: st) hp k n) : pm_G g M X pc ls (.int y :: .int x :: st) hp k n := by
  obtain ⟨p, e, s, m, args, below, meth, c, Q, a0, kb, nb⟩ := X
  intro ok ads ws H locs arr stk ha hh hP hD hS hs hl
  obtain ⟨hx, hb, hml, hown, hts, hE, hbs, hlk⟩ := id ok
  obtain ⟨v0, t0, rfl, e0, hl⟩ := hl
  obtain rfl : v0 = _ := e0
  obtain ⟨v1, t1, rfl, e1, hl⟩ := hl
  obtain rfl : v1 = _ := e1
  refine lv_ior hx hb hd ?_
  exact kk ok ads ws H locs arr _ ha hh hP hD hS hs ⟨_, _, rfl, rfl, hl⟩
theorem pg_ishl {x y : Int32} (hd : decode M.2.1 pc = .ok (.ishl, 1)) (kk : pm_G g M X (pc + 1) ls (.int (x <<< (y &&& 31)) :: st) hp k n) : pm_G g M X pc ls (.int y :: .int x :: st) hp k n := by
  obtain ⟨p, e, s, m, args, below, meth, c, Q, a0, kb, nb⟩ := X
  intro ok ads ws H locs arr stk ha hh hP hD hS hs hl
  obtain ⟨hx, hb, hml, hown, hts, hE, hbs, hlk⟩ := id ok
  obtain ⟨v0, t0, rfl, e0, hl⟩ := hl
  obtain rfl : v0 = _ := e0
  obtain ⟨v1, t1, rfl, e1, hl⟩ := hl
  obtain rfl : v1 = _ := e1
  refine lv_ishl hx hb hd ?_
  exact kk ok ads ws H locs arr _ ha hh hP hD hS hs ⟨_, _, rfl, rfl, hl⟩
theorem pg_ishr {x y : Int32} (hd : decode M.2.1 pc = .ok (.ishr, 1)) (kk : pm_G g M X (pc + 1) ls (.int (x >>> (y &&& 31)) :: st) hp k n) : pm_G g M X pc ls (.int y :: .int x :: st) hp k n := by
  obtain ⟨p, e, s, m, args, below, meth, c, Q, a0, kb, nb⟩ := X
  intro ok ads ws H locs arr stk ha hh hP hD hS hs hl
  obtain ⟨hx, hb, hml, hown, hts, hE, hbs, hlk⟩ := id ok
  obtain ⟨v0, t0, rfl, e0, hl⟩ := hl
  obtain rfl : v0 = _ := e0
  obtain ⟨v1, t1, rfl, e1, hl⟩ := hl
  obtain rfl : v1 = _ := e1
  refine lv_ishr hx hb hd ?_
  exact kk ok ads ws H locs arr _ ha hh hP hD hS hs ⟨_, _, rfl, rfl, hl⟩
theorem pg_idiv {x y : Int32} (hd : decode M.2.1 pc = .ok (.idiv, 1)) (hne : ¬ y = 0) (kk : pm_G g M X (pc + 1) ls (.int (x / y) :: st) hp k n) : pm_G g M X pc ls (.int y :: .int x :: st) hp k n := by
  obtain ⟨p, e, s, m, args, below, meth, c, Q, a0, kb, nb⟩ := X
  intro ok ads ws H locs arr stk ha hh hP hD hS hs hl
  obtain ⟨hx, hb, hml, hown, hts, hE, hbs, hlk⟩ := id ok
  obtain ⟨v0, t0, rfl, e0, hl⟩ := hl
  obtain rfl : v0 = _ := e0
  obtain ⟨v1, t1, rfl, e1, hl⟩ := hl
  obtain rfl : v1 = _ := e1
  refine lv_idiv hx hb hd hne ?_
  exact kk ok ads ws H locs arr _ ha hh hP hD hS hs ⟨_, _, rfl, rfl, hl⟩
theorem pg_irem {x y : Int32} (hd : decode M.2.1 pc = .ok (.irem, 1)) (hne : ¬ y = 0) (kk : pm_G g M X (pc + 1) ls (.int (x - x / y * y) :: st) hp k n) : pm_G g M X pc ls (.int y :: .int x :: st) hp k n := by
  obtain ⟨p, e, s, m, args, below, meth, c, Q, a0, kb, nb⟩ := X
  intro ok ads ws H locs arr stk ha hh hP hD hS hs hl
  obtain ⟨hx, hb, hml, hown, hts, hE, hbs, hlk⟩ := id ok
  obtain ⟨v0, t0, rfl, e0, hl⟩ := hl
  obtain rfl : v0 = _ := e0
  obtain ⟨v1, t1, rfl, e1, hl⟩ := hl
  obtain rfl : v1 = _ := e1
  refine lv_irem hx hb hd hne ?_
  exact kk ok ads ws H locs arr _ ha hh hP hD hS hs ⟨_, _, rfl, rfl, hl⟩
theorem pg_ladd {x y : Int64} (hd : decode M.2.1 pc = .ok (.ladd, 1)) (kk : pm_G g M X (pc + 1) ls (.long (x + y) :: st) hp k n) : pm_G g M X pc ls (.long y :: .long x :: st) hp k n := by
  obtain ⟨p, e, s, m, args, below, meth, c, Q, a0, kb, nb⟩ := X
  intro ok ads ws H locs arr stk ha hh hP hD hS hs hl
  obtain ⟨hx, hb, hml, hown, hts, hE, hbs, hlk⟩ := id ok
  obtain ⟨v0, t0, rfl, e0, hl⟩ := hl
  obtain rfl : v0 = _ := e0
  obtain ⟨v1, t1, rfl, e1, hl⟩ := hl
  obtain rfl : v1 = _ := e1
  refine lv_ladd hx hb hd ?_
  exact kk ok ads ws H locs arr _ ha hh hP hD hS hs ⟨_, _, rfl, rfl, hl⟩
theorem pg_lmul {x y : Int64} (hd : decode M.2.1 pc = .ok (.lmul, 1)) (kk : pm_G g M X (pc + 1) ls (.long (x * y) :: st) hp k n) : pm_G g M X pc ls (.long y :: .long x :: st) hp k n := by
  obtain ⟨p, e, s, m, args, below, meth, c, Q, a0, kb, nb⟩ := X
  intro ok ads ws H locs arr stk ha hh hP hD hS hs hl
  obtain ⟨hx, hb, hml, hown, hts, hE, hbs, hlk⟩ := id ok
  obtain ⟨v0, t0, rfl, e0, hl⟩ := hl
  obtain rfl : v0 = _ := e0
  obtain ⟨v1, t1, rfl, e1, hl⟩ := hl
  obtain rfl : v1 = _ := e1
  refine lv_lmul hx hb hd ?_
  exact kk ok ads ws H locs arr _ ha hh hP hD hS hs ⟨_, _, rfl, rfl, hl⟩
theorem pg_lcmp {x y : Int64} (hd : decode M.2.1 pc = .ok (.lcmp, 1)) (kk : pm_G g M X (pc + 1) ls (.int (lg_cmp x y) :: st) hp k n) : pm_G g M X pc ls (.long y :: .long x :: st) hp k n := by
  obtain ⟨p, e, s, m, args, below, meth, c, Q, a0, kb, nb⟩ := X
  intro ok ads ws H locs arr stk ha hh hP hD hS hs hl
  obtain ⟨hx, hb, hml, hown, hts, hE, hbs, hlk⟩ := id ok
  obtain ⟨v0, t0, rfl, e0, hl⟩ := hl
  obtain rfl : v0 = _ := e0
  obtain ⟨v1, t1, rfl, e1, hl⟩ := hl
  obtain rfl : v1 = _ := e1
  refine W.lcmp hx hb hd ?_
  exact kk ok ads ws H locs arr _ ha hh hP hD hS hs ⟨_, _, rfl, rfl, hl⟩
theorem pg_ineg {x : Int32} (hd : decode M.2.1 pc = .ok (.ineg, 1)) (kk : pm_G g M X (pc + 1) ls (.int (-x) :: st) hp k n) : pm_G g M X pc ls (.int x :: st) hp k n := by
  obtain ⟨p, e, s, m, args, below, meth, c, Q, a0, kb, nb⟩ := X
  intro ok ads ws H locs arr stk ha hh hP hD hS hs hl
  obtain ⟨hx, hb, hml, hown, hts, hE, hbs, hlk⟩ := id ok
  obtain ⟨v0, t0, rfl, e0, hl⟩ := hl
  obtain rfl : v0 = _ := e0
  refine lv_ineg hx hb hd ?_
  exact kk ok ads ws H locs arr _ ha hh hP hD hS hs ⟨_, _, rfl, rfl, hl⟩
theorem pg_i2l {x : Int32} (hd : decode M.2.1 pc = .ok (.i2l, 1)) (kk : pm_G g M X (pc + 1) ls (.long x.toInt64 :: st) hp k n) : pm_G g M X pc ls (.int x :: st) hp k n := by
  obtain ⟨p, e, s, m, args, below, meth, c, Q, a0, kb, nb⟩ := X
  intro ok ads ws H locs arr stk ha hh hP hD hS hs hl
  obtain ⟨hx, hb, hml, hown, hts, hE, hbs, hlk⟩ := id ok
  obtain ⟨v0, t0, rfl, e0, hl⟩ := hl
  obtain rfl : v0 = _ := e0
  refine lv_i2l hx hb hd rfl ?_
  exact kk ok ads ws H locs arr _ ha hh hP hD hS hs ⟨_, _, rfl, rfl, hl⟩
theorem pg_iconst {i : Int} (v : Int32) (hd : decode M.2.1 pc = .ok (.iconst i, 1)) (hv : Int32.ofInt i = v) (kk : pm_G g M X (pc + 1) ls (.int v :: st) hp k n) : pm_G g M X pc ls st hp k n := by
  obtain ⟨p, e, s, m, args, below, meth, c, Q, a0, kb, nb⟩ := X
  intro ok ads ws H locs arr stk ha hh hP hD hS hs hl
  obtain ⟨hx, hb, hml, hown, hts, hE, hbs, hlk⟩ := id ok
  refine lv_iconst hx hb hd hv ?_
  exact kk ok ads ws H locs arr _ ha hh hP hD hS hs ⟨_, _, rfl, rfl, hl⟩
theorem pg_bipush {i : Int} (v : Int32) (hd : decode M.2.1 pc = .ok (.bipush i, 2)) (hv : (Int8.ofInt i).toInt32 = v) (kk : pm_G g M X (pc + 2) ls (.int v :: st) hp k n) : pm_G g M X pc ls st hp k n := by
  obtain ⟨p, e, s, m, args, below, meth, c, Q, a0, kb, nb⟩ := X
  intro ok ads ws H locs arr stk ha hh hP hD hS hs hl
  obtain ⟨hx, hb, hml, hown, hts, hE, hbs, hlk⟩ := id ok
  refine lv_bipush hx hb hd hv ?_
  exact kk ok ads ws H locs arr _ ha hh hP hD hS hs ⟨_, _, rfl, rfl, hl⟩
theorem pg_sipush {i : Int} (v : Int32) (hd : decode M.2.1 pc = .ok (.sipush i, 3)) (hv : (Int16.ofInt i).toInt32 = v) (kk : pm_G g M X (pc + 3) ls (.int v :: st) hp k n) : pm_G g M X pc ls st hp k n := by
  obtain ⟨p, e, s, m, args, below, meth, c, Q, a0, kb, nb⟩ := X
  intro ok ads ws H locs arr stk ha hh hP hD hS hs hl
  obtain ⟨hx, hb, hml, hown, hts, hE, hbs, hlk⟩ := id ok
  refine lv_sipush hx hb hd hv ?_
  exact kk ok ads ws H locs arr _ ha hh hP hD hS hs ⟨_, _, rfl, rfl, hl⟩
theorem pg_lconst {i : Fin 2} (v : Int64) (hd : decode M.2.1 pc = .ok (.lconst i, 1)) (hv : Int64.ofNat (i : Nat) = v) (kk : pm_G g M X (pc + 1) ls (.long v :: st) hp k n) : pm_G g M X pc ls st hp k n := by
  obtain ⟨p, e, s, m, args, below, meth, c, Q, a0, kb, nb⟩ := X
  intro ok ads ws H locs arr stk ha hh hP hD hS hs hl
  obtain ⟨hx, hb, hml, hown, hts, hE, hbs, hlk⟩ := id ok
  refine lv_lconst hx hb hd hv ?_
  exact kk ok ads ws H locs arr _ ha hh hP hD hS hs ⟨_, _, rfl, rfl, hl⟩
theorem pg_ldc {i : Nat} {v : Int32} (hd : decode M.2.1 pc = .ok (.ldc i, 2)) (hw : Jvm.Cond.constant M.1.cls i v ∈ pm_tbl) (kk : pm_G g M X (pc + 2) ls (.int v :: st) hp k n) : pm_G g M X pc ls st hp k n := by
  obtain ⟨p, e, s, m, args, below, meth, c, Q, a0, kb, nb⟩ := X
  intro ok ads ws H locs arr stk ha hh hP hD hS hs hl
  obtain ⟨hx, hb, hml, hown, hts, hE, hbs, hlk⟩ := id ok
  refine lv_ldc hx hb hown (hts _ hw) hd ?_
  exact kk ok ads ws H locs arr _ ha hh hP hD hS hs ⟨_, _, rfl, rfl, hl⟩
theorem pg_ldc2 {i : Nat} {v : Int64} (hd : decode M.2.1 pc = .ok (.ldc2_w i, 3)) (hw : Jvm.Cond.constantLong M.1.cls i v ∈ pm_tbl) (kk : pm_G g M X (pc + 3) ls (.long v :: st) hp k n) : pm_G g M X pc ls st hp k n := by
  obtain ⟨p, e, s, m, args, below, meth, c, Q, a0, kb, nb⟩ := X
  intro ok ads ws H locs arr stk ha hh hP hD hS hs hl
  obtain ⟨hx, hb, hml, hown, hts, hE, hbs, hlk⟩ := id ok
  refine lv_ldc2 hx hb hown (hts _ hw) hd ?_
  exact kk ok ads ws H locs arr _ ha hh hP hD hS hs ⟨_, _, rfl, rfl, hl⟩
theorem pg_iload {i : Nat} {x : Int32} (hd : decode M.2.1 pc = .ok (.iload i, 2)) (hi : ls[i]? = some (some (.int x))) (kk : pm_G g M X (pc + 2) ls (.int x :: st) hp k n) : pm_G g M X pc ls st hp k n := by
  obtain ⟨p, e, s, m, args, below, meth, c, Q, a0, kb, nb⟩ := X
  intro ok ads ws H locs arr stk ha hh hP hD hS hs hl
  obtain ⟨hx, hb, hml, hown, hts, hE, hbs, hlk⟩ := id ok
  obtain ⟨v, e1, e2⟩ := hs.2.2 _ _ hi
  obtain rfl : v = _ := e1
  refine lv_iload hx hb hd e2 ?_
  exact kk ok ads ws H locs arr _ ha hh hP hD hS hs ⟨_, _, rfl, rfl, hl⟩
theorem pg_iload_n {i : Fin 4} {x : Int32} (hd : decode M.2.1 pc = .ok (.iload_n i, 1)) (hi : ls[(i : Nat)]? = some (some (.int x))) (kk : pm_G g M X (pc + 1) ls (.int x :: st) hp k n) : pm_G g M X pc ls st hp k n := by
  obtain ⟨p, e, s, m, args, below, meth, c, Q, a0, kb, nb⟩ := X
  intro ok ads ws H locs arr stk ha hh hP hD hS hs hl
  obtain ⟨hx, hb, hml, hown, hts, hE, hbs, hlk⟩ := id ok
  obtain ⟨v, e1, e2⟩ := hs.2.2 _ _ hi
  obtain rfl : v = _ := e1
  refine lv_iload_n hx hb hd rfl e2 ?_
  exact kk ok ads ws H locs arr _ ha hh hP hD hS hs ⟨_, _, rfl, rfl, hl⟩
theorem pg_lload {i : Nat} {x : Int64} (hd : decode M.2.1 pc = .ok (.lload i, 2)) (hi : ls[i]? = some (some (.long x))) (kk : pm_G g M X (pc + 2) ls (.long x :: st) hp k n) : pm_G g M X pc ls st hp k n := by
  obtain ⟨p, e, s, m, args, below, meth, c, Q, a0, kb, nb⟩ := X
  intro ok ads ws H locs arr stk ha hh hP hD hS hs hl
  obtain ⟨hx, hb, hml, hown, hts, hE, hbs, hlk⟩ := id ok
  obtain ⟨v, e1, e2⟩ := hs.2.2 _ _ hi
  obtain rfl : v = _ := e1
  refine lv_lload hx hb hd e2 ?_
  exact kk ok ads ws H locs arr _ ha hh hP hD hS hs ⟨_, _, rfl, rfl, hl⟩
theorem pg_lload_n {i : Fin 4} {x : Int64} (hd : decode M.2.1 pc = .ok (.lload_n i, 1)) (hi : ls[(i : Nat)]? = some (some (.long x))) (kk : pm_G g M X (pc + 1) ls (.long x :: st) hp k n) : pm_G g M X pc ls st hp k n := by
  obtain ⟨p, e, s, m, args, below, meth, c, Q, a0, kb, nb⟩ := X
  intro ok ads ws H locs arr stk ha hh hP hD hS hs hl
  obtain ⟨hx, hb, hml, hown, hts, hE, hbs, hlk⟩ := id ok
  obtain ⟨v, e1, e2⟩ := hs.2.2 _ _ hi
  obtain rfl : v = _ := e1
  refine lv_lload_n hx hb hd rfl e2 ?_
  exact kk ok ads ws H locs arr _ ha hh hP hD hS hs ⟨_, _, rfl, rfl, hl⟩
theorem pg_aload {i : Nat} {x : Nat} (hd : decode M.2.1 pc = .ok (.aload i, 2)) (hi : ls[i]? = some (some (.ref x))) (kk : pm_G g M X (pc + 2) ls (.ref x :: st) hp k n) : pm_G g M X pc ls st hp k n := by
  obtain ⟨p, e, s, m, args, below, meth, c, Q, a0, kb, nb⟩ := X
  intro ok ads ws H locs arr stk ha hh hP hD hS hs hl
  obtain ⟨hx, hb, hml, hown, hts, hE, hbs, hlk⟩ := id ok
  obtain ⟨v, ⟨a, e3, rfl⟩, e2⟩ := hs.2.2 _ _ hi
  refine lv_aload hx hb hd e2 ?_
  exact kk ok ads ws H locs arr _ ha hh hP hD hS hs ⟨_, _, rfl, ⟨a, e3, rfl⟩, hl⟩
theorem pg_aloadX {i : Nat} {x : Nat} (hd : decode M.2.1 pc = .ok (.aload i, 2)) (hi : ls[i]? = some (some (.retAddr x))) (kk : pm_G g M X (pc + 2) ls (.retAddr x :: st) hp k n) : pm_G g M X pc ls st hp k n := by
  obtain ⟨p, e, s, m, args, below, meth, c, Q, a0, kb, nb⟩ := X
  intro ok ads ws H locs arr stk ha hh hP hD hS hs hl
  obtain ⟨hx, hb, hml, hown, hts, hE, hbs, hlk⟩ := id ok
  obtain ⟨v, e1, e2⟩ := hs.2.2 _ _ hi
  obtain rfl : v = _ := e1
  refine lv_aload hx hb hd e2 ?_
  exact kk ok ads ws H locs arr _ ha hh hP hD hS hs ⟨_, _, rfl, rfl, hl⟩
theorem pg_aload_n {i : Fin 4} {x : Nat} (hd : decode M.2.1 pc = .ok (.aload_n i, 1)) (hi : ls[(i : Nat)]? = some (some (.ref x))) (kk : pm_G g M X (pc + 1) ls (.ref x :: st) hp k n) : pm_G g M X pc ls st hp k n := by
  obtain ⟨p, e, s, m, args, below, meth, c, Q, a0, kb, nb⟩ := X
  intro ok ads ws H locs arr stk ha hh hP hD hS hs hl
  obtain ⟨hx, hb, hml, hown, hts, hE, hbs, hlk⟩ := id ok
  obtain ⟨v, ⟨a, e3, rfl⟩, e2⟩ := hs.2.2 _ _ hi
  refine lv_aload_n hx hb hd rfl e2 ?_
  exact kk ok ads ws H locs arr _ ha hh hP hD hS hs ⟨_, _, rfl, ⟨a, e3, rfl⟩, hl⟩
theorem pg_aloadX_n {i : Fin 4} {x : Nat} (hd : decode M.2.1 pc = .ok (.aload_n i, 1)) (hi : ls[(i : Nat)]? = some (some (.retAddr x))) (kk : pm_G g M X (pc + 1) ls (.retAddr x :: st) hp k n) : pm_G g M X pc ls st hp k n := by
  obtain ⟨p, e, s, m, args, below, meth, c, Q, a0, kb, nb⟩ := X
  intro ok ads ws H locs arr stk ha hh hP hD hS hs hl
  obtain ⟨hx, hb, hml, hown, hts, hE, hbs, hlk⟩ := id ok
  obtain ⟨v, e1, e2⟩ := hs.2.2 _ _ hi
  obtain rfl : v = _ := e1
  refine lv_aload_n hx hb hd rfl e2 ?_
  exact kk ok ads ws H locs arr _ ha hh hP hD hS hs ⟨_, _, rfl, rfl, hl⟩
theorem pg_istore {i : Nat} {x : Int32} (hd : decode M.2.1 pc = .ok (.istore i, 2)) (hi : i < ls.length) (kk : pm_G g M X (pc + 2) (pm_st1 ls i (.int x)) st hp k n) : pm_G g M X pc ls (.int x :: st) hp k n := by
  obtain ⟨p, e, s, m, args, below, meth, c, Q, a0, kb, nb⟩ := X
  intro ok ads ws H locs arr stk ha hh hP hD hS hs hl
  obtain ⟨hx, hb, hml, hown, hts, hE, hbs, hlk⟩ := id ok
  obtain ⟨v0, t0, rfl, e0, hl⟩ := hl
  obtain ⟨lv, h1, h2⟩ := hs.lv
  obtain rfl : v0 = _ := e0
  refine lv_istore hx hb hd h1 hi rfl (fun arr' h3 => ?_)
  exact kk ok ads ws H locs arr' _ ha hh hP hD hS (hs.st1 hi rfl h2 h3) hl
theorem pg_istore_n {i : Fin 4} {x : Int32} (hd : decode M.2.1 pc = .ok (.istore_n i, 1)) (hi : (i : Nat) < ls.length) (kk : pm_G g M X (pc + 1) (pm_st1 ls (i : Nat) (.int x)) st hp k n) : pm_G g M X pc ls (.int x :: st) hp k n := by
  obtain ⟨p, e, s, m, args, below, meth, c, Q, a0, kb, nb⟩ := X
  intro ok ads ws H locs arr stk ha hh hP hD hS hs hl
  obtain ⟨hx, hb, hml, hown, hts, hE, hbs, hlk⟩ := id ok
  obtain ⟨v0, t0, rfl, e0, hl⟩ := hl
  obtain ⟨lv, h1, h2⟩ := hs.lv
  obtain rfl : v0 = _ := e0
  refine lv_istore_n hx hb hd rfl h1 hi rfl (fun arr' h3 => ?_)
  exact kk ok ads ws H locs arr' _ ha hh hP hD hS (hs.st1 hi rfl h2 h3) hl
theorem pg_lstore {i : Nat} {x : Int64} (hd : decode M.2.1 pc = .ok (.lstore i, 2)) (hi : i + 1 < ls.length) (kk : pm_G g M X (pc + 2) (pm_st2 ls i (.long x)) st hp k n) : pm_G g M X pc ls (.long x :: st) hp k n := by
  obtain ⟨p, e, s, m, args, below, meth, c, Q, a0, kb, nb⟩ := X
  intro ok ads ws H locs arr stk ha hh hP hD hS hs hl
  obtain ⟨hx, hb, hml, hown, hts, hE, hbs, hlk⟩ := id ok
  obtain ⟨v0, t0, rfl, e0, hl⟩ := hl
  obtain ⟨lv, h1, h2⟩ := hs.lv
  obtain rfl : v0 = _ := e0
  refine lv_lstore hx hb hd h1 hi rfl (fun arr' h3 => ?_)
  exact kk ok ads ws H locs arr' _ ha hh hP hD hS (hs.st2 hi rfl h2 h3) hl
theorem pg_lstore_n {i : Fin 4} {x : Int64} (hd : decode M.2.1 pc = .ok (.lstore_n i, 1)) (hi : (i : Nat) + 1 < ls.length) (kk : pm_G g M X (pc + 1) (pm_st2 ls (i : Nat) (.long x)) st hp k n) : pm_G g M X pc ls (.long x :: st) hp k n := by
  obtain ⟨p, e, s, m, args, below, meth, c, Q, a0, kb, nb⟩ := X
  intro ok ads ws H locs arr stk ha hh hP hD hS hs hl
  obtain ⟨hx, hb, hml, hown, hts, hE, hbs, hlk⟩ := id ok
  obtain ⟨v0, t0, rfl, e0, hl⟩ := hl
  obtain ⟨lv, h1, h2⟩ := hs.lv
  obtain rfl : v0 = _ := e0
  refine lv_lstore_n hx hb hd rfl h1 hi rfl (fun arr' h3 => ?_)
  exact kk ok ads ws H locs arr' _ ha hh hP hD hS (hs.st2 hi rfl h2 h3) hl
theorem pg_astore {i : Nat} {x : Nat} (hd : decode M.2.1 pc = .ok (.astore i, 2)) (hi : i < ls.length) (kk : pm_G g M X (pc + 2) (pm_st1 ls i (.ref x)) st hp k n) : pm_G g M X pc ls (.ref x :: st) hp k n := by
  obtain ⟨p, e, s, m, args, below, meth, c, Q, a0, kb, nb⟩ := X
  intro ok ads ws H locs arr stk ha hh hP hD hS hs hl
  obtain ⟨hx, hb, hml, hown, hts, hE, hbs, hlk⟩ := id ok
  obtain ⟨v0, t0, rfl, e0, hl⟩ := hl
  obtain ⟨lv, h1, h2⟩ := hs.lv
  obtain ⟨a, e3, rfl⟩ := id e0
  refine lv_astore hx hb hd h1 hi rfl (fun arr' h3 => ?_)
  exact kk ok ads ws H locs arr' _ ha hh hP hD hS (hs.st1 hi ⟨a, e3, rfl⟩ h2 h3) hl
theorem pg_astore_n {i : Fin 4} {x : Nat} (hd : decode M.2.1 pc = .ok (.astore_n i, 1)) (hi : (i : Nat) < ls.length) (kk : pm_G g M X (pc + 1) (pm_st1 ls (i : Nat) (.ref x)) st hp k n) : pm_G g M X pc ls (.ref x :: st) hp k n := by
  obtain ⟨p, e, s, m, args, below, meth, c, Q, a0, kb, nb⟩ := X
  intro ok ads ws H locs arr stk ha hh hP hD hS hs hl
  obtain ⟨hx, hb, hml, hown, hts, hE, hbs, hlk⟩ := id ok
  obtain ⟨v0, t0, rfl, e0, hl⟩ := hl
  obtain ⟨lv, h1, h2⟩ := hs.lv
  obtain ⟨a, e3, rfl⟩ := id e0
  refine lv_astore_n hx hb hd rfl h1 hi rfl (fun arr' h3 => ?_)
  exact kk ok ads ws H locs arr' _ ha hh hP hD hS (hs.st1 hi ⟨a, e3, rfl⟩ h2 h3) hl
theorem pg_iinc {i : Nat} {j : Int} {x : Int32} (v : Int32) (hd : decode M.2.1 pc = .ok (.iinc i j, 3)) (hi : ls[i]? = some (some (.int x))) (hv : Int32.ofInt j = v) (kk : pm_G g M X (pc + 3) (pm_st1 ls i (.int (x + v))) st hp k n) : pm_G g M X pc ls st hp k n := by
  obtain ⟨p, e, s, m, args, below, meth, c, Q, a0, kb, nb⟩ := X
  intro ok ads ws H locs arr stk ha hh hP hD hS hs hl
  obtain ⟨hx, hb, hml, hown, hts, hE, hbs, hlk⟩ := id ok
  obtain ⟨v1, e1, e2⟩ := hs.2.2 _ _ hi
  obtain rfl : v1 = _ := e1
  obtain ⟨lv, h1, h2⟩ := hs.lv
  obtain ⟨q, hq⟩ := List.getElem?_of_mem (h2 _ _ e2)
  have hil : i < ls.length := (List.getElem?_eq_some_iff.mp hi).1
  refine lv_iinc (v := x + v) hx hb hd h1 hq (by rw [hv]) hil rfl (fun arr' h3 => ?_)
  exact kk ok ads ws H locs arr' _ ha hh hP hD hS (hs.st1 hil rfl h2 h3) hl
theorem pg_dup {x : Value} (hd : decode M.2.1 pc = .ok (.dup, 1)) (hc : x.category = 1) (kk : pm_G g M X (pc + 1) ls (x :: x :: st) hp k n) : pm_G g M X pc ls (x :: st) hp k n := by
  obtain ⟨p, e, s, m, args, below, meth, c, Q, a0, kb, nb⟩ := X
  intro ok ads ws H locs arr stk ha hh hP hD hS hs hl
  obtain ⟨hx, hb, hml, hown, hts, hE, hbs, hlk⟩ := id ok
  obtain ⟨v0, t0, rfl, e0, hl⟩ := hl
  refine lv_dup hx hb hd ((pm_v.cat e0).trans hc) ?_
  exact kk ok ads ws H locs arr _ ha hh hP hD hS hs ⟨_, _, rfl, e0, _, _, rfl, e0, hl⟩
theorem pg_dup2 {x y : Value} (hd : decode M.2.1 pc = .ok (.dup2, 1)) (hc : x.category = 1) (hc2 : y.category = 1) (kk : pm_G g M X (pc + 1) ls (x :: y :: x :: y :: st) hp k n) : pm_G g M X pc ls (x :: y :: st) hp k n := by
  obtain ⟨p, e, s, m, args, below, meth, c, Q, a0, kb, nb⟩ := X
  intro ok ads ws H locs arr stk ha hh hP hD hS hs hl
  obtain ⟨hx, hb, hml, hown, hts, hE, hbs, hlk⟩ := id ok
  obtain ⟨v0, t0, rfl, e0, hl⟩ := hl
  obtain ⟨v1, t1, rfl, e1, hl⟩ := hl
  refine lv_dup2_11 hx hb hd ((pm_v.cat e0).trans hc) ((pm_v.cat e1).trans hc2) ?_
  exact kk ok ads ws H locs arr _ ha hh hP hD hS hs ⟨_, _, rfl, e0, _, _, rfl, e1, _, _, rfl, e0, _, _, rfl, e1, hl⟩
theorem pg_pop {x : Value} (hd : decode M.2.1 pc = .ok (.pop, 1)) (hc : x.category = 1) (kk : pm_G g M X (pc + 1) ls st hp k n) : pm_G g M X pc ls (x :: st) hp k n := by
  obtain ⟨p, e, s, m, args, below, meth, c, Q, a0, kb, nb⟩ := X
  intro ok ads ws H locs arr stk ha hh hP hD hS hs hl
  obtain ⟨hx, hb, hml, hown, hts, hE, hbs, hlk⟩ := id ok
  obtain ⟨v0, t0, rfl, e0, hl⟩ := hl
  refine lv_pop hx hb hd ((pm_v.cat e0).trans hc) ?_
  exact kk ok ads ws H locs arr _ ha hh hP hD hS hs hl
theorem pg_icmp_eq {x y : Int32} {off : Int} (tgt : Nat) (hd : decode M.2.1 pc = .ok (.if_icmp .eq off, 3)) (ht : (pc : Int) + off = (tgt : Int)) (kt : x = y → pm_G g M X tgt ls st hp k n) (kf : ¬ (x = y) → pm_G g M X (pc + 3) ls st hp k n) : pm_G g M X pc ls (.int y :: .int x :: st) hp k n := by
  obtain ⟨p, e, s, m, args, below, meth, c, Q, a0, kb, nb⟩ := X
  intro ok ads ws H locs arr stk ha hh hP hD hS hs hl
  obtain ⟨hx, hb, hml, hown, hts, hE, hbs, hlk⟩ := id ok
  obtain ⟨v0, t0, rfl, e0, hl⟩ := hl
  obtain rfl : v0 = _ := e0
  obtain ⟨v1, t1, rfl, e1, hl⟩ := hl
  obtain rfl : v1 = _ := e1
  exact lv_icmp_eq hx hb hd ht (fun h => kt h ok ads ws H locs arr _ ha hh hP hD hS hs hl) (fun h => kf h ok ads ws H locs arr _ ha hh hP hD hS hs hl)
theorem pg_icmp_ne {x y : Int32} {off : Int} (tgt : Nat) (hd : decode M.2.1 pc = .ok (.if_icmp .ne off, 3)) (ht : (pc : Int) + off = (tgt : Int)) (kt : ¬ x = y → pm_G g M X tgt ls st hp k n) (kf : x = y → pm_G g M X (pc + 3) ls st hp k n) : pm_G g M X pc ls (.int y :: .int x :: st) hp k n := by
  obtain ⟨p, e, s, m, args, below, meth, c, Q, a0, kb, nb⟩ := X
  intro ok ads ws H locs arr stk ha hh hP hD hS hs hl
  obtain ⟨hx, hb, hml, hown, hts, hE, hbs, hlk⟩ := id ok
  obtain ⟨v0, t0, rfl, e0, hl⟩ := hl
  obtain rfl : v0 = _ := e0
  obtain ⟨v1, t1, rfl, e1, hl⟩ := hl
  obtain rfl : v1 = _ := e1
  exact lv_icmp_ne hx hb hd ht (fun h => kt h ok ads ws H locs arr _ ha hh hP hD hS hs hl) (fun h => kf h ok ads ws H locs arr _ ha hh hP hD hS hs hl)
theorem pg_icmp_lt {x y : Int32} {off : Int} (tgt : Nat) (hd : decode M.2.1 pc = .ok (.if_icmp .lt off, 3)) (ht : (pc : Int) + off = (tgt : Int)) (kt : x < y → pm_G g M X tgt ls st hp k n) (kf : ¬ (x < y) → pm_G g M X (pc + 3) ls st hp k n) : pm_G g M X pc ls (.int y :: .int x :: st) hp k n := by
  obtain ⟨p, e, s, m, args, below, meth, c, Q, a0, kb, nb⟩ := X
  intro ok ads ws H locs arr stk ha hh hP hD hS hs hl
  obtain ⟨hx, hb, hml, hown, hts, hE, hbs, hlk⟩ := id ok
  obtain ⟨v0, t0, rfl, e0, hl⟩ := hl
  obtain rfl : v0 = _ := e0
  obtain ⟨v1, t1, rfl, e1, hl⟩ := hl
  obtain rfl : v1 = _ := e1
  exact lv_icmp_lt hx hb hd ht (fun h => kt h ok ads ws H locs arr _ ha hh hP hD hS hs hl) (fun h => kf h ok ads ws H locs arr _ ha hh hP hD hS hs hl)
theorem pg_icmp_ge {x y : Int32} {off : Int} (tgt : Nat) (hd : decode M.2.1 pc = .ok (.if_icmp .ge off, 3)) (ht : (pc : Int) + off = (tgt : Int)) (kt : y ≤ x → pm_G g M X tgt ls st hp k n) (kf : ¬ (y ≤ x) → pm_G g M X (pc + 3) ls st hp k n) : pm_G g M X pc ls (.int y :: .int x :: st) hp k n := by
  obtain ⟨p, e, s, m, args, below, meth, c, Q, a0, kb, nb⟩ := X
  intro ok ads ws H locs arr stk ha hh hP hD hS hs hl
  obtain ⟨hx, hb, hml, hown, hts, hE, hbs, hlk⟩ := id ok
  obtain ⟨v0, t0, rfl, e0, hl⟩ := hl
  obtain rfl : v0 = _ := e0
  obtain ⟨v1, t1, rfl, e1, hl⟩ := hl
  obtain rfl : v1 = _ := e1
  exact lv_icmp_ge hx hb hd ht (fun h => kt h ok ads ws H locs arr _ ha hh hP hD hS hs hl) (fun h => kf h ok ads ws H locs arr _ ha hh hP hD hS hs hl)
theorem pg_icmp_gt {x y : Int32} {off : Int} (tgt : Nat) (hd : decode M.2.1 pc = .ok (.if_icmp .gt off, 3)) (ht : (pc : Int) + off = (tgt : Int)) (kt : y < x → pm_G g M X tgt ls st hp k n) (kf : ¬ (y < x) → pm_G g M X (pc + 3) ls st hp k n) : pm_G g M X pc ls (.int y :: .int x :: st) hp k n := by
  obtain ⟨p, e, s, m, args, below, meth, c, Q, a0, kb, nb⟩ := X
  intro ok ads ws H locs arr stk ha hh hP hD hS hs hl
  obtain ⟨hx, hb, hml, hown, hts, hE, hbs, hlk⟩ := id ok
  obtain ⟨v0, t0, rfl, e0, hl⟩ := hl
  obtain rfl : v0 = _ := e0
  obtain ⟨v1, t1, rfl, e1, hl⟩ := hl
  obtain rfl : v1 = _ := e1
  exact lv_icmp_gt hx hb hd ht (fun h => kt h ok ads ws H locs arr _ ha hh hP hD hS hs hl) (fun h => kf h ok ads ws H locs arr _ ha hh hP hD hS hs hl)
theorem pg_icmp_le {x y : Int32} {off : Int} (tgt : Nat) (hd : decode M.2.1 pc = .ok (.if_icmp .le off, 3)) (ht : (pc : Int) + off = (tgt : Int)) (kt : x ≤ y → pm_G g M X tgt ls st hp k n) (kf : ¬ (x ≤ y) → pm_G g M X (pc + 3) ls st hp k n) : pm_G g M X pc ls (.int y :: .int x :: st) hp k n := by
  obtain ⟨p, e, s, m, args, below, meth, c, Q, a0, kb, nb⟩ := X
  intro ok ads ws H locs arr stk ha hh hP hD hS hs hl
  obtain ⟨hx, hb, hml, hown, hts, hE, hbs, hlk⟩ := id ok
  obtain ⟨v0, t0, rfl, e0, hl⟩ := hl
  obtain rfl : v0 = _ := e0
  obtain ⟨v1, t1, rfl, e1, hl⟩ := hl
  obtain rfl : v1 = _ := e1
  exact lv_icmp_le hx hb hd ht (fun h => kt h ok ads ws H locs arr _ ha hh hP hD hS hs hl) (fun h => kf h ok ads ws H locs arr _ ha hh hP hD hS hs hl)
theorem pg_if_eq {x : Int32} {off : Int} (tgt : Nat) (hd : decode M.2.1 pc = .ok (.ifCond .eq off, 3)) (ht : (pc : Int) + off = (tgt : Int)) (kt : x = 0 → pm_G g M X tgt ls st hp k n) (kf : ¬ (x = 0) → pm_G g M X (pc + 3) ls st hp k n) : pm_G g M X pc ls (.int x :: st) hp k n := by
  obtain ⟨p, e, s, m, args, below, meth, c, Q, a0, kb, nb⟩ := X
  intro ok ads ws H locs arr stk ha hh hP hD hS hs hl
  obtain ⟨hx, hb, hml, hown, hts, hE, hbs, hlk⟩ := id ok
  obtain ⟨v0, t0, rfl, e0, hl⟩ := hl
  obtain rfl : v0 = _ := e0
  exact lv_if_eq hx hb hd ht (fun h => kt h ok ads ws H locs arr _ ha hh hP hD hS hs hl) (fun h => kf h ok ads ws H locs arr _ ha hh hP hD hS hs hl)
theorem pg_if_ne {x : Int32} {off : Int} (tgt : Nat) (hd : decode M.2.1 pc = .ok (.ifCond .ne off, 3)) (ht : (pc : Int) + off = (tgt : Int)) (kt : ¬ x = 0 → pm_G g M X tgt ls st hp k n) (kf : x = 0 → pm_G g M X (pc + 3) ls st hp k n) : pm_G g M X pc ls (.int x :: st) hp k n := by
  obtain ⟨p, e, s, m, args, below, meth, c, Q, a0, kb, nb⟩ := X
  intro ok ads ws H locs arr stk ha hh hP hD hS hs hl
  obtain ⟨hx, hb, hml, hown, hts, hE, hbs, hlk⟩ := id ok
  obtain ⟨v0, t0, rfl, e0, hl⟩ := hl
  obtain rfl : v0 = _ := e0
  exact lv_if_ne hx hb hd ht (fun h => kt h ok ads ws H locs arr _ ha hh hP hD hS hs hl) (fun h => kf h ok ads ws H locs arr _ ha hh hP hD hS hs hl)
theorem pg_if_lt {x : Int32} {off : Int} (tgt : Nat) (hd : decode M.2.1 pc = .ok (.ifCond .lt off, 3)) (ht : (pc : Int) + off = (tgt : Int)) (kt : x < 0 → pm_G g M X tgt ls st hp k n) (kf : ¬ (x < 0) → pm_G g M X (pc + 3) ls st hp k n) : pm_G g M X pc ls (.int x :: st) hp k n := by
  obtain ⟨p, e, s, m, args, below, meth, c, Q, a0, kb, nb⟩ := X
  intro ok ads ws H locs arr stk ha hh hP hD hS hs hl
  obtain ⟨hx, hb, hml, hown, hts, hE, hbs, hlk⟩ := id ok
  obtain ⟨v0, t0, rfl, e0, hl⟩ := hl
  obtain rfl : v0 = _ := e0
  exact lv_if_lt hx hb hd ht (fun h => kt h ok ads ws H locs arr _ ha hh hP hD hS hs hl) (fun h => kf h ok ads ws H locs arr _ ha hh hP hD hS hs hl)
theorem pg_if_ge {x : Int32} {off : Int} (tgt : Nat) (hd : decode M.2.1 pc = .ok (.ifCond .ge off, 3)) (ht : (pc : Int) + off = (tgt : Int)) (kt : 0 ≤ x → pm_G g M X tgt ls st hp k n) (kf : ¬ (0 ≤ x) → pm_G g M X (pc + 3) ls st hp k n) : pm_G g M X pc ls (.int x :: st) hp k n := by
  obtain ⟨p, e, s, m, args, below, meth, c, Q, a0, kb, nb⟩ := X
  intro ok ads ws H locs arr stk ha hh hP hD hS hs hl
  obtain ⟨hx, hb, hml, hown, hts, hE, hbs, hlk⟩ := id ok
  obtain ⟨v0, t0, rfl, e0, hl⟩ := hl
  obtain rfl : v0 = _ := e0
  exact lv_if_ge hx hb hd ht (fun h => kt h ok ads ws H locs arr _ ha hh hP hD hS hs hl) (fun h => kf h ok ads ws H locs arr _ ha hh hP hD hS hs hl)
theorem pg_if_gt {x : Int32} {off : Int} (tgt : Nat) (hd : decode M.2.1 pc = .ok (.ifCond .gt off, 3)) (ht : (pc : Int) + off = (tgt : Int)) (kt : 0 < x → pm_G g M X tgt ls st hp k n) (kf : ¬ (0 < x) → pm_G g M X (pc + 3) ls st hp k n) : pm_G g M X pc ls (.int x :: st) hp k n := by
  obtain ⟨p, e, s, m, args, below, meth, c, Q, a0, kb, nb⟩ := X
  intro ok ads ws H locs arr stk ha hh hP hD hS hs hl
  obtain ⟨hx, hb, hml, hown, hts, hE, hbs, hlk⟩ := id ok
  obtain ⟨v0, t0, rfl, e0, hl⟩ := hl
  obtain rfl : v0 = _ := e0
  exact lv_if_gt hx hb hd ht (fun h => kt h ok ads ws H locs arr _ ha hh hP hD hS hs hl) (fun h => kf h ok ads ws H locs arr _ ha hh hP hD hS hs hl)
theorem pg_if_le {x : Int32} {off : Int} (tgt : Nat) (hd : decode M.2.1 pc = .ok (.ifCond .le off, 3)) (ht : (pc : Int) + off = (tgt : Int)) (kt : x ≤ 0 → pm_G g M X tgt ls st hp k n) (kf : ¬ (x ≤ 0) → pm_G g M X (pc + 3) ls st hp k n) : pm_G g M X pc ls (.int x :: st) hp k n := by
  obtain ⟨p, e, s, m, args, below, meth, c, Q, a0, kb, nb⟩ := X
  intro ok ads ws H locs arr stk ha hh hP hD hS hs hl
  obtain ⟨hx, hb, hml, hown, hts, hE, hbs, hlk⟩ := id ok
  obtain ⟨v0, t0, rfl, e0, hl⟩ := hl
  obtain rfl : v0 = _ := e0
  exact lv_if_le hx hb hd ht (fun h => kt h ok ads ws H locs arr _ ha hh hP hD hS hs hl) (fun h => kf h ok ads ws H locs arr _ ha hh hP hD hS hs hl)
theorem pg_goto {off : Int} (tgt : Nat) (hd : decode M.2.1 pc = .ok (.goto off, 3)) (ht : (pc : Int) + off = (tgt : Int)) (kk : pm_G g M X tgt ls st hp k n) : pm_G g M X pc ls st hp k n := by
  obtain ⟨p, e, s, m, args, below, meth, c, Q, a0, kb, nb⟩ := X
  intro ok ads ws H locs arr stk ha hh hP hD hS hs hl
  obtain ⟨hx, hb, hml, hown, hts, hE, hbs, hlk⟩ := id ok
  exact lv_goto hx hb hd ht (kk ok ads ws H locs arr _ ha hh hP hD hS hs hl)
theorem pg_tabIn {dflt lo hi : Int} {offs : Array Int} {len : Nat} {x : Int32} {off : Int} (tgt : Nat) (hd : decode M.2.1 pc = .ok (.tableswitch dflt lo hi offs, len)) (h1 : ¬ x.toInt < lo) (h2 : ¬ hi < x.toInt) (ho : offs[(x.toInt - lo).toNat]? = some off) (ht : (pc : Int) + off = (tgt : Int)) (kk : pm_G g M X tgt ls st hp k n) : pm_G g M X pc ls (.int x :: st) hp k n := by
  obtain ⟨p, e, s, m, args, below, meth, c, Q, a0, kb, nb⟩ := X
  intro ok ads ws H locs arr stk ha hh hP hD hS hs hl
  obtain ⟨hx, hb, hml, hown, hts, hE, hbs, hlk⟩ := id ok
  obtain ⟨v0, t0, rfl, e0, hl⟩ := hl
  obtain rfl : v0 = _ := e0
  exact lv_tableIn hx hb hd h1 h2 ho ht (kk ok ads ws H locs arr _ ha hh hP hD hS hs hl)
theorem pg_tabOut {dflt lo hi : Int} {offs : Array Int} {len : Nat} {x : Int32} (tgt : Nat) (hd : decode M.2.1 pc = .ok (.tableswitch dflt lo hi offs, len)) (h : x.toInt < lo ∨ hi < x.toInt) (ht : (pc : Int) + dflt = (tgt : Int)) (kk : pm_G g M X tgt ls st hp k n) : pm_G g M X pc ls (.int x :: st) hp k n := by
  obtain ⟨p, e, s, m, args, below, meth, c, Q, a0, kb, nb⟩ := X
  intro ok ads ws H locs arr stk ha hh hP hD hS hs hl
  obtain ⟨hx, hb, hml, hown, hts, hE, hbs, hlk⟩ := id ok
  obtain ⟨v0, t0, rfl, e0, hl⟩ := hl
  obtain rfl : v0 = _ := e0
  exact lv_tableOut hx hb hd h ht (kk ok ads ws H locs arr _ ha hh hP hD hS hs hl)
/-- fewer locals known -/
theorem pg_forget {ls' : List (Option Value)} (h : ls'.length = ls.length) (hf : ∀ (i : Nat) (x : Value), ls'[i]? = some (some x) → ls[i]? = some (some x)) (kk : pm_G g M X pc ls' st hp k n) : pm_G g M X pc ls st hp k n := by
  obtain ⟨p, e, s, m, args, below, meth, c, Q, a0, kb, nb⟩ := X
  intro ok ads ws H locs arr stk ha hh hP hD hS hs hl
  obtain ⟨hx, hb, hml, hown, hts, hE, hbs, hlk⟩ := id ok
  exact kk ok ads ws H locs arr stk ha hh hP hD hS ⟨by rw [h]; exact hs.1, hs.2.1, fun i x hi => hs.2.2 i x (hf i x hi)⟩ hl
theorem pg_widen {k' n' : Nat} (h1 : k ≤ k') (h2 : n ≤ n') (kk : pm_G g M X pc ls st hp k' n') : pm_G g M X pc ls st hp k n := by
  obtain ⟨p, e, s, m, args, below, meth, c, Q, a0, kb, nb⟩ := X
  intro ok ads ws H locs arr stk ha hh hP hD hS hs hl
  obtain ⟨hx, hb, hml, hown, hts, hE, hbs, hlk⟩ := id ok
  exact W.widen h1 h2 (kk ok ads ws H locs arr stk ha hh hP hD hS hs hl)
/-- what a field access rests on: the class of kind ci, its j-th field, the link -/
def pm_fa (own : String) (idx ci j : Nat) (fin : Bool) (ty : FieldType) : Prop := ∃ (C : String) (T : u_T) (N : Nat) (tys : Nat → FieldType), vwCl[ci]? = some (C, T, N) ∧ j < N ∧ (∀ w ∈ u_ws C T N, w ∈ pm_tbl) ∧ Cond.fieldLink own idx (T j).1 (T j).2.1 (T j).2.2.1 ∈ pm_tbl ∧ (∀ q, q < N → parseFieldDescriptor (T q).2.2.1 = some (tys q)) ∧ (∀ a, a < N → ∀ b, b < N → a ≠ b → (T a).2.1 ≠ (T b).2.1) ∧ (T j).2.2.2 = fin ∧ tys j = ty ∧ (T j).1 = C
theorem pg_get {idx ci j o : Nat} {fin : Bool} {ty : FieldType} {fs : List Value} {x : Value} (hd : decode M.2.1 pc = .ok (.getfield idx, 3)) (hf : pm_fa M.1.cls idx ci j fin ty) (ho : hp[o]? = some (.inr (ci, fs))) (hj : fs[j]? = some x) (kk : pm_G g M X (pc + 3) ls (x :: st) hp k n) : pm_G g M X pc ls (.ref o :: st) hp k n := by
  obtain ⟨p, e, s, m, args, below, meth, c, Q, a0, kb, nb⟩ := X
  intro ok ads ws H locs arr stk ha hh hP hD hS hs hl
  obtain ⟨hx, hb, hml, hown, hts, hE, hbs, hlk⟩ := id ok
  obtain ⟨v0, t0, rfl, e0, hl⟩ := hl
  obtain ⟨a, e1, rfl⟩ := e0
  obtain ⟨E, h1, h2⟩ := hh.at ho e1
  obtain ⟨vs, rfl, h3⟩ := h2
  obtain ⟨v, h4, h5⟩ := h3.get hj
  obtain ⟨C, T, N, tys, f1, f2, f3, f4, f5, f6, f7, f8, f9⟩ := hf
  refine va_get (T := T) hx hb hts f3 hown hE.1 hP o h1 f1 j f2 (hts _ f4) (fun _ q => q) h4 hd ?_
  exact kk ok ads ws H locs arr _ ha hh hP hD hS hs ⟨_, _, rfl, h5, hl⟩
theorem pg_put {idx ci j o : Nat} {ty : FieldType} {fs : List Value} {x : Value} (hd : decode M.2.1 pc = .ok (.putfield idx, 3)) (hf : pm_fa M.1.cls idx ci j false ty) (ho : hp[o]? = some (.inr (ci, fs))) (hj : j < fs.length) (hn : ∀ v, pm_v g [] x v → narrow ty v = v ∧ fits ty v = true) (hr : ∀ q, x ≠ .ref q) (kk : pm_G g M X (pc + 3) ls st (hp.set o (.inr (ci, fs.set j x))) k n) : pm_G g M X pc ls (x :: .ref o :: st) hp k n := by
  obtain ⟨p, e, s, m, args, below, meth, c, Q, a0, kb, nb⟩ := X
  intro ok ads ws H locs arr stk ha hh hP hD hS hs hl
  obtain ⟨hx, hb, hml, hown, hts, hE, hbs, hlk⟩ := id ok
  obtain ⟨v0, t0, rfl, e0, hl⟩ := hl
  obtain ⟨v1, t1, rfl, e1, hl⟩ := hl
  obtain ⟨a, e2, rfl⟩ := e1
  obtain ⟨E, h1, h2⟩ := hh.at ho e2
  obtain ⟨vs, rfl, h3⟩ := h2
  obtain ⟨C, T, N, tys, f1, f2, f3, f4, f5, f6, f7, f8, f9⟩ := hf
  have hv : pm_v g [] x v0 := by
    cases x <;> first | exact e0 | exact absurd rfl (hr _)
  have hd2 : parseFieldDescriptor (T j).2.2.1 = some ty := (f5 j f2).trans (by rw [f8])
  refine va_put (T := T) hx hb hts f3 tys f5 f6 hown hE.1 hP hD hS o h1 f1 j f2 (hts _ f4) (fun _ q => q) f7 hd2 (hn _ hv).1 (hn _ hv).2 (by rw [h3.len]; exact hj) hd (fun H1 locs1 hP hD hS => ?_)
  exact kk ok ads _ H1 locs1 arr _ ha (hh.set e2 ⟨_, rfl, h3.set e0⟩) hP hD hS hs hl
theorem pg_putR {idx ci j o q : Nat} {C0 : String} {fs : List Value} (hd : decode M.2.1 pc = .ok (.putfield idx, 3)) (hf : pm_fa M.1.cls idx ci j false (.object C0)) (ho : hp[o]? = some (.inr (ci, fs))) (hj : j < fs.length) (kk : pm_G g M X (pc + 3) ls st (hp.set o (.inr (ci, fs.set j (.ref q)))) k n) : pm_G g M X pc ls (.ref q :: .ref o :: st) hp k n := by
  obtain ⟨p, e, s, m, args, below, meth, c, Q, a0, kb, nb⟩ := X
  intro ok ads ws H locs arr stk ha hh hP hD hS hs hl
  obtain ⟨hx, hb, hml, hown, hts, hE, hbs, hlk⟩ := id ok
  obtain ⟨v0, t0, rfl, e0, hl⟩ := hl
  obtain ⟨v1, t1, rfl, e1, hl⟩ := hl
  obtain ⟨a, e2, rfl⟩ := e1
  obtain ⟨b, e3, rfl⟩ := id e0
  obtain ⟨E, h1, h2⟩ := hh.at ho e2
  obtain ⟨vs, rfl, h3⟩ := h2
  obtain ⟨C, T, N, tys, f1, f2, f3, f4, f5, f6, f7, f8, f9⟩ := hf
  have hd2 : parseFieldDescriptor (T j).2.2.1 = some (.object C0) := (f5 j f2).trans (by rw [f8])
  refine va_put (T := T) hx hb hts f3 tys f5 f6 hown hE.1 hP hD hS o h1 f1 j f2 (hts _ f4) (fun _ q => q) f7 hd2 rfl rfl (by rw [h3.len]; exact hj) hd (fun H1 locs1 hP hD hS => ?_)
  exact kk ok ads _ H1 locs1 arr _ ha (hh.set e2 ⟨_, rfl, h3.set e0⟩) hP hD hS hs hl
theorem pg_iald {o N : Nat} {f : Nat → Int32} {i : Int32} (hd : decode M.2.1 pc = .ok (.iaload, 1)) (ho : hp[o]? = some (.inl (0, N, .inl f))) (hi : vp_in i N) (kk : pm_G g M X (pc + 1) ls (.int (f i.toNatClampNeg) :: st) hp k n) : pm_G g M X pc ls (.int i :: .ref o :: st) hp k n := by
  obtain ⟨p, e, s, m, args, below, meth, c, Q, a0, kb, nb⟩ := X
  intro ok ads ws H locs arr stk ha hh hP hD hS hs hl
  obtain ⟨hx, hb, hml, hown, hts, hE, hbs, hlk⟩ := id ok
  obtain ⟨v0, t0, rfl, e0, hl⟩ := hl
  obtain rfl : v0 = _ := e0
  obtain ⟨v1, t1, rfl, e1, hl⟩ := hl
  obtain ⟨a, e2, rfl⟩ := e1
  obtain ⟨E, h1, h2⟩ := hh.at ho e2
  obtain rfl : E = _ := h2
  refine va_iald hx hb hE.1 hP o 0 h1 rfl hi hd ?_
  exact kk ok ads ws H locs arr _ ha hh hP hD hS hs ⟨_, _, rfl, rfl, hl⟩
theorem pg_zald {o N : Nat} {f : Nat → Int32} {i : Int32} (hd : decode M.2.1 pc = .ok (.baload, 1)) (ho : hp[o]? = some (.inl (1, N, .inl f))) (hi : vp_in i N) (kk : pm_G g M X (pc + 1) ls (.int (f i.toNatClampNeg) :: st) hp k n) : pm_G g M X pc ls (.int i :: .ref o :: st) hp k n := by
  obtain ⟨p, e, s, m, args, below, meth, c, Q, a0, kb, nb⟩ := X
  intro ok ads ws H locs arr stk ha hh hP hD hS hs hl
  obtain ⟨hx, hb, hml, hown, hts, hE, hbs, hlk⟩ := id ok
  obtain ⟨v0, t0, rfl, e0, hl⟩ := hl
  obtain rfl : v0 = _ := e0
  obtain ⟨v1, t1, rfl, e1, hl⟩ := hl
  obtain ⟨a, e2, rfl⟩ := e1
  obtain ⟨E, h1, h2⟩ := hh.at ho e2
  obtain rfl : E = _ := h2
  refine va_zald hx hb hE.1 hP o 1 h1 rfl hi hd ?_
  exact kk ok ads ws H locs arr _ ha hh hP hD hS hs ⟨_, _, rfl, rfl, hl⟩
theorem pg_iast {o N : Nat} {f : Nat → Int32} {i x : Int32} (hd : decode M.2.1 pc = .ok (.iastore, 1)) (ho : hp[o]? = some (.inl (0, N, .inl f))) (hi : vp_in i N) (kk : pm_G g M X (pc + 1) ls st (hp.set o (.inl (0, N, .inl (upd f i.toNatClampNeg x)))) k n) : pm_G g M X pc ls (.int x :: .int i :: .ref o :: st) hp k n := by
  obtain ⟨p, e, s, m, args, below, meth, c, Q, a0, kb, nb⟩ := X
  intro ok ads ws H locs arr stk ha hh hP hD hS hs hl
  obtain ⟨hx, hb, hml, hown, hts, hE, hbs, hlk⟩ := id ok
  obtain ⟨v0, t0, rfl, e0, hl⟩ := hl
  obtain rfl : v0 = _ := e0
  obtain ⟨v1, t1, rfl, e1, hl⟩ := hl
  obtain rfl : v1 = _ := e1
  obtain ⟨v2, t2, rfl, e2, hl⟩ := hl
  obtain ⟨a, e3, rfl⟩ := e2
  obtain ⟨E, h1, h2⟩ := hh.at ho e3
  obtain rfl : E = _ := h2
  refine va_iast hx hb hE.1 hP hD hS o 0 h1 rfl hi hd (fun H1 locs1 hP hD hS => ?_)
  exact kk ok ads _ H1 locs1 arr _ ha (hh.set e3 (x := .inl (0, N, .inl (upd f i.toNatClampNeg x))) rfl) hP hD hS hs hl
theorem pg_zast {o N : Nat} {f : Nat → Int32} {i x : Int32} (hd : decode M.2.1 pc = .ok (.bastore, 1)) (ho : hp[o]? = some (.inl (1, N, .inl f))) (hi : vp_in i N) (kk : pm_G g M X (pc + 1) ls st (hp.set o (.inl (1, N, .inl (upd f i.toNatClampNeg (vp_nar .boolean x))))) k n) : pm_G g M X pc ls (.int x :: .int i :: .ref o :: st) hp k n := by
  obtain ⟨p, e, s, m, args, below, meth, c, Q, a0, kb, nb⟩ := X
  intro ok ads ws H locs arr stk ha hh hP hD hS hs hl
  obtain ⟨hx, hb, hml, hown, hts, hE, hbs, hlk⟩ := id ok
  obtain ⟨v0, t0, rfl, e0, hl⟩ := hl
  obtain rfl : v0 = _ := e0
  obtain ⟨v1, t1, rfl, e1, hl⟩ := hl
  obtain rfl : v1 = _ := e1
  obtain ⟨v2, t2, rfl, e2, hl⟩ := hl
  obtain ⟨a, e3, rfl⟩ := e2
  obtain ⟨E, h1, h2⟩ := hh.at ho e3
  obtain rfl : E = _ := h2
  refine va_zast hx hb hE.1 hP hD hS o 1 h1 rfl hi hd (fun H1 locs1 hP hD hS => ?_)
  exact kk ok ads _ H1 locs1 arr _ ha (hh.set e3 (x := .inl (1, N, .inl (upd f i.toNatClampNeg (vp_nar .boolean x)))) rfl) hP hD hS hs hl
theorem pg_lald {o N : Nat} {f : Nat → Int64} {i : Int32} (hd : decode M.2.1 pc = .ok (.laload, 1)) (ho : hp[o]? = some (.inl (2, N, .inr (.inl f)))) (hi : vp_in i N) (kk : pm_G g M X (pc + 1) ls (.long (f i.toNatClampNeg) :: st) hp k n) : pm_G g M X pc ls (.int i :: .ref o :: st) hp k n := by
  obtain ⟨p, e, s, m, args, below, meth, c, Q, a0, kb, nb⟩ := X
  intro ok ads ws H locs arr stk ha hh hP hD hS hs hl
  obtain ⟨hx, hb, hml, hown, hts, hE, hbs, hlk⟩ := id ok
  obtain ⟨v0, t0, rfl, e0, hl⟩ := hl
  obtain rfl : v0 = _ := e0
  obtain ⟨v1, t1, rfl, e1, hl⟩ := hl
  obtain ⟨a, e2, rfl⟩ := e1
  obtain ⟨E, h1, h2⟩ := hh.at ho e2
  obtain rfl : E = _ := h2
  refine va_lald hx hb hE.1 hP o 2 h1 rfl hi hd ?_
  exact kk ok ads ws H locs arr _ ha hh hP hD hS hs ⟨_, _, rfl, rfl, hl⟩
theorem pg_last {o N : Nat} {f : Nat → Int64} {i : Int32} {x : Int64} (hd : decode M.2.1 pc = .ok (.lastore, 1)) (ho : hp[o]? = some (.inl (2, N, .inr (.inl f)))) (hi : vp_in i N) (kk : pm_G g M X (pc + 1) ls st (hp.set o (.inl (2, N, .inr (.inl (vp_updL f i.toNatClampNeg x))))) k n) : pm_G g M X pc ls (.long x :: .int i :: .ref o :: st) hp k n := by
  obtain ⟨p, e, s, m, args, below, meth, c, Q, a0, kb, nb⟩ := X
  intro ok ads ws H locs arr stk ha hh hP hD hS hs hl
  obtain ⟨hx, hb, hml, hown, hts, hE, hbs, hlk⟩ := id ok
  obtain ⟨v0, t0, rfl, e0, hl⟩ := hl
  obtain rfl : v0 = _ := e0
  obtain ⟨v1, t1, rfl, e1, hl⟩ := hl
  obtain rfl : v1 = _ := e1
  obtain ⟨v2, t2, rfl, e2, hl⟩ := hl
  obtain ⟨a, e3, rfl⟩ := e2
  obtain ⟨E, h1, h2⟩ := hh.at ho e3
  obtain rfl : E = _ := h2
  refine va_last hx hb hE.1 hP hD hS o 2 h1 rfl hi hd (fun H1 locs1 hP hD hS => ?_)
  exact kk ok ads _ H1 locs1 arr _ ha (hh.set e3 (x := .inl (2, N, .inr (.inl (vp_updL f i.toNatClampNeg x)))) rfl) hP hD hS hs hl
theorem pg_aald {o N q : Nat} {f : Nat → Option Nat} {i : Int32} (hd : decode M.2.1 pc = .ok (.aaload, 1)) (ho : hp[o]? = some (.inl (3, N, .inr (.inr (.inr (.inr f)))))) (hi : vp_in i N) (hq : f i.toNatClampNeg = some q) (kk : pm_G g M X (pc + 1) ls (.ref q :: st) hp k n) : pm_G g M X pc ls (.int i :: .ref o :: st) hp k n := by
  obtain ⟨p, e, s, m, args, below, meth, c, Q, a0, kb, nb⟩ := X
  intro ok ads ws H locs arr stk ha hh hP hD hS hs hl
  obtain ⟨hx, hb, hml, hown, hts, hE, hbs, hlk⟩ := id ok
  obtain ⟨v0, t0, rfl, e0, hl⟩ := hl
  obtain rfl : v0 = _ := e0
  obtain ⟨v1, t1, rfl, e1, hl⟩ := hl
  obtain ⟨a, e2, rfl⟩ := e1
  obtain ⟨E, h1, h2⟩ := hh.at ho e2
  obtain ⟨f', rfl, h3⟩ := h2
  have hlt : i.toNatClampNeg < N := Nat.not_le.mp fun q => hi (Or.inr q)
  obtain ⟨b, h4, h5⟩ := (h3 _ hlt).1 q hq
  refine va_aldq (C := RX4) hx hb hE.1 hP o 3 h1 rfl hi hd ?_
  rw [h5]
  exact kk ok ads ws H locs arr _ ha hh hP hD hS hs ⟨_, _, rfl, ⟨b, h4, rfl⟩, hl⟩
theorem pg_aast {o N q : Nat} {f : Nat → Option Nat} {i : Int32} {fs : List Value} (hd : decode M.2.1 pc = .ok (.aastore, 1)) (ho : hp[o]? = some (.inl (3, N, .inr (.inr (.inr (.inr f)))))) (hq : hp[q]? = some (.inr (3, fs))) (hi : vp_in i N) (kk : pm_G g M X (pc + 1) ls st (hp.set o (.inl (3, N, .inr (.inr (.inr (.inr (va_up f i.toNatClampNeg (some q)))))))) k n) : pm_G g M X pc ls (.ref q :: .int i :: .ref o :: st) hp k n := by
  obtain ⟨p, e, s, m, args, below, meth, c, Q, a0, kb, nb⟩ := X
  intro ok ads ws H locs arr stk ha hh hP hD hS hs hl
  obtain ⟨hx, hb, hml, hown, hts, hE, hbs, hlk⟩ := id ok
  obtain ⟨v0, t0, rfl, e0, hl⟩ := hl
  obtain ⟨v1, t1, rfl, e1, hl⟩ := hl
  obtain rfl : v1 = _ := e1
  obtain ⟨v2, t2, rfl, e2, hl⟩ := hl
  obtain ⟨a, e3, rfl⟩ := e2
  obtain ⟨b, e4, rfl⟩ := e0
  obtain ⟨E, h1, h2⟩ := hh.at ho e3
  obtain ⟨f', rfl, h3⟩ := h2
  obtain ⟨E2, h4, h5⟩ := hh.at hq e4
  obtain ⟨vs, rfl, h6⟩ := h5
  refine va_astq (r := (RX4, TX4, 13)) hx hb hE.1 hP hD hS o 3 q 3 h1 rfl h4 rfl hi hd (fun H1 locs1 hP hD hS => ?_)
  refine kk ok ads _ H1 locs1 arr _ ha (hh.set e3 (x := .inl (3, N, .inr (.inr (.inr (.inr (va_up f i.toNatClampNeg (some q))))))) ⟨_, rfl, fun j hj => ?_⟩) hP hD hS hs hl
  by_cases hji : j = i.toNatClampNeg
  · subst hji
    simp only [va_up, if_pos]
    exact ⟨fun k9 hk => by cases hk; exact ⟨b, e4, rfl⟩, fun h => by cases h⟩
  · simp only [va_up, if_neg hji]
    exact h3 j hj
theorem pg_sld {i : Int32} (hd : decode M.2.1 pc = .ok (.iaload, 1)) (hi : vp_in i g.2.2.2.2.1.1) (kk : pm_G g M X (pc + 1) ls (.int (g.2.2.2.2.1.2 i.toNatClampNeg) :: st) hp k n) : pm_G g M X pc ls (.int i :: .retAddr 0 :: st) hp k n := by
  obtain ⟨p, e, s, m, args, below, meth, c, Q, a0, kb, nb⟩ := X
  intro ok ads ws H locs arr stk ha hh hP hD hS hs hl
  obtain ⟨hx, hb, hml, hown, hts, hE, hbs, hlk⟩ := id ok
  obtain ⟨v0, t0, rfl, e0, hl⟩ := hl
  obtain rfl : v0 = _ := e0
  obtain ⟨v1, t1, rfl, e1, hl⟩ := hl
  obtain rfl : v1 = _ := e1
  refine va_sld hx hb hE.2.1 hE.2.2.2.1 (fun h => absurd hE.2.2.1 (Nat.not_lt.mpr h)) hS hi hd ?_
  exact kk ok ads ws H locs arr _ ha hh hP hD hS hs ⟨_, _, rfl, rfl, hl⟩
theorem pg_slen (hd : decode M.2.1 pc = .ok (.arraylength, 1)) (kk : pm_G g M X (pc + 1) ls (.int (Int32.ofNat g.2.2.2.2.1.1) :: st) hp k n) : pm_G g M X pc ls (.retAddr 0 :: st) hp k n := by
  obtain ⟨p, e, s, m, args, below, meth, c, Q, a0, kb, nb⟩ := X
  intro ok ads ws H locs arr stk ha hh hP hD hS hs hl
  obtain ⟨hx, hb, hml, hown, hts, hE, hbs, hlk⟩ := id ok
  obtain ⟨v0, t0, rfl, e0, hl⟩ := hl
  obtain rfl : v0 = _ := e0
  refine va_slen hx hb hE.2.1 hE.2.2.2.1 (fun h => absurd hE.2.2.1 (Nat.not_lt.mpr h)) hS hd ?_
  exact kk ok ads ws H locs arr _ ha hh hP hD hS hs ⟨_, _, rfl, rfl, hl⟩
end PMB
