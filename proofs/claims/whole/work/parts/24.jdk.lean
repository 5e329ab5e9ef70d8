/-! String.charAt of the text of words, by the JDK's own code. -/
theorem dJ0_charAt_5068e_0 : decode cJ0_charAt_5068e 0 = .ok (.aload_n 0, 1) := by decide +kernel
theorem dJ0_charAt_5068e_1 : decode cJ0_charAt_5068e 1 = .ok (.invokevirtual 492, 3) := by decide +kernel
theorem dJ0_charAt_5068e_4 : decode cJ0_charAt_5068e 4 = .ok (.ifCond .eq 12, 3) := by decide +kernel
theorem dJ0_charAt_5068e_7 : decode cJ0_charAt_5068e 7 = .ok (.aload_n 0, 1) := by decide +kernel
theorem dJ0_charAt_5068e_8 : decode cJ0_charAt_5068e 8 = .ok (.getfield 9, 3) := by decide +kernel
theorem dJ0_charAt_5068e_11 : decode cJ0_charAt_5068e 11 = .ok (.iload_n 1, 1) := by decide +kernel
theorem dJ0_charAt_5068e_12 : decode cJ0_charAt_5068e 12 = .ok (.invokestatic 495, 3) := by decide +kernel
theorem dJ0_charAt_5068e_15 : decode cJ0_charAt_5068e 15 = .ok (.ireturn, 1) := by decide +kernel
theorem dJ0_charAt_5068e_16 : decode cJ0_charAt_5068e 16 = .ok (.aload_n 0, 1) := by decide +kernel
theorem dJ0_charAt_5068e_17 : decode cJ0_charAt_5068e 17 = .ok (.getfield 9, 3) := by decide +kernel
theorem dJ0_charAt_5068e_20 : decode cJ0_charAt_5068e 20 = .ok (.iload_n 1, 1) := by decide +kernel
theorem dJ0_charAt_5068e_21 : decode cJ0_charAt_5068e 21 = .ok (.invokestatic 498, 3) := by decide +kernel
theorem dJ0_charAt_5068e_24 : decode cJ0_charAt_5068e 24 = .ok (.ireturn, 1) := by decide +kernel
theorem dJ0_isLatin1_aae02_0 : decode cJ0_isLatin1_aae02 0 = .ok (.getstatic 38, 3) := by decide +kernel
theorem dJ0_isLatin1_aae02_3 : decode cJ0_isLatin1_aae02 3 = .ok (.ifCond .eq 14, 3) := by decide +kernel
theorem dJ0_isLatin1_aae02_6 : decode cJ0_isLatin1_aae02 6 = .ok (.aload_n 0, 1) := by decide +kernel
theorem dJ0_isLatin1_aae02_7 : decode cJ0_isLatin1_aae02 7 = .ok (.getfield 15, 3) := by decide +kernel
theorem dJ0_isLatin1_aae02_10 : decode cJ0_isLatin1_aae02 10 = .ok (.ifCond .ne 7, 3) := by decide +kernel
theorem dJ0_isLatin1_aae02_13 : decode cJ0_isLatin1_aae02 13 = .ok (.iconst 1, 1) := by decide +kernel
theorem dJ0_isLatin1_aae02_14 : decode cJ0_isLatin1_aae02 14 = .ok (.goto 4, 3) := by decide +kernel
theorem dJ0_isLatin1_aae02_17 : decode cJ0_isLatin1_aae02 17 = .ok (.iconst 0, 1) := by decide +kernel
theorem dJ0_isLatin1_aae02_18 : decode cJ0_isLatin1_aae02 18 = .ok (.ireturn, 1) := by decide +kernel
theorem dJ0_checkIndex_df160_0 : decode cJ0_checkIndex_df160 0 = .ok (.iload_n 0, 1) := by decide +kernel
theorem dJ0_checkIndex_df160_1 : decode cJ0_checkIndex_df160 1 = .ok (.iload_n 1, 1) := by decide +kernel
theorem dJ0_checkIndex_df160_2 : decode cJ0_checkIndex_df160 2 = .ok (.getstatic 1053, 3) := by decide +kernel
theorem dJ0_checkIndex_df160_5 : decode cJ0_checkIndex_df160 5 = .ok (.invokestatic 1059, 3) := by decide +kernel
theorem dJ0_checkIndex_df160_8 : decode cJ0_checkIndex_df160 8 = .ok (.pop, 1) := by decide +kernel
theorem dJ0_checkIndex_df160_9 : decode cJ0_checkIndex_df160 9 = .ok (.return_, 1) := by decide +kernel
theorem dJ1_charAt_3b067_0 : decode cJ1_charAt_3b067 0 = .ok (.iload_n 1, 1) := by decide +kernel
theorem dJ1_charAt_3b067_1 : decode cJ1_charAt_3b067 1 = .ok (.aload_n 0, 1) := by decide +kernel
theorem dJ1_charAt_3b067_2 : decode cJ1_charAt_3b067 2 = .ok (.arraylength, 1) := by decide +kernel
theorem dJ1_charAt_3b067_3 : decode cJ1_charAt_3b067 3 = .ok (.invokestatic 9, 3) := by decide +kernel
theorem dJ1_charAt_3b067_6 : decode cJ1_charAt_3b067 6 = .ok (.aload_n 0, 1) := by decide +kernel
theorem dJ1_charAt_3b067_7 : decode cJ1_charAt_3b067 7 = .ok (.iload_n 1, 1) := by decide +kernel
theorem dJ1_charAt_3b067_8 : decode cJ1_charAt_3b067 8 = .ok (.baload, 1) := by decide +kernel
theorem dJ1_charAt_3b067_9 : decode cJ1_charAt_3b067 9 = .ok (.sipush 255, 3) := by decide +kernel
theorem dJ1_charAt_3b067_12 : decode cJ1_charAt_3b067 12 = .ok (.iand, 1) := by decide +kernel
theorem dJ1_charAt_3b067_13 : decode cJ1_charAt_3b067 13 = .ok (.i2c, 1) := by decide +kernel
theorem dJ1_charAt_3b067_14 : decode cJ1_charAt_3b067 14 = .ok (.ireturn, 1) := by decide +kernel
theorem dJ3_checkIndex_8e157_0 : decode cJ3_checkIndex_8e157 0 = .ok (.iload_n 0, 1) := by decide +kernel
theorem dJ3_checkIndex_8e157_1 : decode cJ3_checkIndex_8e157 1 = .ok (.ifCond .lt 8, 3) := by decide +kernel
theorem dJ3_checkIndex_8e157_4 : decode cJ3_checkIndex_8e157 4 = .ok (.iload_n 0, 1) := by decide +kernel
theorem dJ3_checkIndex_8e157_5 : decode cJ3_checkIndex_8e157 5 = .ok (.iload_n 1, 1) := by decide +kernel
theorem dJ3_checkIndex_8e157_6 : decode cJ3_checkIndex_8e157 6 = .ok (.if_icmp .lt 10, 3) := by decide +kernel
theorem dJ3_checkIndex_8e157_9 : decode cJ3_checkIndex_8e157 9 = .ok (.aload_n 2, 1) := by decide +kernel
theorem dJ3_checkIndex_8e157_10 : decode cJ3_checkIndex_8e157 10 = .ok (.iload_n 0, 1) := by decide +kernel
theorem dJ3_checkIndex_8e157_11 : decode cJ3_checkIndex_8e157 11 = .ok (.iload_n 1, 1) := by decide +kernel
theorem dJ3_checkIndex_8e157_12 : decode cJ3_checkIndex_8e157 12 = .ok (.invokestatic 95, 3) := by decide +kernel
theorem dJ3_checkIndex_8e157_15 : decode cJ3_checkIndex_8e157 15 = .ok (.athrow, 1) := by decide +kernel
theorem dJ3_checkIndex_8e157_16 : decode cJ3_checkIndex_8e157 16 = .ok (.iload_n 0, 1) := by decide +kernel
theorem dJ3_checkIndex_8e157_17 : decode cJ3_checkIndex_8e157 17 = .ok (.ireturn, 1) := by decide +kernel
theorem mj1343 : Cond.methodLink RJ0 492 yJ0_isLatin1_aae02 ∈ pm_tbl := List.mem_filter.mpr ⟨List.mem_of_getElem? (i := 563) (by decide +kernel), by decide +kernel⟩
theorem mj1344 : Cond.methodLink RJ0 495 yJ1_charAt_3b067 ∈ pm_tbl := List.mem_filter.mpr ⟨List.mem_of_getElem? (i := 569) (by decide +kernel), by decide +kernel⟩
theorem mj1345 : Cond.methodLink RJ1 9 yJ0_checkIndex_df160 ∈ pm_tbl := List.mem_filter.mpr ⟨List.mem_of_getElem? (i := 572) (by decide +kernel), by decide +kernel⟩
theorem mj1346 : Cond.methodLink RJ0 1059 yJ3_checkIndex_8e157 ∈ pm_tbl := List.mem_filter.mpr ⟨List.mem_of_getElem? (i := 577) (by decide +kernel), by decide +kernel⟩
theorem mj1347 : Cond.instanceMethod yJ0_charAt_5068e ∈ pm_tbl := List.mem_filter.mpr ⟨List.mem_of_getElem? (i := 560) (by decide +kernel), by decide +kernel⟩
theorem mj1348 : Cond.selects RJ0 yJ0_charAt_5068e yJ0_charAt_5068e ∈ pm_tbl := List.mem_filter.mpr ⟨List.mem_of_getElem? (i := 561) (by decide +kernel), by decide +kernel⟩
theorem mj1349 : Cond.instanceMethod yJ0_isLatin1_aae02 ∈ pm_tbl := List.mem_filter.mpr ⟨List.mem_of_getElem? (i := 564) (by decide +kernel), by decide +kernel⟩
theorem mj1350 : Cond.selects RJ0 yJ0_isLatin1_aae02 yJ0_isLatin1_aae02 ∈ pm_tbl := List.mem_filter.mpr ⟨List.mem_of_getElem? (i := 565) (by decide +kernel), by decide +kernel⟩
theorem mj1351 : Cond.static yJ0_checkIndex_df160 ∈ pm_tbl := List.mem_filter.mpr ⟨List.mem_of_getElem? (i := 573) (by decide +kernel), by decide +kernel⟩
theorem mj1352 : Cond.static yJ1_charAt_3b067 ∈ pm_tbl := List.mem_filter.mpr ⟨List.mem_of_getElem? (i := 570) (by decide +kernel), by decide +kernel⟩
theorem mj1353 : Cond.static yJ3_checkIndex_8e157 ∈ pm_tbl := List.mem_filter.mpr ⟨List.mem_of_getElem? (i := 578) (by decide +kernel), by decide +kernel⟩
theorem mj1354 : Cond.code yJ0_charAt_5068e cJ0_charAt_5068e 2 (some .char) ∈ pm_tbl := List.mem_filter.mpr ⟨List.mem_of_getElem? (i := 562) (by decide +kernel), by decide +kernel⟩
theorem mj1355 : Cond.code yJ0_isLatin1_aae02 cJ0_isLatin1_aae02 1 (some .boolean) ∈ pm_tbl := List.mem_filter.mpr ⟨List.mem_of_getElem? (i := 566) (by decide +kernel), by decide +kernel⟩
theorem mj1356 : Cond.code yJ0_checkIndex_df160 cJ0_checkIndex_df160 2 none ∈ pm_tbl := List.mem_filter.mpr ⟨List.mem_of_getElem? (i := 574) (by decide +kernel), by decide +kernel⟩
theorem mj1357 : Cond.code yJ1_charAt_3b067 cJ1_charAt_3b067 2 (some .char) ∈ pm_tbl := List.mem_filter.mpr ⟨List.mem_of_getElem? (i := 571) (by decide +kernel), by decide +kernel⟩
theorem mj1358 : Cond.code yJ3_checkIndex_8e157 cJ3_checkIndex_8e157 3 (some .int) ∈ pm_tbl := List.mem_filter.mpr ⟨List.mem_of_getElem? (i := 579) (by decide +kernel), by decide +kernel⟩
theorem mj1359 : Cond.initialized RJ0 ∈ pm_tbl := List.mem_filter.mpr ⟨List.mem_of_getElem? (i := 96) (by decide +kernel), by decide +kernel⟩
theorem mj1360 : Cond.initialized RJ1 ∈ pm_tbl := List.mem_filter.mpr ⟨List.mem_of_getElem? (i := 97) (by decide +kernel), by decide +kernel⟩
theorem mj1361 : Cond.initialized RJ3 ∈ pm_tbl := List.mem_filter.mpr ⟨List.mem_of_getElem? (i := 98) (by decide +kernel), by decide +kernel⟩
theorem mj1362 : Cond.fieldLink RJ0 38 RJ0 "COMPACT_STRINGS" "Z" ∈ pm_tbl := List.mem_filter.mpr ⟨List.mem_of_getElem? (i := 567) (by decide +kernel), by decide +kernel⟩
theorem mj1363 : Cond.fieldLink RJ0 1053 RJ3 "SIOOBE_FORMATTER" "Ljava/util/function/BiFunction;" ∈ pm_tbl := List.mem_filter.mpr ⟨List.mem_of_getElem? (i := 575) (by decide +kernel), by decide +kernel⟩
theorem mj1364 : Cond.fieldLink RJ0 15 RJ0 "coder" "B" ∈ pm_tbl := List.mem_filter.mpr ⟨List.mem_of_getElem? (i := 1533) (by decide +kernel), by decide +kernel⟩
theorem mj1365 : Cond.fieldLink RJ0 9 RJ0 "value" "[B" ∈ pm_tbl := List.mem_filter.mpr ⟨List.mem_of_getElem? (i := 1534) (by decide +kernel), by decide +kernel⟩
abbrev mJ3_ck : pm_M := (yJ3_checkIndex_8e157, cJ3_checkIndex_8e157, 3, 0, 0, some .int, [])
abbrev mJ0_ck : pm_M := (yJ0_checkIndex_df160, cJ0_checkIndex_df160, 2, 1, 22, none, [])
abbrev mJ1_ch : pm_M := (yJ1_charAt_3b067, cJ1_charAt_3b067, 2, 2, 43, some .char, [])
abbrev mJ0_la : pm_M := (yJ0_isLatin1_aae02, cJ0_isLatin1_aae02, 1, 0, 0, some .boolean, [])
abbrev mJ0_ch : pm_M := (yJ0_charAt_5068e, cJ0_charAt_5068e, 2, 3, 64, some .char, [])
theorem cs_J3_ck : pm_cs mJ3_ck 3 := ⟨⟨mj1358, mj1361, by decide +kernel⟩, mj1353, rfl⟩
theorem cs_J0_ck : pm_cs mJ0_ck 2 := ⟨⟨mj1356, mj1359, by decide +kernel⟩, mj1351, rfl⟩
theorem cs_J1_ch : pm_cs mJ1_ch 2 := ⟨⟨mj1357, mj1360, by decide +kernel⟩, mj1352, rfl⟩
section PMJ
variable {g : pm_Gl} {M C : pm_M} {X : pm_X} {pc k n : Nat} {ls : List (Option Value)} {st : List Value} {hp : List va_E}
theorem pg_ldcW (hd : decode M.2.1 pc = .ok (.ldc 68, 2)) (hM : M.1.cls = RX7) (kk : pm_G g M X (pc + 2) ls (.retAddr 2 :: st) hp k n) : pm_G g M X pc ls st hp k n := by
  obtain ⟨p, e, s, m, args, below, meth, c, Q, a0, kb, nb⟩ := X
  intro ok ads ws H locs arr stk ha hh hP hD hS hs hl
  obtain ⟨hx, hb, hml, hown, hts, hE, hbs, hlk⟩ := id ok
  exact va_ldcS (own := RX7) hx hb (by rw [← hM]; exact hown) hE.2.2.2.2.2.2.2.2.2.2.2.2.2.1 hd (kk ok ads ws H locs arr _ ha hh hP hD hS hs ⟨_, _, rfl, rfl, hl⟩)
theorem pg_getF (hd : decode M.2.1 pc = .ok (.getstatic 1053, 3)) (hw : Cond.fieldLink M.1.cls 1053 RJ3 "SIOOBE_FORMATTER" "Ljava/util/function/BiFunction;" ∈ pm_tbl) (k1 : pm_G g M X (pc + 3) ls (.null :: st) hp k n) (k2 : pm_G g M X (pc + 3) ls (.float 0 :: st) hp k n) : pm_G g M X pc ls st hp k n := by
  obtain ⟨p, e, s, m, args, below, meth, c, Q, a0, kb, nb⟩ := X
  intro ok ads ws H locs arr stk ha hh hP hD hS hs hl
  obtain ⟨hx, hb, hml, hown, hts, hE, hbs, hlk⟩ := id ok
  rcases hE.2.2.2.2.2.2.2.2.2.2.2.2.2.2.2.2 with h | ⟨t, h⟩
  · exact va_gets hx hb h hS hown (hts _ hw) (fun _ q => q) hd (k1 ok ads ws H locs arr _ ha hh hP hD hS hs ⟨_, _, rfl, rfl, hl⟩)
  · exact va_gets hx hb h hS hown (hts _ hw) (fun _ q => q) hd (k2 ok ads ws H locs arr _ ha hh hP hD hS hs ⟨_, _, rfl, ⟨t, rfl⟩, hl⟩)
theorem pg_getC (hd : decode M.2.1 pc = .ok (.getstatic 38, 3)) (hw : Cond.fieldLink M.1.cls 38 RJ0 "COMPACT_STRINGS" "Z" ∈ pm_tbl) (kk : pm_G g M X (pc + 3) ls (.int 1 :: st) hp k n) : pm_G g M X pc ls st hp k n := by
  obtain ⟨p, e, s, m, args, below, meth, c, Q, a0, kb, nb⟩ := X
  intro ok ads ws H locs arr stk ha hh hP hD hS hs hl
  obtain ⟨hx, hb, hml, hown, hts, hE, hbs, hlk⟩ := id ok
  exact va_gets hx hb hE.2.2.2.2.2.2.2.2.2.2.2.2.2.2.2.1 hS hown (hts _ hw) (fun _ q => q) hd (kk ok ads ws H locs arr _ ha hh hP hD hS hs ⟨_, _, rfl, rfl, hl⟩)
theorem pg_cod (hd : decode M.2.1 pc = .ok (.getfield 15, 3)) (hw : Cond.fieldLink M.1.cls 15 RJ0 "coder" "B" ∈ pm_tbl) (kk : pm_G g M X (pc + 3) ls (.int 0 :: st) hp k n) : pm_G g M X pc ls (.retAddr 2 :: st) hp k n := by
  obtain ⟨p, e, s, m, args, below, meth, c, Q, a0, kb, nb⟩ := X
  intro ok ads ws H locs arr stk ha hh hP hD hS hs hl
  obtain ⟨hx, hb, hml, hown, hts, hE, hbs, hlk⟩ := id ok
  obtain ⟨v0, t0, rfl, e0, hl⟩ := hl
  obtain rfl : v0 = _ := e0
  have h15 := (hE.2.2.2.2.2.2.2.2.2.2.2.2.2.2.1.1 0 (by decide)).2.1
  exact vk_getf hx hb h15 hS hown (hts _ hw) (fun _ q => q) hd (kk ok ads ws H locs arr _ ha hh hP hD hS hs ⟨_, _, rfl, rfl, hl⟩)
theorem pg_val (hd : decode M.2.1 pc = .ok (.getfield 9, 3)) (hw : Cond.fieldLink M.1.cls 9 RJ0 "value" "[B" ∈ pm_tbl) (kk : pm_G g M X (pc + 3) ls (.retAddr 3 :: st) hp k n) : pm_G g M X pc ls (.retAddr 2 :: st) hp k n := by
  obtain ⟨p, e, s, m, args, below, meth, c, Q, a0, kb, nb⟩ := X
  intro ok ads ws H locs arr stk ha hh hP hD hS hs hl
  obtain ⟨hx, hb, hml, hown, hts, hE, hbs, hlk⟩ := id ok
  obtain ⟨v0, t0, rfl, e0, hl⟩ := hl
  obtain rfl : v0 = _ := e0
  have h15 := (hE.2.2.2.2.2.2.2.2.2.2.2.2.2.2.1.1 0 (by decide)).2.2.1
  exact vk_getf hx hb h15 hS hown (hts _ hw) (fun _ q => q) hd (kk ok ads ws H locs arr _ ha hh hP hD hS hs ⟨_, _, rfl, rfl, hl⟩)
theorem pg_bln (hd : decode M.2.1 pc = .ok (.arraylength, 1)) (kk : pm_G g M X (pc + 1) ls (.int 35 :: st) hp k n) : pm_G g M X pc ls (.retAddr 3 :: st) hp k n := by
  obtain ⟨p, e, s, m, args, below, meth, c, Q, a0, kb, nb⟩ := X
  intro ok ads ws H locs arr stk ha hh hP hD hS hs hl
  obtain ⟨hx, hb, hml, hown, hts, hE, hbs, hlk⟩ := id ok
  obtain ⟨v0, t0, rfl, e0, hl⟩ := hl
  obtain rfl : v0 = _ := e0
  have h15 := (hE.2.2.2.2.2.2.2.2.2.2.2.2.2.2.1.1 0 (by decide)).2.2.2
  exact va_tlen hx hb h15 hS rfl hd (kk ok ads ws H locs arr _ ha hh hP hD hS hs ⟨_, _, rfl, rfl, hl⟩)
theorem pg_byt {i : Int32} (hd : decode M.2.1 pc = .ok (.baload, 1)) (hi : vp_in i 35) (kk : pm_G g M X (pc + 1) ls (.int (pm_byt.getD i.toNatClampNeg 0) :: st) hp k n) : pm_G g M X pc ls (.int i :: .retAddr 3 :: st) hp k n := by
  obtain ⟨p, e, s, m, args, below, meth, c, Q, a0, kb, nb⟩ := X
  intro ok ads ws H locs arr stk ha hh hP hD hS hs hl
  obtain ⟨hx, hb, hml, hown, hts, hE, hbs, hlk⟩ := id ok
  obtain ⟨v0, t0, rfl, e0, hl⟩ := hl
  obtain rfl : v0 = _ := e0
  obtain ⟨v1, t1, rfl, e1, hl⟩ := hl
  obtain rfl : v1 = _ := e1
  have h15 := (hE.2.2.2.2.2.2.2.2.2.2.2.2.2.2.1.1 0 (by decide)).2.2.2
  exact va_tb hx hb h15 hS hi rfl hd (kk ok ads ws H locs arr _ ha hh hP hD hS hs ⟨_, _, rfl, rfl, hl⟩)
theorem pg_i2c {x v : Int32} (hd : decode M.2.1 pc = .ok (.i2c, 1)) (hv : (x.toUInt32 % 65536).toInt32 = v) (kk : pm_G g M X (pc + 1) ls (.int v :: st) hp k n) : pm_G g M X pc ls (.int x :: st) hp k n := by
  obtain ⟨p, e, s, m, args, below, meth, c, Q, a0, kb, nb⟩ := X
  intro ok ads ws H locs arr stk ha hh hP hD hS hs hl
  obtain ⟨hx, hb, hml, hown, hts, hE, hbs, hlk⟩ := id ok
  obtain ⟨v0, t0, rfl, e0, hl⟩ := hl
  obtain rfl : v0 = _ := e0
  exact lv_i2c hx hb hd hv (kk ok ads ws H locs arr _ ha hh hP hD hS hs ⟨_, _, rfl, rfl, hl⟩)
/-- a method of the text of words -/
theorem pg_callVS {np idx mc ms : Nat} {as st0 : List Value} {Qn : Option Value → List va_E → Prop} {Qx : String → List va_E → Prop}
    (hd : decode M.2.1 pc = .ok (.invokevirtual idx, 3)) (hlk : Cond.methodLink M.1.cls idx C.1 ∈ pm_tbl) (hmy : pm_my C np) (hi1 : Cond.instanceMethod C.1 ∈ pm_tbl) (hi2 : Cond.selects C.1.cls C.1 C.1 ∈ pm_tbl) (hi3 : C.2.2.2.2.2.2 = []) (hC : C.1.cls = "java/lang/String") (hst : st0 = as.reverse ++ .retAddr 2 :: st) (hlen : as.length = np) (hw : (st.map fun v => v.category).sum ≤ 8) (hls : ls.length = M.2.2.1)
    (hroom : C.2.2.2.1 + 1 ≤ M.2.2.2.1 ∧ 8 + (C.2.2.1 + 11) + C.2.2.2.2.1 ≤ M.2.2.2.2.1) (hk : k + mc ≤ pm_kb X ∧ n + ms ≤ pm_nb X) (hc : pm_Ct g C (.retAddr 2 :: as) hp mc ms Qn Qx)
    (kn : ∀ r hp', Qn r hp' → pm_G g M X (pc + 3) ls (r.toList ++ st) hp' (k + mc) (n + ms)) (kx : ∀ E hp', Qx E hp' → pm_GX g M X E pc ls st hp' (k + mc) (n + ms)) : pm_G g M X pc ls st0 hp k n := by
  obtain ⟨p, e, s, m, args, below, meth, c, Q, a0, kb, nb⟩ := X
  intro ok ads ws H locs arr stk ha hh hP hD hS hs hl
  obtain ⟨hx, hb, hml, hown, hts, hE, hbs, hlk0⟩ := id ok
  subst hst
  obtain ⟨us, r1, rfl, h1, h2⟩ := pm_l.app hl
  obtain ⟨v, rest, rfl, h3, h4⟩ := h2
  obtain rfl : v = _ := h3
  obtain ⟨m1, m2, m3⟩ := hmy
  have h1r : pm_l g ads as us.reverse := by have := h1.rev; rwa [List.reverse_reverse] at this
  have hW : pm_w C :: pm_tbl = Cond.code C.1 C.2.1 C.2.2.1 C.2.2.2.2.2.1 :: pm_tbl := by rw [pm_w0 hi3]
  have hrec : ∃ cell : Cell, H[g.2.2.2.1 2]? = some cell ∧ cell.vm.isStatics = false ∧ s.vm.findClass C.1.cls = some cell.cls := by rw [hC]; exact vk_recv (i := 0) hE.2.2.2.2.2.2.2.2.2.2.2.2.2.2.1 (by decide) hS
  refine pm_run (ads := ads) (a := (Value.ref (g.2.2.2.1 2) :: us.reverse).toArray) (rest := rest) ok (vx_runV (n := np) (C := C.1.cls) (b := g.2.2.2.1 2) (As := us.reverse) ⟨hx, hb, hml, hown, hts⟩ (hc ads) ⟨callB_of np hts (pm_goodT m1) hW rfl rfl (hts _ m2) (hts _ hlk) m3 hroom, hts _ hi1, hts _ hi2⟩ ⟨pm_blind _ _, hrec, fun U hU hWm => ?_⟩ rfl ?_ (hs.1.trans hls) (by simp) (lv_room (by rw [h4.cat]; exact hw)) hd hk) ha hS hs h4 kn kx
  · exact ⟨_, rfl, ⟨_, _, rfl, rfl, h1r⟩, hE.enter hWm hS hU, by rw [hU]; exact Nat.le_trans hbs hS.1, ws, hh, by rw [hU]; exact hP, hD⟩
  · rw [h1r.len, hlen]
theorem ct_J3_ck (hfl : g.1.stackTraces = false) {i N : Int32} {x : Value} (hx : x = .null ∨ x = .float 0) (h1 : ¬ i < 0) (h2 : i < N) : pm_Ct g mJ3_ck [.int i, .int N, x] hp 0 0 (fun r hp' => r = some (.int i) ∧ hp' = hp) (fun _ _ => False) := by
  rcases hx with rfl | rfl
  all_goals
    refine pm_of (by decide +kernel) rfl hfl (Nat.le_of_ble_eq_true rfl) (fun X hE => ?_)
    first | show pm_G g mJ3_ck X 0 [some (.int i), some (.int N), some .null] [] hp 0 0 | show pm_G g mJ3_ck X 0 [some (.int i), some (.int N), some (.float 0)] [] hp 0 0
    refine pg_iload_n dJ3_checkIndex_8e157_0 rfl ?_
    refine pg_if_lt 9 dJ3_checkIndex_8e157_1 (by decide) (fun h => absurd h h1) (fun _ => ?_)
    refine pg_iload_n dJ3_checkIndex_8e157_4 rfl ?_
    refine pg_iload_n dJ3_checkIndex_8e157_5 rfl ?_
    refine pg_icmp_lt 16 dJ3_checkIndex_8e157_6 (by decide) (fun _ => ?_) (fun h => absurd h2 h)
    refine pg_iload_n dJ3_checkIndex_8e157_16 rfl ?_
    exact hE.2.1 _ _ _ _ _ _ .int dJ3_checkIndex_8e157_17 rfl rfl (Nat.zero_le _) (Nat.zero_le _) ⟨rfl, rfl⟩
theorem ct_J0_ck (hfl : g.1.stackTraces = false) {i N : Int32} (h1 : ¬ i < 0) (h2 : i < N) : pm_Ct g mJ0_ck [.int i, .int N] hp 0 0 (fun r hp' => r = none ∧ hp' = hp) (fun _ _ => False) := by
  refine pm_of (by decide +kernel) rfl hfl (Nat.le_of_ble_eq_true rfl) (fun X hE => ?_)
  show pm_G g mJ0_ck X 0 [some (.int i), some (.int N)] [] hp 0 0
  refine pg_iload_n dJ0_checkIndex_df160_0 rfl ?_
  refine pg_iload_n dJ0_checkIndex_df160_1 rfl ?_
  refine pg_getF dJ0_checkIndex_df160_2 mj1363 ?_ ?_
  · refine pg_callS (C := mJ3_ck) (as := [.int i, .int N, .null]) dJ0_checkIndex_df160_5 mj1346 cs_J3_ck rfl rfl (Nat.le_of_ble_eq_true rfl) rfl ⟨Nat.le_of_ble_eq_true rfl, Nat.le_of_ble_eq_true rfl⟩ ⟨Nat.zero_le _, Nat.zero_le _⟩ (ct_J3_ck hfl (Or.inl rfl) h1 h2) (fun r hp' hq => ?_) (fun _ _ h => h.elim)
    obtain ⟨rfl, rfl⟩ := hq
    refine pg_pop (x := .int i) dJ0_checkIndex_df160_8 rfl ?_
    exact hE.2.2.1 _ _ _ _ _ dJ0_checkIndex_df160_9 rfl (Nat.zero_le _) (Nat.zero_le _) ⟨rfl, rfl⟩
  · refine pg_callS (C := mJ3_ck) (as := [.int i, .int N, .float 0]) dJ0_checkIndex_df160_5 mj1346 cs_J3_ck rfl rfl (Nat.le_of_ble_eq_true rfl) rfl ⟨Nat.le_of_ble_eq_true rfl, Nat.le_of_ble_eq_true rfl⟩ ⟨Nat.zero_le _, Nat.zero_le _⟩ (ct_J3_ck hfl (Or.inr rfl) h1 h2) (fun r hp' hq => ?_) (fun _ _ h => h.elim)
    obtain ⟨rfl, rfl⟩ := hq
    refine pg_pop (x := .int i) dJ0_checkIndex_df160_8 rfl ?_
    exact hE.2.2.1 _ _ _ _ _ dJ0_checkIndex_df160_9 rfl (Nat.zero_le _) (Nat.zero_le _) ⟨rfl, rfl⟩
theorem pm_byt_ok : ∀ j, j < 35 → (((pm_byt.getD j 0) &&& 255).toUInt32 % 65536).toInt32 = pm_byt.getD j 0 ∧ narrow .char (.int (pm_byt.getD j 0)) = .int (pm_byt.getD j 0) := by decide +kernel
def pm_char (j : Nat) : Int32 := pm_byt.getD j 0
theorem pm_lt35 {i : Int32} (h : vp_in i 35) : ¬ i < 0 ∧ i < 35 ∧ i.toNatClampNeg < 35 := by
  obtain ⟨j, hj, rfl⟩ := vp_in_of h (by decide)
  refine ⟨nI_pos (by omega), ?_, by rw [nI_clamp (by omega)]; exact hj⟩
  have := nI_lt hj (show 35 < 2 ^ 31 by decide)
  exact this
theorem ct_J1_ch (hfl : g.1.stackTraces = false) {i : Int32} (hi : vp_in i 35) : pm_Ct g mJ1_ch [.retAddr 3, .int i] hp 0 0 (fun r hp' => r = some (.int (pm_char i.toNatClampNeg)) ∧ hp' = hp) (fun _ _ => False) := by
  obtain ⟨h1, h2, h3⟩ := pm_lt35 hi
  refine pm_of (by decide +kernel) rfl hfl (Nat.le_of_ble_eq_true rfl) (fun X hE => ?_)
  show pm_G g mJ1_ch X 0 [some (.retAddr 3), some (.int i)] [] hp 0 0
  refine pg_iload_n dJ1_charAt_3b067_0 rfl ?_
  refine pg_aloadX_n dJ1_charAt_3b067_1 rfl ?_
  refine pg_bln dJ1_charAt_3b067_2 ?_
  refine pg_callS (C := mJ0_ck) (as := [.int i, .int 35]) dJ1_charAt_3b067_3 mj1345 cs_J0_ck rfl rfl (Nat.le_of_ble_eq_true rfl) rfl ⟨Nat.le_of_ble_eq_true rfl, Nat.le_of_ble_eq_true rfl⟩ ⟨Nat.zero_le _, Nat.zero_le _⟩ (ct_J0_ck hfl h1 h2) (fun r hp' hq => ?_) (fun _ _ h => h.elim)
  obtain ⟨rfl, rfl⟩ := hq
  refine pg_aloadX_n dJ1_charAt_3b067_6 rfl ?_
  refine pg_iload_n dJ1_charAt_3b067_7 rfl ?_
  refine pg_byt dJ1_charAt_3b067_8 hi ?_
  refine pg_sipush 255 dJ1_charAt_3b067_9 rfl ?_
  refine pg_iand dJ1_charAt_3b067_12 ?_
  refine pg_i2c dJ1_charAt_3b067_13 (pm_byt_ok _ h3).1 ?_
  exact hE.2.1 _ _ _ _ _ _ .char dJ1_charAt_3b067_14 rfl (pm_byt_ok _ h3).2 (Nat.zero_le _) (Nat.zero_le _) ⟨rfl, rfl⟩
theorem ct_J0_la (hfl : g.1.stackTraces = false) : pm_Ct g mJ0_la [.retAddr 2] hp 0 0 (fun r hp' => r = some (.int 1) ∧ hp' = hp) (fun _ _ => False) := by
  refine pm_of (by decide +kernel) rfl hfl (Nat.le_of_ble_eq_true rfl) (fun X hE => ?_)
  show pm_G g mJ0_la X 0 [some (.retAddr 2)] [] hp 0 0
  refine pg_getC dJ0_isLatin1_aae02_0 mj1362 ?_
  refine pg_if_eq 17 dJ0_isLatin1_aae02_3 (by decide) (fun h => absurd h (by decide)) (fun _ => ?_)
  refine pg_aloadX_n dJ0_isLatin1_aae02_6 rfl ?_
  refine pg_cod dJ0_isLatin1_aae02_7 mj1364 ?_
  refine pg_if_ne 17 dJ0_isLatin1_aae02_10 (by decide) (fun h => absurd rfl h) (fun _ => ?_)
  refine pg_iconst 1 dJ0_isLatin1_aae02_13 rfl ?_
  refine pg_goto 18 dJ0_isLatin1_aae02_14 (by decide) ?_
  exact hE.2.1 _ _ _ _ _ _ .boolean dJ0_isLatin1_aae02_18 rfl rfl (Nat.zero_le _) (Nat.zero_le _) ⟨rfl, rfl⟩
theorem ct_J0_ch (hfl : g.1.stackTraces = false) {i : Int32} (hi : vp_in i 35) : pm_Ct g mJ0_ch [.retAddr 2, .int i] hp 0 0 (fun r hp' => r = some (.int (pm_char i.toNatClampNeg)) ∧ hp' = hp) (fun _ _ => False) := by
  obtain ⟨h1, h2, h3⟩ := pm_lt35 hi
  refine pm_of (by decide +kernel) rfl hfl (Nat.le_of_ble_eq_true rfl) (fun X hE => ?_)
  show pm_G g mJ0_ch X 0 [some (.retAddr 2), some (.int i)] [] hp 0 0
  refine pg_aloadX_n dJ0_charAt_5068e_0 rfl ?_
  refine pg_callVS (C := mJ0_la) (np := 0) (as := []) dJ0_charAt_5068e_1 mj1343 ⟨mj1355, mj1359, by decide +kernel⟩ mj1349 mj1350 rfl rfl rfl rfl (Nat.le_of_ble_eq_true rfl) rfl ⟨Nat.le_of_ble_eq_true rfl, Nat.le_of_ble_eq_true rfl⟩ ⟨Nat.zero_le _, Nat.zero_le _⟩ (ct_J0_la hfl) (fun r hp' hq => ?_) (fun _ _ h => h.elim)
  obtain ⟨rfl, rfl⟩ := hq
  refine pg_if_eq (x := 1) 16 dJ0_charAt_5068e_4 (by decide) (fun h => absurd h (by decide)) (fun _ => ?_)
  refine pg_aloadX_n dJ0_charAt_5068e_7 rfl ?_
  refine pg_val dJ0_charAt_5068e_8 mj1365 ?_
  refine pg_iload_n dJ0_charAt_5068e_11 rfl ?_
  refine pg_callS (C := mJ1_ch) (as := [.retAddr 3, .int i]) dJ0_charAt_5068e_12 mj1344 cs_J1_ch rfl rfl (Nat.le_of_ble_eq_true rfl) rfl ⟨Nat.le_of_ble_eq_true rfl, Nat.le_of_ble_eq_true rfl⟩ ⟨Nat.zero_le _, Nat.zero_le _⟩ (ct_J1_ch hfl hi) (fun r hp' hq => ?_) (fun _ _ h => h.elim)
  obtain ⟨rfl, rfl⟩ := hq
  exact hE.2.1 _ _ _ _ _ (pm_char i.toNatClampNeg) .char dJ0_charAt_5068e_15 rfl (pm_byt_ok _ h3).2 (Nat.zero_le _) (Nat.zero_le _) ⟨rfl, rfl⟩
theorem pg_charAt {i : Int32} (hfl : g.1.stackTraces = false) (hd : decode M.2.1 pc = .ok (.invokevirtual 70, 3)) (hM : M.1.cls = RX7) (hi : vp_in i 35) (hls : ls.length = M.2.2.1) (hw : (st.map fun v => v.category).sum ≤ 8) (hr1 : 4 ≤ M.2.2.2.1) (hr2 : 85 ≤ M.2.2.2.2.1) (kk : pm_G g M X (pc + 3) ls (.int (pm_char i.toNatClampNeg) :: st) hp 0 0) : pm_G g M X pc ls (.int i :: .retAddr 2 :: st) hp 0 0 := by
  refine pg_callVS (C := mJ0_ch) (np := 1) (as := [.int i]) hd (by rw [hM]; exact mw275) ⟨mj1354, mj1359, by decide +kernel⟩ mj1347 mj1348 rfl rfl rfl rfl hw hls ⟨hr1, hr2⟩ ⟨Nat.zero_le _, Nat.zero_le _⟩ (ct_J0_ch hfl hi) (fun r hp' hq => ?_) (fun _ _ h => h.elim)
  obtain ⟨rfl, rfl⟩ := hq
  exact kk
end PMJ
