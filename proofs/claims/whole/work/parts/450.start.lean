
section
theorem ne_L_8 : pm_ne RL 8 10 7 [.null, .null, .null, .null, .null, .null, .null] := ⟨RX11, TX11, tyX11, rfl, inX11_t, tyX11_ok, mw1088, mw1089, mw230, (by decide +kernel), rfl⟩
theorem ne_L_81 : pm_ne RL 81 11 15 [.null, .null, .null, .int 0, .null, .int 0, .int 0, .int 0, .null, .null, .null, .int 0, .int 0, .null, .long 0] := ⟨RX12, TX12, tyX12, rfl, inX12_t, tyX12_ok, mw1094, mw1095, mw782, (by decide +kernel), rfl⟩
/-- what the pure part owes -/
def pureOK : Prop := ∃ m1 m3 : me, f_X4_beginAnew 4 mA = some m1 ∧ (∀ o, 28 ≤ o → m1.1 o = mA.1 o ∧ m1.2.1 o = mA.2.1 o ∧ m1.2.2 o = mA.2.2 o) ∧ f_X12_begins 4 (mM m1) = some m3 ∧ m3.2.1 137 = (fun _ => 0) ∧ ∀ (L : Nat) (xs : Nat → Int32), L ≤ 2048 → ∃ s1, lo (b_L_law_23 L xs) 2048 (0, m3) = some (.inl s1)
theorem shs_pS : pS 0 138 shs := fun _ _ _ => rfl
theorem fin_L {m3 : me} (h : m3.2.1 137 = fun _ => 0) : en (sf0 :: (sA ++ sB.take 109)) m3 ++ [.inl (2, 1, .inr (.inl (fun _ => 0)))] = en shs m3 := by
  have e : shs = (sf0 :: (sA ++ sB.take 109)) ++ [sf137] := rfl
  rw [e, en_app, show ((sf0 :: (sA ++ sB.take 109) : List sF)).length = 137 from rfl, mz_eq]
  refine congrArg (en (sf0 :: (sA ++ sB.take 109)) m3 ++ ·) ?_
  show _ = [sf137 (m3.1 137) (m3.2.1 137) (m3.2.2 137)]
  rw [h]
  rfl
set_option maxRecDepth 40000 in
set_option maxHeartbeats 4000000 in
theorem law_walk {g : pm_Gl} {X : pm_X} (hfl : g.1.stackTraces = false) (hP : pureOK) (hL : g.2.2.2.2.1.1 ≤ 2048) (hk1 : pm_kb X = 601024) (hk2 : pm_nb X = 7293034)
    (hend : ∀ (ls : List (Option Value)) (hp : List va_E) (k n : Nat), k ≤ 601024 → n ≤ 7293034 → pm_G g mL_law X 1570 ls [.int 1] hp k n) : pm_G g mL_law X 0 [some (.retAddr 0), none, none, none, none, none, none] [] [] 0 0 := by
  obtain ⟨m1, m3, h1, hm, h2, h37, hrun⟩ := hP
  obtain ⟨s1, hs1⟩ := hrun _ g.2.2.2.2.1.2 hL
  refine pg_new dL_law_0 ne_L_8 (by rw [hk1]; exact Nat.le_of_ble_eq_true rfl) (by rw [hk2]; exact Nat.le_of_ble_eq_true rfl) ?_
  show pm_G g mL_law X 3 _ [.ref 0] [.inr (10, [.null, .null, .null, .null, .null, .null, .null])] 1 7
  refine pg_dup dL_law_3 rfl ?_
  refine pg_callI (C := mX11_init) (as := []) dL_law_4 mw1090 ci_X11_init rfl rfl (Nat.le_of_ble_eq_true rfl) rfl ⟨(Nat.le_of_ble_eq_true rfl), (Nat.le_of_ble_eq_true rfl)⟩ ⟨(by rw [hk1]; exact Nat.le_of_ble_eq_true rfl), (by rw [hk2]; exact Nat.le_of_ble_eq_true rfl)⟩ (ck_X11 hfl h1 hm) (fun r hp' hq => ?_) (fun _ _ h => h.elim)
  obtain ⟨h9, h8⟩ := hq; subst h9; rw [h8]
  show pm_G g mL_law X 7 _ [.ref 0] (en (sf0 :: (sA ++ sB.take 100)) m1) 128 2286
  refine pg_astore_n dL_law_7 (Nat.lt_of_sub_pos (by decide)) ?_
  show pm_G g mL_law X 8 [some (.retAddr 0), some (.ref 0), none, none, none, none, none] [] (en (sf0 :: (sA ++ sB.take 100)) m1) 128 2286
  refine pg_new dL_law_8 ne_L_81 (by rw [hk1]; exact Nat.le_of_ble_eq_true rfl) (by rw [hk2]; exact Nat.le_of_ble_eq_true rfl) ?_
  rw [show (en (sf0 :: (sA ++ sB.take 100)) m1).length = 128 from en_len _ _]
  refine pg_dup dL_law_11 rfl ?_
  refine pg_callI (C := mX12_init) (as := []) dL_law_12 mw1096 ci_X12_init rfl rfl (Nat.le_of_ble_eq_true rfl) rfl ⟨(Nat.le_of_ble_eq_true rfl), (Nat.le_of_ble_eq_true rfl)⟩ ⟨(by rw [hk1]; exact Nat.le_of_ble_eq_true rfl), (by rw [hk2]; exact Nat.le_of_ble_eq_true rfl)⟩ (ck_X12 hfl hm h2) (fun r hp' hq => ?_) (fun _ _ h => h.elim)
  obtain ⟨h9, h8⟩ := hq; subst h9; rw [h8]
  show pm_G g mL_law X 15 _ [.ref 128] (en (sf0 :: (sA ++ sB.take 109)) m3) 137 4907
  refine pg_astore_n dL_law_15 (Nat.lt_of_sub_pos (by decide)) ?_
  show pm_G g mL_law X 16 [some (.retAddr 0), some (.ref 0), some (.ref 128), none, none, none, none] [] (en (sf0 :: (sA ++ sB.take 109)) m3) 137 4907
  refine pg_iconst 1 dL_law_16 rfl ?_
  refine pg_newJ (N := 1) dL_law_17 mw1100 (by decide) rfl (Nat.le_of_ble_eq_true rfl) (by rw [hk1]; exact Nat.le_of_ble_eq_true rfl) (by rw [hk2]; exact Nat.le_of_ble_eq_true rfl) ?_
  rw [show (en (sf0 :: (sA ++ sB.take 109)) m3).length = 137 from en_len _ _, fin_L h37]
  refine pg_astore_n dL_law_19 (Nat.lt_of_sub_pos (by decide)) ?_
  show pm_G g mL_law X 20 [some (.retAddr 0), some (.ref 0), some (.ref 128), some (.ref 137), none, none, none] [] (en shs m3) 138 4908
  refine pg_iconst 0 dL_law_20 rfl ?_
  refine pg_istore dL_law_21 (Nat.lt_of_sub_pos (by decide)) ?_
  show pm_G g mL_law X 23 [some (.retAddr 0), some (.ref 0), some (.ref 128), some (.ref 137), some (.int 0), none, none] [] (en shs m3) 138 4908
  refine lo_atC (b := b_L_law_23 g.2.2.2.2.1.1 g.2.2.2.2.1.2) (G := fun s k n => pm_G g mL_law X 23 [some (.retAddr 0), some (.ref 0), some (.ref 128), some (.ref 137), some (.int s.1), none, none] [] (en shs s.2) k n) (T := fun z8 : ((Int32 × me) ⊕ (Int32 × me)) => (∀ z9, z8 = .inl z9 → ∀ k9 n9 : Nat, k9 ≤ pm_kb X → n9 ≤ pm_nb X → pm_G g mL_law X 1569 [some (.retAddr 0), some (.ref 0), some (.ref 128), some (.ref 137), some (.int z9.1), none, none] [] (en shs z9.2) k9 n9) ∧ (∀ x9 : Int32 × me, z8 = .inr x9 → False)) (kb := 601024) (nb := 7293034) ?_ 2048 (0, m3) (.inl s1) 138 4908 hs1 (Nat.le_of_ble_eq_true rfl) (Nat.le_of_ble_eq_true rfl) ?_
  · intro s r k n hb hk hn hN hT
    exact lb_L_law_23 hfl shs_pS ⟨by rw [hk1]; exact hk, by rw [hk2]; exact hn⟩ ⟨by rw [hk1]; omega, by rw [hk2]; omega⟩ hb hN hT
  · refine ⟨fun z9 _ k9 n9 hk9 hn9 => ?_, fun x9 h => by cases h⟩
    refine pg_iconst 1 dL_law_1569 rfl ?_
    exact hend _ _ _ _ (by rw [← hk1]; exact hk9) (by rw [← hk2]; exact hn9)
end
