theorem mx1343 : Cond.initialized "java/lang/IllegalArgumentException" ∈ pm_tbl := List.mem_filter.mpr ⟨List.mem_of_getElem? (i := 90) (by decide +kernel), by decide +kernel⟩
theorem mx1344 : Cond.initialized "java/lang/IndexOutOfBoundsException" ∈ pm_tbl := List.mem_filter.mpr ⟨List.mem_of_getElem? (i := 92) (by decide +kernel), by decide +kernel⟩
theorem mx1345 : Cond.initialized "java/lang/IllegalStateException" ∈ pm_tbl := List.mem_filter.mpr ⟨List.mem_of_getElem? (i := 93) (by decide +kernel), by decide +kernel⟩
/-! throws, and the last rules of the printed functions -/
theorem tr_l {R β : Type} {v : R} {k : R → Option β} {kx : Nat → Option β} {c : Option β} (h : tr (.inl v) k kx = c) : k v = c := h
theorem tr_r {R β : Type} {e : Nat} {k : R → Option β} {kx : Nat → Option β} {c : Option β} (h : tr (.inr e) k kx = c) : kx e = c := h
theorem sm_l {α β γ : Type} {v : α} {k : α → γ} {kx : β → γ} {c : γ} (h : sm (.inl v) k kx = c) : k v = c := h
theorem sm_r {α β γ : Type} {v : β} {k : α → γ} {kx : β → γ} {c : γ} (h : sm (.inr v) k kx = c) : kx v = c := h
theorem inR_lt {i : Int32} {n : Nat} (h : inR i n = true) : i.toNatClampNeg < n := by
  unfold inR at h
  rw [Bool.and_eq_true, decide_eq_true_eq, decide_eq_true_eq] at h
  exact h.2
theorem thc0 : (∀ w ∈ (vx_atS RX11 70 "java/lang/IllegalArgumentException" pm_nm2).filter goodWord, w ∈ pm_tbl) ∧ (∀ w ∈ (vx_atS RX11 70 "java/lang/IllegalArgumentException" pm_nm2).filter (fun w => !goodWord w), w ∈ pm_nwl) ∧ (∀ w ∈ Cond.classLink RX11 66 "java/lang/IllegalArgumentException" :: Cond.initialized "java/lang/IllegalArgumentException" :: vx_atS RX11 70 "java/lang/IllegalArgumentException" pm_nm2, vx_ot w = true) ∧ Bundle.fit "java/lang/IllegalArgumentException" = true ∧ (∀ q ∈ pm_nm2, Bundle.fit q = true) := ⟨by decide +kernel, by decide +kernel, by decide +kernel, by decide +kernel, by decide +kernel⟩
theorem th0 : pm_th 66 186 70 "java/lang/IllegalArgumentException" "what is out of range" := ⟨mw567, mx1343, by decide, by decide, thc0⟩
theorem thc1 : (∀ w ∈ (vx_atS RX11 154 "java/lang/IndexOutOfBoundsException" pm_nm2).filter goodWord, w ∈ pm_tbl) ∧ (∀ w ∈ (vx_atS RX11 154 "java/lang/IndexOutOfBoundsException" pm_nm2).filter (fun w => !goodWord w), w ∈ pm_nwl) ∧ (∀ w ∈ Cond.classLink RX11 150 "java/lang/IndexOutOfBoundsException" :: Cond.initialized "java/lang/IndexOutOfBoundsException" :: vx_atS RX11 154 "java/lang/IndexOutOfBoundsException" pm_nm2, vx_ot w = true) ∧ Bundle.fit "java/lang/IndexOutOfBoundsException" = true ∧ (∀ q ∈ pm_nm2, Bundle.fit q = true) := ⟨by decide +kernel, by decide +kernel, by decide +kernel, by decide +kernel, by decide +kernel⟩
theorem th1 : pm_th 150 184 154 "java/lang/IndexOutOfBoundsException" "no such bridge" := ⟨mw566, mx1344, by decide, by decide, thc1⟩
theorem thc2 : (∀ w ∈ (vx_atS RX11 166 "java/lang/IllegalStateException" pm_nm2).filter goodWord, w ∈ pm_tbl) ∧ (∀ w ∈ (vx_atS RX11 166 "java/lang/IllegalStateException" pm_nm2).filter (fun w => !goodWord w), w ∈ pm_nwl) ∧ (∀ w ∈ Cond.classLink RX11 162 "java/lang/IllegalStateException" :: Cond.initialized "java/lang/IllegalStateException" :: vx_atS RX11 166 "java/lang/IllegalStateException" pm_nm2, vx_ot w = true) ∧ Bundle.fit "java/lang/IllegalStateException" = true ∧ (∀ q ∈ pm_nm2, Bundle.fit q = true) := ⟨by decide +kernel, by decide +kernel, by decide +kernel, by decide +kernel, by decide +kernel⟩
theorem th2 : pm_th 162 329 166 "java/lang/IllegalStateException" "not in this state" := ⟨mw587, mx1345, by decide, by decide, thc2⟩
theorem th3 : pm_th 66 327 70 "java/lang/IllegalArgumentException" "an argument is out of range" := ⟨mw567, mx1343, by decide, by decide, thc0⟩
theorem th4 : pm_th 150 325 154 "java/lang/IndexOutOfBoundsException" "no such number" := ⟨mw566, mx1344, by decide, by decide, thc1⟩
theorem th5 : pm_th 150 198 154 "java/lang/IndexOutOfBoundsException" "no such link" := ⟨mw566, mx1344, by decide, by decide, thc1⟩
theorem th6 : pm_th 150 152 154 "java/lang/IndexOutOfBoundsException" "no such tenant" := ⟨mw566, mx1344, by decide, by decide, thc1⟩
theorem th7 : pm_th 66 68 70 "java/lang/IllegalArgumentException" "bridges is out of range" := ⟨mw567, mx1343, by decide, by decide, thc0⟩
theorem th8 : pm_th 66 81 70 "java/lang/IllegalArgumentException" "a time is out of range" := ⟨mw567, mx1343, by decide, by decide, thc0⟩
theorem th9 : pm_th 162 164 166 "java/lang/IllegalStateException" "too many credits" := ⟨mw587, mx1345, by decide, by decide, thc2⟩
theorem th10 : pm_th 66 155 70 "java/lang/IllegalArgumentException" "credits is out of range" := ⟨mw567, mx1343, by decide, by decide, thc0⟩
theorem th11 : pm_th 150 176 154 "java/lang/IndexOutOfBoundsException" "no such host" := ⟨mw566, mx1344, by decide, by decide, thc1⟩
theorem th12 : pm_th 66 178 70 "java/lang/IllegalArgumentException" "from and to are equal" := ⟨mw567, mx1343, by decide, by decide, thc0⟩
theorem th13 : pm_th 162 257 166 "java/lang/IllegalStateException" "the script is full" := ⟨mw587, mx1345, by decide, by decide, thc2⟩
theorem th14 : pm_th 66 251 70 "java/lang/IllegalArgumentException" "value is out of range" := ⟨mw567, mx1343, by decide, by decide, thc0⟩
theorem th15 : pm_th 162 277 166 "java/lang/IllegalStateException" "the undo stack is empty" := ⟨mw587, mx1345, by decide, by decide, thc2⟩
