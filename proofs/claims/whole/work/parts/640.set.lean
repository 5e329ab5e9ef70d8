/-! The calls over commands; times, grants. -/
section PS
variable {m m0 M : me} {S S' : Nat → Int32} {B T : Nat}
theorem op_setPriority (h : Inv m) (v1 v2 : Int32) : OPv (f_X11_setPriority v1 v2) (f_X12_setPriority v1 v2) cdIA m := by
  refine op_cmd h (cmd_prio h.1 v1 v2) (fun c c1 c2 hc => ?_)
  have : c = 1 ∨ c = 2 ∨ c = 3 := by omega
  rcases this with rfl | rfl | rfl
  · exact ⟨rfl, by decide, by decide⟩
  · exact ⟨rfl, by decide, by decide⟩
  · exfalso
    have h1 := hc m h.2.1
    rcases cmd_prio h.1 v1 v2 with ⟨S', v, -, g, -⟩ | ⟨c, g1, g2, g, g3⟩
    · rw [g m h.2.1] at h1; injection h1 with h1; injection h1 with h1; exact absurd h1 (by decide)
    · unfold f_X4_faultOfPriority f_X11_isOutside at h1
      simp only [bd] at h1
      split at h1 <;> split at h1 <;> simp_all
theorem op_addLink (h : Inv m) (v1 v2 v3 : Int32) : OPv (f_X11_addLink v1 v2 v3) (f_X12_addLink v1 v2 v3) cdIAS m := by
  refine op_cmd h (cmd_join h.1 v1 v2 v3) (fun c c1 c2 hc => ?_)
  have : c = 1 ∨ c = 2 ∨ c = 3 := by omega
  rcases this with rfl | rfl | rfl <;> exact ⟨rfl, by decide, by decide⟩
end PS
