section
variable {g : pm_Gl} {X : pm_X} {S : List sF}
def j_X12_goesOn_198 (u0 : Int32) (u1 : Int32) (m0 : me) : Option (Int32 × me) :=
  if u0 = u1 then
    some ((0, m0))
  else
    some ((1, m0))
def j_X12_goesOn_181 (v3 : Int32) (u0 : Int32) (m0 : me) : Option (Int32 × me) :=
  gd (inR (v3 + 1) 487) (
  if (m0.1 129 ((v3 + 1).toNatClampNeg)) = 3 then
    j_X12_goesOn_198 u0 1 m0
  else
    j_X12_goesOn_198 u0 0 m0)
def j_X12_goesOn_170 (v3 : Int32) (v4 : Int32) (m0 : me) : Option (Int32 × me) :=
  if v4 = 3 then
    j_X12_goesOn_181 v3 1 m0
  else
    j_X12_goesOn_181 v3 0 m0
def j_X12_goesOn_169 (v3 : Int32) (v4 : Int32) (u1 : Int32) (u2 : Int32) (m0 : me) : Option (Int32 × me) :=
  gd (inR u1 487) (
  lt (wI m0 129 u1.toNatClampNeg u2) (fun m16 =>
  j_X12_goesOn_170 v3 v4 m16))
def f_X12_goesOn (v1 : Int32) (v2 : Int32) (m0 : me) : Option (Int32 × me) :=
  lt (((199 + (18 * v1)) + 8) + (3 * v2)) (fun w1 =>
  gd (inR (w1 + 1) 487) (
  lt (m0.1 129 ((w1 + 1).toNatClampNeg)) (fun w2 =>
  bd (f_X12_of v1 v2 m0) (fun r3 =>
  bd (f_X12_roleOf v1 r3.1 r3.2) (fun r4 =>
  gd (inR w1 487) (
  lt (wI r4.2 129 w1.toNatClampNeg r4.1) (fun m5 =>
  gd (inR w1 487) (
  if (m5.1 129 w1.toNatClampNeg) = 2 then
    gd (inR (w1 + 1) 487) (
    lt (wI m5 129 ((w1 + 1).toNatClampNeg) 0) (fun m19 =>
    gd (inR (w1 + 2) 487) (
    lt (wI m19 129 ((w1 + 2).toNatClampNeg) 0) (fun m20 =>
    j_X12_goesOn_170 w1 w2 m20))))
  else
    if w2 = 0 then
      gd (inR (w1 + 1) 487) (
      lt (wI m5 129 ((w1 + 1).toNatClampNeg) 1) (fun m17 =>
      gd (inR (w1 + 2) 487) (
      lt (wI m17 129 ((w1 + 2).toNatClampNeg) (m17.1 129 2)) (fun m18 =>
      j_X12_goesOn_170 w1 w2 m18))))
    else
      if w2 = 3 then
        j_X12_goesOn_170 w1 w2 m5
      else
        gd (inR (w1 + 2) 487) (
        gd (inR (w1 + 2) 487) (
        lt (wI m5 129 ((w1 + 2).toNatClampNeg) ((m5.1 129 ((w1 + 2).toNatClampNeg)) - 1)) (fun m12 =>
        gd (inR (w1 + 2) 487) (
        if (m12.1 129 ((w1 + 2).toNatClampNeg)) = 0 then
          gd (inR (w1 + 1) 487) (
          lt (wI m12 129 ((w1 + 1).toNatClampNeg) (w2 + 1)) (fun m14 =>
          if w2 = 1 then
            j_X12_goesOn_169 w1 w2 (w1 + 2) (m14.1 129 2) m14
          else
            j_X12_goesOn_169 w1 w2 (w1 + 2) 0 m14))
        else
          j_X12_goesOn_170 w1 w2 m12))))))))))))
set_option maxRecDepth 20000 in
set_option maxHeartbeats 4000000 in
theorem lj_X12_goesOn_198 (hfl : g.1.stackTraces = false) (hS : pS 128 137 S) {u0 : Int32} {u1 : Int32} {m0 : me} {r : (Int32 × me)} (h : j_X12_goesOn_198 u0 u1 m0 = some r) (hE : pm_End g mX12_goesOn X 0 0 (qI S r) qF) : pm_G g mX12_goesOn X 198 [some (.ref 128), none, none, none, none] [(.int u1), (.int u0)] (en S m0) 0 0 := by
  unfold j_X12_goesOn_198 at h
  refine pg_icmp_eq 205 dX12_goesOn_198 (by decide) (fun c11 => ?_) (fun c11 => ?_)
  · rw [if_pos c11] at h
    refine pg_iconst 0 dX12_goesOn_205 rfl ?_
    obtain rfl := Option.some.inj h
    exact hE.2.1 _ _ _ _ _ _ .boolean dX12_goesOn_206 rfl rfl (Nat.zero_le _) (Nat.zero_le _) ⟨rfl, rfl⟩
  · rw [if_neg c11] at h
    refine pg_iconst 1 dX12_goesOn_201 rfl ?_
    refine pg_goto 206 dX12_goesOn_202 (by decide) ?_
    obtain rfl := Option.some.inj h
    exact hE.2.1 _ _ _ _ _ _ .boolean dX12_goesOn_206 rfl rfl (Nat.zero_le _) (Nat.zero_le _) ⟨rfl, rfl⟩
set_option maxRecDepth 20000 in
set_option maxHeartbeats 4000000 in
theorem lj_X12_goesOn_181 (hfl : g.1.stackTraces = false) (hS : pS 128 137 S) {v3 : Int32} {u0 : Int32} {m0 : me} {r : (Int32 × me)} (h : j_X12_goesOn_181 v3 u0 m0 = some r) (hE : pm_End g mX12_goesOn X 0 0 (qI S r) qF) : pm_G g mX12_goesOn X 181 [some (.ref 128), none, none, some (.int v3), none] [(.int u0)] (en S m0) 0 0 := by
  unfold j_X12_goesOn_181 at h
  refine pg_aload_n dX12_goesOn_181 rfl ?_
  refine eg_get dX12_goesOn_182 fa_X12_7 hS sp128 (Nat.le_of_ble_eq_true rfl) (Nat.le_of_ble_eq_true rfl) rfl rfl ?_
  refine pg_iload_n dX12_goesOn_185 rfl ?_
  refine pg_iconst 1 dX12_goesOn_186 rfl ?_
  refine pg_iadd dX12_goesOn_187 ?_
  obtain ⟨g1, h⟩ := gd_at h
  refine eg_ialdJ ((v3 + 1).toNatClampNeg) dX12_goesOn_188 hS sp129 (Nat.le_of_ble_eq_true rfl) (Nat.le_of_ble_eq_true rfl) rfl (inR_vp g1) rfl ?_
  refine pg_iconst 3 dX12_goesOn_189 rfl ?_
  refine pg_icmp_ne 197 dX12_goesOn_190 (by decide) (fun c10 => ?_) (fun c10 => ?_)
  · rw [if_neg c10] at h
    refine pg_iconst 0 dX12_goesOn_197 rfl ?_
    refine eg_forget [some (.ref 128), none, none, none, none] (show pm_sub _ _ from ⟨rfl, trivial⟩) ?_
    exact lj_X12_goesOn_198 hfl hS h hE
  · rw [if_pos c10] at h
    refine pg_iconst 1 dX12_goesOn_193 rfl ?_
    refine pg_goto 198 dX12_goesOn_194 (by decide) ?_
    refine eg_forget [some (.ref 128), none, none, none, none] (show pm_sub _ _ from ⟨rfl, trivial⟩) ?_
    exact lj_X12_goesOn_198 hfl hS h hE
set_option maxRecDepth 20000 in
set_option maxHeartbeats 4000000 in
theorem lj_X12_goesOn_170 (hfl : g.1.stackTraces = false) (hS : pS 128 137 S) {v3 : Int32} {v4 : Int32} {m0 : me} {r : (Int32 × me)} (h : j_X12_goesOn_170 v3 v4 m0 = some r) (hE : pm_End g mX12_goesOn X 0 0 (qI S r) qF) : pm_G g mX12_goesOn X 170 [some (.ref 128), none, none, some (.int v3), some (.int v4)] [] (en S m0) 0 0 := by
  unfold j_X12_goesOn_170 at h
  refine pg_iload dX12_goesOn_170 rfl ?_
  refine pg_iconst 3 dX12_goesOn_172 rfl ?_
  refine pg_icmp_ne 180 dX12_goesOn_173 (by decide) (fun c9 => ?_) (fun c9 => ?_)
  · rw [if_neg c9] at h
    refine pg_iconst 0 dX12_goesOn_180 rfl ?_
    refine eg_forget [some (.ref 128), none, none, some (.int v3), none] (show pm_sub _ _ from ⟨rfl, ⟨rfl, trivial⟩⟩) ?_
    exact lj_X12_goesOn_181 hfl hS h hE
  · rw [if_pos c9] at h
    refine pg_iconst 1 dX12_goesOn_176 rfl ?_
    refine pg_goto 181 dX12_goesOn_177 (by decide) ?_
    refine eg_forget [some (.ref 128), none, none, some (.int v3), none] (show pm_sub _ _ from ⟨rfl, ⟨rfl, trivial⟩⟩) ?_
    exact lj_X12_goesOn_181 hfl hS h hE
set_option maxRecDepth 20000 in
set_option maxHeartbeats 4000000 in
theorem lj_X12_goesOn_169 (hfl : g.1.stackTraces = false) (hS : pS 128 137 S) {v3 : Int32} {v4 : Int32} {u1 : Int32} {u2 : Int32} {m0 : me} {r : (Int32 × me)} (h : j_X12_goesOn_169 v3 v4 u1 u2 m0 = some r) (hE : pm_End g mX12_goesOn X 0 0 (qI S r) qF) : pm_G g mX12_goesOn X 169 [some (.ref 128), none, none, some (.int v3), some (.int v4)] [(.int u2), (.int u1), (.ref 129)] (en S m0) 0 0 := by
  unfold j_X12_goesOn_169 at h
  obtain ⟨g1, h⟩ := gd_at h
  refine eg_iastJ u1.toNatClampNeg dX12_goesOn_169 hS sp129 (Nat.le_of_ble_eq_true rfl) (Nat.le_of_ble_eq_true rfl) (fun _ _ _ => rfl) (inR_vp g1) rfl (fun m16 e_m16 => ?_)
  replace h := lt_at h e_m16
  exact lj_X12_goesOn_170 hfl hS h hE
set_option maxRecDepth 20000 in
set_option maxHeartbeats 4000000 in
theorem ct_X12_goesOn (hfl : g.1.stackTraces = false) (hS : pS 128 137 S) {v1 : Int32} {v2 : Int32} {m0 : me} {x : (Int32 × me)} (h : f_X12_goesOn v1 v2 m0 = some x) : pm_Ct g mX12_goesOn [.ref 128, .int v1, .int v2] (en S m0) 0 0 (qI S x) qF := by
  refine pm_of (by decide +kernel) rfl hfl (Nat.le_of_ble_eq_true rfl) (fun X hE => ?_)
  show pm_G g mX12_goesOn X 0 [some (.ref 128), some (.int v1), some (.int v2), none, none] [] (en S m0) 0 0
  unfold f_X12_goesOn at h
  refine pg_sipush 199 dX12_goesOn_0 rfl ?_
  refine pg_bipush 18 dX12_goesOn_3 rfl ?_
  refine pg_iload_n dX12_goesOn_5 rfl ?_
  refine pg_imul dX12_goesOn_6 ?_
  refine pg_iadd dX12_goesOn_7 ?_
  refine pg_bipush 8 dX12_goesOn_8 rfl ?_
  refine pg_iadd dX12_goesOn_10 ?_
  refine pg_iconst 3 dX12_goesOn_11 rfl ?_
  refine pg_iload_n dX12_goesOn_12 rfl ?_
  refine pg_imul dX12_goesOn_13 ?_
  refine pg_iadd dX12_goesOn_14 ?_
  obtain ⟨w1, e_w1⟩ : ∃ z : Int32, z = ((199 + (18 * v1)) + 8) + (3 * v2) := ⟨_, rfl⟩
  replace h := lt_at h e_w1
  refine eg_istore_n [some (.ref 128), some (.int v1), some (.int v2), some (.int w1), none] w1 dX12_goesOn_15 e_w1 (Nat.le_of_ble_eq_true rfl) rfl ?_
  refine pg_aload_n dX12_goesOn_16 rfl ?_
  refine eg_get dX12_goesOn_17 fa_X12_7 hS sp128 (Nat.le_of_ble_eq_true rfl) (Nat.le_of_ble_eq_true rfl) rfl rfl ?_
  refine pg_iload_n dX12_goesOn_20 rfl ?_
  refine pg_iconst 1 dX12_goesOn_21 rfl ?_
  refine pg_iadd dX12_goesOn_22 ?_
  obtain ⟨g1, h⟩ := gd_at h
  refine eg_ialdJ ((w1 + 1).toNatClampNeg) dX12_goesOn_23 hS sp129 (Nat.le_of_ble_eq_true rfl) (Nat.le_of_ble_eq_true rfl) rfl (inR_vp g1) rfl ?_
  obtain ⟨w2, e_w2⟩ : ∃ z : Int32, z = m0.1 129 ((w1 + 1).toNatClampNeg) := ⟨_, rfl⟩
  replace h := lt_at h e_w2
  refine eg_istore [some (.ref 128), some (.int v1), some (.int v2), some (.int w1), some (.int w2)] w2 dX12_goesOn_24 e_w2 (Nat.le_of_ble_eq_true rfl) rfl ?_
  refine pg_aload_n dX12_goesOn_26 rfl ?_
  refine eg_get dX12_goesOn_27 fa_X12_7 hS sp128 (Nat.le_of_ble_eq_true rfl) (Nat.le_of_ble_eq_true rfl) rfl rfl ?_
  refine pg_iload_n dX12_goesOn_30 rfl ?_
  refine pg_aload_n dX12_goesOn_31 rfl ?_
  refine pg_iload_n dX12_goesOn_32 rfl ?_
  refine pg_aload_n dX12_goesOn_33 rfl ?_
  refine pg_iload_n dX12_goesOn_34 rfl ?_
  refine pg_iload_n dX12_goesOn_35 rfl ?_
  obtain ⟨r3, h_r3, h⟩ := bd_at h
  refine eg_cVi (C := mX12_of) (as := [(.int v1), (.int v2)]) dX12_goesOn_36 mw863 cv_X12_of hS sp128 (Nat.le_of_ble_eq_true rfl) (Nat.le_of_ble_eq_true rfl) rfl rfl rfl (Nat.le_of_ble_eq_true rfl) rfl ⟨(Nat.le_of_ble_eq_true rfl), (Nat.le_of_ble_eq_true rfl)⟩ (ct_X12_of hfl (hS.sub (Nat.le_of_ble_eq_true rfl) (Nat.le_of_ble_eq_true rfl)) h_r3) ?_
  obtain ⟨r4, h_r4, h⟩ := bd_at h
  refine eg_cVi (C := mX12_roleOf) (as := [(.int v1), (.int r3.1)]) dX12_goesOn_39 mw957 cv_X12_roleOf hS sp128 (Nat.le_of_ble_eq_true rfl) (Nat.le_of_ble_eq_true rfl) rfl rfl rfl (Nat.le_of_ble_eq_true rfl) rfl ⟨(Nat.le_of_ble_eq_true rfl), (Nat.le_of_ble_eq_true rfl)⟩ (ct_X12_roleOf hfl (hS.sub (Nat.le_of_ble_eq_true rfl) (Nat.le_of_ble_eq_true rfl)) h_r4) ?_
  obtain ⟨g1, h⟩ := gd_at h
  refine eg_iastJ w1.toNatClampNeg dX12_goesOn_42 hS sp129 (Nat.le_of_ble_eq_true rfl) (Nat.le_of_ble_eq_true rfl) (fun _ _ _ => rfl) (inR_vp g1) rfl (fun m5 e_m5 => ?_)
  replace h := lt_at h e_m5
  refine pg_aload_n dX12_goesOn_43 rfl ?_
  refine eg_get dX12_goesOn_44 fa_X12_7 hS sp128 (Nat.le_of_ble_eq_true rfl) (Nat.le_of_ble_eq_true rfl) rfl rfl ?_
  refine pg_iload_n dX12_goesOn_47 rfl ?_
  obtain ⟨g1, h⟩ := gd_at h
  refine eg_ialdJ w1.toNatClampNeg dX12_goesOn_48 hS sp129 (Nat.le_of_ble_eq_true rfl) (Nat.le_of_ble_eq_true rfl) rfl (inR_vp g1) rfl ?_
  refine pg_iconst 2 dX12_goesOn_49 rfl ?_
  refine pg_icmp_ne 74 dX12_goesOn_50 (by decide) (fun c6 => ?_) (fun c6 => ?_)
  · rw [if_neg c6] at h
    refine pg_iload dX12_goesOn_74 rfl ?_
    refine pg_if_ne 105 dX12_goesOn_76 (by decide) (fun c7 => ?_) (fun c7 => ?_)
    · rw [if_neg c7] at h
      refine pg_iload dX12_goesOn_105 rfl ?_
      refine pg_iconst 3 dX12_goesOn_107 rfl ?_
      refine pg_icmp_eq 170 dX12_goesOn_108 (by decide) (fun c8 => ?_) (fun c8 => ?_)
      · rw [if_pos c8] at h
        refine eg_forget [some (.ref 128), none, none, some (.int w1), some (.int w2)] (show pm_sub _ _ from ⟨rfl, ⟨rfl, ⟨rfl, trivial⟩⟩⟩) ?_
        exact lj_X12_goesOn_170 hfl hS h hE
      · rw [if_neg c8] at h
        refine pg_aload_n dX12_goesOn_111 rfl ?_
        refine eg_get dX12_goesOn_112 fa_X12_7 hS sp128 (Nat.le_of_ble_eq_true rfl) (Nat.le_of_ble_eq_true rfl) rfl rfl ?_
        refine pg_iload_n dX12_goesOn_115 rfl ?_
        refine pg_iconst 2 dX12_goesOn_116 rfl ?_
        refine pg_iadd dX12_goesOn_117 ?_
        refine pg_dup2 dX12_goesOn_118 rfl rfl ?_
        obtain ⟨g1, h⟩ := gd_at h
        refine eg_ialdJ ((w1 + 2).toNatClampNeg) dX12_goesOn_119 hS sp129 (Nat.le_of_ble_eq_true rfl) (Nat.le_of_ble_eq_true rfl) rfl (inR_vp g1) rfl ?_
        refine pg_iconst 1 dX12_goesOn_120 rfl ?_
        refine pg_isub dX12_goesOn_121 ?_
        obtain ⟨g1, h⟩ := gd_at h
        refine eg_iastJ ((w1 + 2).toNatClampNeg) dX12_goesOn_122 hS sp129 (Nat.le_of_ble_eq_true rfl) (Nat.le_of_ble_eq_true rfl) (fun _ _ _ => rfl) (inR_vp g1) rfl (fun m12 e_m12 => ?_)
        replace h := lt_at h e_m12
        refine pg_aload_n dX12_goesOn_123 rfl ?_
        refine eg_get dX12_goesOn_124 fa_X12_7 hS sp128 (Nat.le_of_ble_eq_true rfl) (Nat.le_of_ble_eq_true rfl) rfl rfl ?_
        refine pg_iload_n dX12_goesOn_127 rfl ?_
        refine pg_iconst 2 dX12_goesOn_128 rfl ?_
        refine pg_iadd dX12_goesOn_129 ?_
        obtain ⟨g1, h⟩ := gd_at h
        refine eg_ialdJ ((w1 + 2).toNatClampNeg) dX12_goesOn_130 hS sp129 (Nat.le_of_ble_eq_true rfl) (Nat.le_of_ble_eq_true rfl) rfl (inR_vp g1) rfl ?_
        refine pg_if_ne 170 dX12_goesOn_131 (by decide) (fun c13 => ?_) (fun c13 => ?_)
        · rw [if_neg c13] at h
          refine eg_forget [some (.ref 128), none, none, some (.int w1), some (.int w2)] (show pm_sub _ _ from ⟨rfl, ⟨rfl, ⟨rfl, trivial⟩⟩⟩) ?_
          exact lj_X12_goesOn_170 hfl hS h hE
        · rw [if_pos c13] at h
          refine pg_aload_n dX12_goesOn_134 rfl ?_
          refine eg_get dX12_goesOn_135 fa_X12_7 hS sp128 (Nat.le_of_ble_eq_true rfl) (Nat.le_of_ble_eq_true rfl) rfl rfl ?_
          refine pg_iload_n dX12_goesOn_138 rfl ?_
          refine pg_iconst 1 dX12_goesOn_139 rfl ?_
          refine pg_iadd dX12_goesOn_140 ?_
          refine pg_iload dX12_goesOn_141 rfl ?_
          refine pg_iconst 1 dX12_goesOn_143 rfl ?_
          refine pg_iadd dX12_goesOn_144 ?_
          obtain ⟨g1, h⟩ := gd_at h
          refine eg_iastJ ((w1 + 1).toNatClampNeg) dX12_goesOn_145 hS sp129 (Nat.le_of_ble_eq_true rfl) (Nat.le_of_ble_eq_true rfl) (fun _ _ _ => rfl) (inR_vp g1) rfl (fun m14 e_m14 => ?_)
          replace h := lt_at h e_m14
          refine pg_aload_n dX12_goesOn_146 rfl ?_
          refine eg_get dX12_goesOn_147 fa_X12_7 hS sp128 (Nat.le_of_ble_eq_true rfl) (Nat.le_of_ble_eq_true rfl) rfl rfl ?_
          refine pg_iload_n dX12_goesOn_150 rfl ?_
          refine pg_iconst 2 dX12_goesOn_151 rfl ?_
          refine pg_iadd dX12_goesOn_152 ?_
          refine pg_iload dX12_goesOn_153 rfl ?_
          refine pg_iconst 1 dX12_goesOn_155 rfl ?_
          refine pg_icmp_ne 168 dX12_goesOn_156 (by decide) (fun c15 => ?_) (fun c15 => ?_)
          · rw [if_neg c15] at h
            refine pg_iconst 0 dX12_goesOn_168 rfl ?_
            refine eg_forget [some (.ref 128), none, none, some (.int w1), some (.int w2)] (show pm_sub _ _ from ⟨rfl, ⟨rfl, ⟨rfl, trivial⟩⟩⟩) ?_
            exact lj_X12_goesOn_169 hfl hS h hE
          · rw [if_pos c15] at h
            refine pg_aload_n dX12_goesOn_159 rfl ?_
            refine eg_get dX12_goesOn_160 fa_X12_7 hS sp128 (Nat.le_of_ble_eq_true rfl) (Nat.le_of_ble_eq_true rfl) rfl rfl ?_
            refine pg_iconst 2 dX12_goesOn_163 rfl ?_
            refine eg_ialdJ 2 dX12_goesOn_164 hS sp129 (Nat.le_of_ble_eq_true rfl) (Nat.le_of_ble_eq_true rfl) rfl (inR_vp rfl) rfl ?_
            refine pg_goto 169 dX12_goesOn_165 (by decide) ?_
            refine eg_forget [some (.ref 128), none, none, some (.int w1), some (.int w2)] (show pm_sub _ _ from ⟨rfl, ⟨rfl, ⟨rfl, trivial⟩⟩⟩) ?_
            exact lj_X12_goesOn_169 hfl hS h hE
    · rw [if_pos c7] at h
      refine pg_aload_n dX12_goesOn_79 rfl ?_
      refine eg_get dX12_goesOn_80 fa_X12_7 hS sp128 (Nat.le_of_ble_eq_true rfl) (Nat.le_of_ble_eq_true rfl) rfl rfl ?_
      refine pg_iload_n dX12_goesOn_83 rfl ?_
      refine pg_iconst 1 dX12_goesOn_84 rfl ?_
      refine pg_iadd dX12_goesOn_85 ?_
      refine pg_iconst 1 dX12_goesOn_86 rfl ?_
      obtain ⟨g1, h⟩ := gd_at h
      refine eg_iastJ ((w1 + 1).toNatClampNeg) dX12_goesOn_87 hS sp129 (Nat.le_of_ble_eq_true rfl) (Nat.le_of_ble_eq_true rfl) (fun _ _ _ => rfl) (inR_vp g1) rfl (fun m17 e_m17 => ?_)
      replace h := lt_at h e_m17
      refine pg_aload_n dX12_goesOn_88 rfl ?_
      refine eg_get dX12_goesOn_89 fa_X12_7 hS sp128 (Nat.le_of_ble_eq_true rfl) (Nat.le_of_ble_eq_true rfl) rfl rfl ?_
      refine pg_iload_n dX12_goesOn_92 rfl ?_
      refine pg_iconst 2 dX12_goesOn_93 rfl ?_
      refine pg_iadd dX12_goesOn_94 ?_
      refine pg_aload_n dX12_goesOn_95 rfl ?_
      refine eg_get dX12_goesOn_96 fa_X12_7 hS sp128 (Nat.le_of_ble_eq_true rfl) (Nat.le_of_ble_eq_true rfl) rfl rfl ?_
      refine pg_iconst 2 dX12_goesOn_99 rfl ?_
      refine eg_ialdJ 2 dX12_goesOn_100 hS sp129 (Nat.le_of_ble_eq_true rfl) (Nat.le_of_ble_eq_true rfl) rfl (inR_vp rfl) rfl ?_
      obtain ⟨g1, h⟩ := gd_at h
      refine eg_iastJ ((w1 + 2).toNatClampNeg) dX12_goesOn_101 hS sp129 (Nat.le_of_ble_eq_true rfl) (Nat.le_of_ble_eq_true rfl) (fun _ _ _ => rfl) (inR_vp g1) rfl (fun m18 e_m18 => ?_)
      replace h := lt_at h e_m18
      refine pg_goto 170 dX12_goesOn_102 (by decide) ?_
      refine eg_forget [some (.ref 128), none, none, some (.int w1), some (.int w2)] (show pm_sub _ _ from ⟨rfl, ⟨rfl, ⟨rfl, trivial⟩⟩⟩) ?_
      exact lj_X12_goesOn_170 hfl hS h hE
  · rw [if_pos c6] at h
    refine pg_aload_n dX12_goesOn_53 rfl ?_
    refine eg_get dX12_goesOn_54 fa_X12_7 hS sp128 (Nat.le_of_ble_eq_true rfl) (Nat.le_of_ble_eq_true rfl) rfl rfl ?_
    refine pg_iload_n dX12_goesOn_57 rfl ?_
    refine pg_iconst 1 dX12_goesOn_58 rfl ?_
    refine pg_iadd dX12_goesOn_59 ?_
    refine pg_iconst 0 dX12_goesOn_60 rfl ?_
    obtain ⟨g1, h⟩ := gd_at h
    refine eg_iastJ ((w1 + 1).toNatClampNeg) dX12_goesOn_61 hS sp129 (Nat.le_of_ble_eq_true rfl) (Nat.le_of_ble_eq_true rfl) (fun _ _ _ => rfl) (inR_vp g1) rfl (fun m19 e_m19 => ?_)
    replace h := lt_at h e_m19
    refine pg_aload_n dX12_goesOn_62 rfl ?_
    refine eg_get dX12_goesOn_63 fa_X12_7 hS sp128 (Nat.le_of_ble_eq_true rfl) (Nat.le_of_ble_eq_true rfl) rfl rfl ?_
    refine pg_iload_n dX12_goesOn_66 rfl ?_
    refine pg_iconst 2 dX12_goesOn_67 rfl ?_
    refine pg_iadd dX12_goesOn_68 ?_
    refine pg_iconst 0 dX12_goesOn_69 rfl ?_
    obtain ⟨g1, h⟩ := gd_at h
    refine eg_iastJ ((w1 + 2).toNatClampNeg) dX12_goesOn_70 hS sp129 (Nat.le_of_ble_eq_true rfl) (Nat.le_of_ble_eq_true rfl) (fun _ _ _ => rfl) (inR_vp g1) rfl (fun m20 e_m20 => ?_)
    replace h := lt_at h e_m20
    refine pg_goto 170 dX12_goesOn_71 (by decide) ?_
    refine eg_forget [some (.ref 128), none, none, some (.int w1), some (.int w2)] (show pm_sub _ _ from ⟨rfl, ⟨rfl, ⟨rfl, trivial⟩⟩⟩) ?_
    exact lj_X12_goesOn_170 hfl hS h hE
def f_X12_carries (v1 : Int32) (m0 : me) : Option (Int32 × me) :=
  bd (f_X12_of v1 4 m0) (fun r1 =>
  if r1.1 = 1 then
    bd (f_X12_of v1 9 r1.2) (fun r3 =>
    if r3.1 = 3 then
      bd (f_X12_of v1 12 r3.2) (fun r5 =>
      if r5.1 = 3 then
        some ((1, r5.2))
      else
        some ((0, r5.2)))
    else
      some ((0, r3.2)))
  else
    some ((0, r1.2)))
set_option maxRecDepth 20000 in
set_option maxHeartbeats 4000000 in
theorem ct_X12_carries (hfl : g.1.stackTraces = false) (hS : pS 128 137 S) {v1 : Int32} {m0 : me} {x : (Int32 × me)} (h : f_X12_carries v1 m0 = some x) : pm_Ct g mX12_carries [.ref 128, .int v1] (en S m0) 0 0 (qI S x) qF := by
  refine pm_of (by decide +kernel) rfl hfl (Nat.le_of_ble_eq_true rfl) (fun X hE => ?_)
  show pm_G g mX12_carries X 0 [some (.ref 128), some (.int v1)] [] (en S m0) 0 0
  unfold f_X12_carries at h
  refine pg_aload_n dX12_carries_0 rfl ?_
  refine pg_iload_n dX12_carries_1 rfl ?_
  refine pg_iconst 4 dX12_carries_2 rfl ?_
  obtain ⟨r1, h_r1, h⟩ := bd_at h
  refine eg_cVi (C := mX12_of) (as := [(.int v1), (.int 4)]) dX12_carries_3 mw863 cv_X12_of hS sp128 (Nat.le_of_ble_eq_true rfl) (Nat.le_of_ble_eq_true rfl) rfl rfl rfl (Nat.le_of_ble_eq_true rfl) rfl ⟨(Nat.le_of_ble_eq_true rfl), (Nat.le_of_ble_eq_true rfl)⟩ (ct_X12_of hfl (hS.sub (Nat.le_of_ble_eq_true rfl) (Nat.le_of_ble_eq_true rfl)) h_r1) ?_
  refine pg_iconst 1 dX12_carries_6 rfl ?_
  refine pg_icmp_ne 36 dX12_carries_7 (by decide) (fun c2 => ?_) (fun c2 => ?_)
  · rw [if_neg c2] at h
    refine pg_iconst 0 dX12_carries_36 rfl ?_
    obtain rfl := Option.some.inj h
    exact hE.2.1 _ _ _ _ _ _ .boolean dX12_carries_37 rfl rfl (Nat.zero_le _) (Nat.zero_le _) ⟨rfl, rfl⟩
  · rw [if_pos c2] at h
    refine pg_aload_n dX12_carries_10 rfl ?_
    refine pg_iload_n dX12_carries_11 rfl ?_
    refine pg_bipush 9 dX12_carries_12 rfl ?_
    obtain ⟨r3, h_r3, h⟩ := bd_at h
    refine eg_cVi (C := mX12_of) (as := [(.int v1), (.int 9)]) dX12_carries_14 mw863 cv_X12_of hS sp128 (Nat.le_of_ble_eq_true rfl) (Nat.le_of_ble_eq_true rfl) rfl rfl rfl (Nat.le_of_ble_eq_true rfl) rfl ⟨(Nat.le_of_ble_eq_true rfl), (Nat.le_of_ble_eq_true rfl)⟩ (ct_X12_of hfl (hS.sub (Nat.le_of_ble_eq_true rfl) (Nat.le_of_ble_eq_true rfl)) h_r3) ?_
    refine pg_iconst 3 dX12_carries_17 rfl ?_
    refine pg_icmp_ne 36 dX12_carries_18 (by decide) (fun c4 => ?_) (fun c4 => ?_)
    · rw [if_neg c4] at h
      refine pg_iconst 0 dX12_carries_36 rfl ?_
      obtain rfl := Option.some.inj h
      exact hE.2.1 _ _ _ _ _ _ .boolean dX12_carries_37 rfl rfl (Nat.zero_le _) (Nat.zero_le _) ⟨rfl, rfl⟩
    · rw [if_pos c4] at h
      refine pg_aload_n dX12_carries_21 rfl ?_
      refine pg_iload_n dX12_carries_22 rfl ?_
      refine pg_bipush 12 dX12_carries_23 rfl ?_
      obtain ⟨r5, h_r5, h⟩ := bd_at h
      refine eg_cVi (C := mX12_of) (as := [(.int v1), (.int 12)]) dX12_carries_25 mw863 cv_X12_of hS sp128 (Nat.le_of_ble_eq_true rfl) (Nat.le_of_ble_eq_true rfl) rfl rfl rfl (Nat.le_of_ble_eq_true rfl) rfl ⟨(Nat.le_of_ble_eq_true rfl), (Nat.le_of_ble_eq_true rfl)⟩ (ct_X12_of hfl (hS.sub (Nat.le_of_ble_eq_true rfl) (Nat.le_of_ble_eq_true rfl)) h_r5) ?_
      refine pg_iconst 3 dX12_carries_28 rfl ?_
      refine pg_icmp_ne 36 dX12_carries_29 (by decide) (fun c6 => ?_) (fun c6 => ?_)
      · rw [if_neg c6] at h
        refine pg_iconst 0 dX12_carries_36 rfl ?_
        obtain rfl := Option.some.inj h
        exact hE.2.1 _ _ _ _ _ _ .boolean dX12_carries_37 rfl rfl (Nat.zero_le _) (Nat.zero_le _) ⟨rfl, rfl⟩
      · rw [if_pos c6] at h
        refine pg_iconst 1 dX12_carries_32 rfl ?_
        refine pg_goto 37 dX12_carries_33 (by decide) ?_
        obtain rfl := Option.some.inj h
        exact hE.2.1 _ _ _ _ _ _ .boolean dX12_carries_37 rfl rfl (Nat.zero_le _) (Nat.zero_le _) ⟨rfl, rfl⟩
def b_X12_reached_15 (v1 : Int32) (v3 : Int32) (s : Int32 × Int32 × me) : Option ((Int32 × Int32 × me) ⊕ (Int32 × Int32 × me)) :=
  if (s.2.2.1 129 5) ≤ s.2.1 then
    some (.inr (s.1, s.2.1, s.2.2))
  else
    bd (f_X12_carries s.2.1 s.2.2) (fun r4 =>
    if r4.1 = 0 then
      lt (s.2.1 + 1) (fun w6 =>
      some (.inl (s.1, w6, r4.2)))
    else
      bd (f_X12_of s.2.1 0 r4.2) (fun r7 =>
      bd (f_X12_of s.2.1 1 r7.2) (fun r8 =>
      if (((s.1 >>> (r7.1 &&& 31)) ||| (s.1 >>> (r8.1 &&& 31))) &&& 1) = 1 then
        bd (f_X12_of s.2.1 0 r8.2) (fun r11 =>
        bd (f_X12_of s.2.1 1 r11.2) (fun r12 =>
        lt (s.1 ||| ((1 <<< (r11.1 &&& 31)) ||| (1 <<< (r12.1 &&& 31)))) (fun w13 =>
        lt (s.2.1 + 1) (fun w14 =>
        some (.inl (w13, w14, r12.2))))))
      else
        lt (s.2.1 + 1) (fun w10 =>
        some (.inl (s.1, w10, r8.2))))))
def b_X12_reached_6 (v1 : Int32) (s : Int32 × Int32 × me) : Option ((Int32 × Int32 × me) ⊕ (Int32 × Int32 × me)) :=
  if 8 ≤ s.2.1 then
    some (.inr (s.1, s.2.1, s.2.2))
  else
    bd (lo (b_X12_reached_15 v1 s.2.1) 2048 (s.1, 0, s.2.2)) (fun s15 =>
    lt (s.2.1 + 1) (fun w16 =>
    some (.inl (s15.1, w16, s15.2.2))))
def f_X12_reached (v1 : Int32) (m0 : me) : Option (Int32 × me) :=
  lt (1 <<< (v1 &&& 31)) (fun w1 =>
  bd (lo (b_X12_reached_6 v1) 2048 (w1, 0, m0)) (fun s17 =>
  some ((s17.1, s17.2.2))))
set_option maxRecDepth 20000 in
set_option maxHeartbeats 4000000 in
theorem lb_X12_reached_15 (hfl : g.1.stackTraces = false) (hS : pS 128 137 S) {v1 : Int32} {v3 : Int32} {s : Int32 × Int32 × me} {r : (Int32 × Int32 × me) ⊕ (Int32 × Int32 × me)} (h : b_X12_reached_15 v1 v3 s = some r) (hN : ∀ s', r = .inl s' → (fun z9 : Int32 × Int32 × me => pm_G g mX12_reached X 15 [some (.ref 128), some (.int v1), some (.int z9.1), some (.int v3), some (.int z9.2.1)] [] (en S z9.2.2) 0 0) s') (hT : ∀ t, r = .inr t → (fun z9 : Int32 × Int32 × me => pm_G g mX12_reached X 88 [some (.ref 128), some (.int v1), some (.int z9.1), some (.int v3), some (.int z9.2.1)] [] (en S z9.2.2) 0 0) t) : (fun z9 : Int32 × Int32 × me => pm_G g mX12_reached X 15 [some (.ref 128), some (.int v1), some (.int z9.1), some (.int v3), some (.int z9.2.1)] [] (en S z9.2.2) 0 0) s := by
  unfold b_X12_reached_15 at h
  show pm_G g mX12_reached X 15 [some (.ref 128), some (.int v1), some (.int s.1), some (.int v3), some (.int s.2.1)] [] (en S s.2.2) 0 0
  refine pg_iload dX12_reached_15 rfl ?_
  refine pg_aload_n dX12_reached_17 rfl ?_
  refine eg_get dX12_reached_18 fa_X12_7 hS sp128 (Nat.le_of_ble_eq_true rfl) (Nat.le_of_ble_eq_true rfl) rfl rfl ?_
  refine pg_iconst 5 dX12_reached_21 rfl ?_
  refine eg_ialdJ 5 dX12_reached_22 hS sp129 (Nat.le_of_ble_eq_true rfl) (Nat.le_of_ble_eq_true rfl) rfl (inR_vp rfl) rfl ?_
  refine pg_icmp_ge 88 dX12_reached_23 (by decide) (fun c3 => ?_) (fun c3 => ?_)
  · rw [if_pos c3] at h
    obtain rfl := Option.some.inj h
    exact hT _ rfl
  · rw [if_neg c3] at h
    refine pg_aload_n dX12_reached_26 rfl ?_
    refine pg_iload dX12_reached_27 rfl ?_
    obtain ⟨r4, h_r4, h⟩ := bd_at h
    refine eg_cVi (C := mX12_carries) (as := [(.int s.2.1)]) dX12_reached_29 mw967 cv_X12_carries hS sp128 (Nat.le_of_ble_eq_true rfl) (Nat.le_of_ble_eq_true rfl) rfl rfl rfl (Nat.le_of_ble_eq_true rfl) rfl ⟨(Nat.le_of_ble_eq_true rfl), (Nat.le_of_ble_eq_true rfl)⟩ (ct_X12_carries hfl (hS.sub (Nat.le_of_ble_eq_true rfl) (Nat.le_of_ble_eq_true rfl)) h_r4) ?_
    refine pg_if_eq 82 dX12_reached_32 (by decide) (fun c5 => ?_) (fun c5 => ?_)
    · rw [if_pos c5] at h
      obtain ⟨w6, e_w6⟩ : ∃ z : Int32, z = s.2.1 + 1 := ⟨_, rfl⟩
      replace h := lt_at h e_w6
      refine eg_iinc [some (.ref 128), some (.int v1), some (.int s.1), some (.int v3), some (.int w6)] w6 1 dX12_reached_82 rfl rfl e_w6 rfl ?_
      refine pg_goto 15 dX12_reached_85 (by decide) ?_
      obtain rfl := Option.some.inj h
      exact hN _ rfl
    · rw [if_neg c5] at h
      refine pg_iload_n dX12_reached_35 rfl ?_
      refine pg_aload_n dX12_reached_36 rfl ?_
      refine pg_iload dX12_reached_37 rfl ?_
      refine pg_iconst 0 dX12_reached_39 rfl ?_
      obtain ⟨r7, h_r7, h⟩ := bd_at h
      refine eg_cVi (C := mX12_of) (as := [(.int s.2.1), (.int 0)]) dX12_reached_40 mw863 cv_X12_of hS sp128 (Nat.le_of_ble_eq_true rfl) (Nat.le_of_ble_eq_true rfl) rfl rfl rfl (Nat.le_of_ble_eq_true rfl) rfl ⟨(Nat.le_of_ble_eq_true rfl), (Nat.le_of_ble_eq_true rfl)⟩ (ct_X12_of hfl (hS.sub (Nat.le_of_ble_eq_true rfl) (Nat.le_of_ble_eq_true rfl)) h_r7) ?_
      refine pg_ishr dX12_reached_43 ?_
      refine pg_iload_n dX12_reached_44 rfl ?_
      refine pg_aload_n dX12_reached_45 rfl ?_
      refine pg_iload dX12_reached_46 rfl ?_
      refine pg_iconst 1 dX12_reached_48 rfl ?_
      obtain ⟨r8, h_r8, h⟩ := bd_at h
      refine eg_cVi (C := mX12_of) (as := [(.int s.2.1), (.int 1)]) dX12_reached_49 mw863 cv_X12_of hS sp128 (Nat.le_of_ble_eq_true rfl) (Nat.le_of_ble_eq_true rfl) rfl rfl rfl (Nat.le_of_ble_eq_true rfl) rfl ⟨(Nat.le_of_ble_eq_true rfl), (Nat.le_of_ble_eq_true rfl)⟩ (ct_X12_of hfl (hS.sub (Nat.le_of_ble_eq_true rfl) (Nat.le_of_ble_eq_true rfl)) h_r8) ?_
      refine pg_ishr dX12_reached_52 ?_
      refine pg_ior dX12_reached_53 ?_
      refine pg_iconst 1 dX12_reached_54 rfl ?_
      refine pg_iand dX12_reached_55 ?_
      refine pg_iconst 1 dX12_reached_56 rfl ?_
      refine pg_icmp_ne 82 dX12_reached_57 (by decide) (fun c9 => ?_) (fun c9 => ?_)
      · rw [if_neg c9] at h
        obtain ⟨w10, e_w10⟩ : ∃ z : Int32, z = s.2.1 + 1 := ⟨_, rfl⟩
        replace h := lt_at h e_w10
        refine eg_iinc [some (.ref 128), some (.int v1), some (.int s.1), some (.int v3), some (.int w10)] w10 1 dX12_reached_82 rfl rfl e_w10 rfl ?_
        refine pg_goto 15 dX12_reached_85 (by decide) ?_
        obtain rfl := Option.some.inj h
        exact hN _ rfl
      · rw [if_pos c9] at h
        refine pg_iload_n dX12_reached_60 rfl ?_
        refine pg_iconst 1 dX12_reached_61 rfl ?_
        refine pg_aload_n dX12_reached_62 rfl ?_
        refine pg_iload dX12_reached_63 rfl ?_
        refine pg_iconst 0 dX12_reached_65 rfl ?_
        obtain ⟨r11, h_r11, h⟩ := bd_at h
        refine eg_cVi (C := mX12_of) (as := [(.int s.2.1), (.int 0)]) dX12_reached_66 mw863 cv_X12_of hS sp128 (Nat.le_of_ble_eq_true rfl) (Nat.le_of_ble_eq_true rfl) rfl rfl rfl (Nat.le_of_ble_eq_true rfl) rfl ⟨(Nat.le_of_ble_eq_true rfl), (Nat.le_of_ble_eq_true rfl)⟩ (ct_X12_of hfl (hS.sub (Nat.le_of_ble_eq_true rfl) (Nat.le_of_ble_eq_true rfl)) h_r11) ?_
        refine pg_ishl dX12_reached_69 ?_
        refine pg_iconst 1 dX12_reached_70 rfl ?_
        refine pg_aload_n dX12_reached_71 rfl ?_
        refine pg_iload dX12_reached_72 rfl ?_
        refine pg_iconst 1 dX12_reached_74 rfl ?_
        obtain ⟨r12, h_r12, h⟩ := bd_at h
        refine eg_cVi (C := mX12_of) (as := [(.int s.2.1), (.int 1)]) dX12_reached_75 mw863 cv_X12_of hS sp128 (Nat.le_of_ble_eq_true rfl) (Nat.le_of_ble_eq_true rfl) rfl rfl rfl (Nat.le_of_ble_eq_true rfl) rfl ⟨(Nat.le_of_ble_eq_true rfl), (Nat.le_of_ble_eq_true rfl)⟩ (ct_X12_of hfl (hS.sub (Nat.le_of_ble_eq_true rfl) (Nat.le_of_ble_eq_true rfl)) h_r12) ?_
        refine pg_ishl dX12_reached_78 ?_
        refine pg_ior dX12_reached_79 ?_
        refine pg_ior dX12_reached_80 ?_
        obtain ⟨w13, e_w13⟩ : ∃ z : Int32, z = s.1 ||| ((1 <<< (r11.1 &&& 31)) ||| (1 <<< (r12.1 &&& 31))) := ⟨_, rfl⟩
        replace h := lt_at h e_w13
        refine eg_istore_n [some (.ref 128), some (.int v1), some (.int w13), some (.int v3), some (.int s.2.1)] w13 dX12_reached_81 e_w13 (Nat.le_of_ble_eq_true rfl) rfl ?_
        obtain ⟨w14, e_w14⟩ : ∃ z : Int32, z = s.2.1 + 1 := ⟨_, rfl⟩
        replace h := lt_at h e_w14
        refine eg_iinc [some (.ref 128), some (.int v1), some (.int w13), some (.int v3), some (.int w14)] w14 1 dX12_reached_82 rfl rfl e_w14 rfl ?_
        refine pg_goto 15 dX12_reached_85 (by decide) ?_
        obtain rfl := Option.some.inj h
        exact hN _ rfl
set_option maxRecDepth 20000 in
set_option maxHeartbeats 4000000 in
theorem lb_X12_reached_6 (hfl : g.1.stackTraces = false) (hS : pS 128 137 S) {v1 : Int32} {s : Int32 × Int32 × me} {r : (Int32 × Int32 × me) ⊕ (Int32 × Int32 × me)} (h : b_X12_reached_6 v1 s = some r) (hN : ∀ s', r = .inl s' → (fun z9 : Int32 × Int32 × me => pm_G g mX12_reached X 6 [some (.ref 128), some (.int v1), some (.int z9.1), some (.int z9.2.1), none] [] (en S z9.2.2) 0 0) s') (hT : ∀ t, r = .inr t → (fun z9 : Int32 × Int32 × me => pm_G g mX12_reached X 94 [some (.ref 128), some (.int v1), some (.int z9.1), some (.int z9.2.1), none] [] (en S z9.2.2) 0 0) t) : (fun z9 : Int32 × Int32 × me => pm_G g mX12_reached X 6 [some (.ref 128), some (.int v1), some (.int z9.1), some (.int z9.2.1), none] [] (en S z9.2.2) 0 0) s := by
  unfold b_X12_reached_6 at h
  show pm_G g mX12_reached X 6 [some (.ref 128), some (.int v1), some (.int s.1), some (.int s.2.1), none] [] (en S s.2.2) 0 0
  refine pg_iload_n dX12_reached_6 rfl ?_
  refine pg_bipush 8 dX12_reached_7 rfl ?_
  refine pg_icmp_ge 94 dX12_reached_9 (by decide) (fun c2 => ?_) (fun c2 => ?_)
  · rw [if_pos c2] at h
    obtain rfl := Option.some.inj h
    exact hT _ rfl
  · rw [if_neg c2] at h
    refine pg_iconst 0 dX12_reached_12 rfl ?_
    refine eg_istore [some (.ref 128), some (.int v1), some (.int s.1), some (.int s.2.1), some (.int 0)] 0 dX12_reached_13 rfl (Nat.le_of_ble_eq_true rfl) rfl ?_
    obtain ⟨s15, h_s15, h⟩ := bd_at h
    refine lo_at (b := b_X12_reached_15 v1 s.2.1) (G := (fun z9 : Int32 × Int32 × me => pm_G g mX12_reached X 15 [some (.ref 128), some (.int v1), some (.int z9.1), some (.int s.2.1), some (.int z9.2.1)] [] (en S z9.2.2) 0 0)) (T := (fun z9 : Int32 × Int32 × me => pm_G g mX12_reached X 88 [some (.ref 128), some (.int v1), some (.int z9.1), some (.int s.2.1), some (.int z9.2.1)] [] (en S z9.2.2) 0 0)) (fun q9 r9 h1 h2 h3 => lb_X12_reached_15 hfl hS h1 h2 h3) 2048 (s.1, 0, s.2.2) s15 h_s15 ?_
    show pm_G g mX12_reached X 88 [some (.ref 128), some (.int v1), some (.int s15.1), some (.int s.2.1), some (.int s15.2.1)] [] (en S s15.2.2) 0 0
    obtain ⟨w16, e_w16⟩ : ∃ z : Int32, z = s.2.1 + 1 := ⟨_, rfl⟩
    replace h := lt_at h e_w16
    refine eg_iinc [some (.ref 128), some (.int v1), some (.int s15.1), some (.int w16), some (.int s15.2.1)] w16 1 dX12_reached_88 rfl rfl e_w16 rfl ?_
    refine pg_goto 6 dX12_reached_91 (by decide) ?_
    obtain rfl := Option.some.inj h
    refine eg_forget [some (.ref 128), some (.int v1), some (.int s15.1), some (.int w16), none] (show pm_sub _ _ from ⟨rfl, ⟨rfl, ⟨rfl, ⟨rfl, trivial⟩⟩⟩⟩) ?_
    exact hN _ rfl
set_option maxRecDepth 20000 in
set_option maxHeartbeats 4000000 in
theorem ct_X12_reached (hfl : g.1.stackTraces = false) (hS : pS 128 137 S) {v1 : Int32} {m0 : me} {x : (Int32 × me)} (h : f_X12_reached v1 m0 = some x) : pm_Ct g mX12_reached [.ref 128, .int v1] (en S m0) 0 0 (qI S x) qF := by
  refine pm_of (by decide +kernel) rfl hfl (Nat.le_of_ble_eq_true rfl) (fun X hE => ?_)
  show pm_G g mX12_reached X 0 [some (.ref 128), some (.int v1), none, none, none] [] (en S m0) 0 0
  unfold f_X12_reached at h
  refine pg_iconst 1 dX12_reached_0 rfl ?_
  refine pg_iload_n dX12_reached_1 rfl ?_
  refine pg_ishl dX12_reached_2 ?_
  obtain ⟨w1, e_w1⟩ : ∃ z : Int32, z = 1 <<< (v1 &&& 31) := ⟨_, rfl⟩
  replace h := lt_at h e_w1
  refine eg_istore_n [some (.ref 128), some (.int v1), some (.int w1), none, none] w1 dX12_reached_3 e_w1 (Nat.le_of_ble_eq_true rfl) rfl ?_
  refine pg_iconst 0 dX12_reached_4 rfl ?_
  refine eg_istore_n [some (.ref 128), some (.int v1), some (.int w1), some (.int 0), none] 0 dX12_reached_5 rfl (Nat.le_of_ble_eq_true rfl) rfl ?_
  obtain ⟨s17, h_s17, h⟩ := bd_at h
  refine lo_at (b := b_X12_reached_6 v1) (G := (fun z9 : Int32 × Int32 × me => pm_G g mX12_reached X 6 [some (.ref 128), some (.int v1), some (.int z9.1), some (.int z9.2.1), none] [] (en S z9.2.2) 0 0)) (T := (fun z9 : Int32 × Int32 × me => pm_G g mX12_reached X 94 [some (.ref 128), some (.int v1), some (.int z9.1), some (.int z9.2.1), none] [] (en S z9.2.2) 0 0)) (fun q9 r9 h1 h2 h3 => lb_X12_reached_6 hfl hS h1 h2 h3) 2048 (w1, 0, m0) s17 h_s17 ?_
  show pm_G g mX12_reached X 94 [some (.ref 128), some (.int v1), some (.int s17.1), some (.int s17.2.1), none] [] (en S s17.2.2) 0 0
  refine pg_iload_n dX12_reached_94 rfl ?_
  obtain rfl := Option.some.inj h
  exact hE.2.1 _ _ _ _ _ _ .int dX12_reached_95 rfl rfl (Nat.zero_le _) (Nat.zero_le _) ⟨rfl, rfl⟩
def b_X12_ports_4 (s : Int32 × Int32 × me) : Option ((Int32 × Int32 × me) ⊕ (Int32 × Int32 × me)) :=
  if (2 * (s.2.2.1 129 5)) ≤ s.2.1 then
    some (.inr (s.1, s.2.1, s.2.2))
  else
    bd (f_X12_goesOn (s.2.1 / 2) (s.2.1 - s.2.1 / 2 * 2) s.2.2) (fun r2 =>
    if r2.1 = 0 then
      lt (s.2.1 + 1) (fun w4 =>
      some (.inl (s.1, w4, r2.2)))
    else
      lt (wI r2.2 129 7 ((r2.2.1 129 7) + 1)) (fun m5 =>
      bd (f_X12_of (s.2.1 / 2) (s.2.1 - s.2.1 / 2 * 2) m5) (fun r6 =>
      lt (s.1 ||| (1 <<< (r6.1 &&& 31))) (fun w7 =>
      lt (s.2.1 + 1) (fun w8 =>
      some (.inl (w7, w8, r6.2)))))))
def b_X12_ports_65 (v1 : Int32) (s : Int32 × Int32 × me) : Option ((Int32 × Int32 × me) ⊕ (Int32 × Int32 × me)) :=
  if (s.2.2.1 129 0) ≤ s.2.1 then
    some (.inr (s.1, s.2.1, s.2.2))
  else
    if ((v1 >>> (s.2.1 &&& 31)) &&& 1) = 1 then
      bd (f_X12_reached s.2.1 s.2.2) (fun r14 =>
      lt (s.1 ||| r14.1) (fun w15 =>
      lt (s.2.1 + 1) (fun w16 =>
      some (.inl (w15, w16, r14.2)))))
    else
      lt (s.1 ||| 0) (fun w12 =>
      lt (s.2.1 + 1) (fun w13 =>
      some (.inl (w12, w13, s.2.2))))
def b_X12_ports_104 (v1 : Int32) (v2 : Int32) (s : Int32 × me) : Option ((Int32 × me) ⊕ (Int32 × me)) :=
  if (s.2.1 129 0) ≤ s.1 then
    some (.inr (s.1, s.2))
  else
    if ((v2 >>> (s.1 &&& 31)) &&& 1) = 1 then
      bd (f_X12_flushes s.1 s.2) (fun r21 =>
      lt (s.1 + 1) (fun w22 =>
      some (.inl (w22, r21))))
    else
      lt (s.1 + 1) (fun w20 =>
      some (.inl (w20, s.2)))
def f_X12_ports (m0 : me) : Option me :=
  bd (lo (b_X12_ports_4) 2048 (0, 0, m0)) (fun s9 =>
  bd (lo (b_X12_ports_65 s9.1) 2048 (0, 0, s9.2.2)) (fun s17 =>
  bd (lo (b_X12_ports_104 s9.1 s17.1) 2048 (0, s17.2.2)) (fun s23 =>
  some (s23.2))))
set_option maxRecDepth 20000 in
set_option maxHeartbeats 4000000 in
theorem lb_X12_ports_4 (hfl : g.1.stackTraces = false) (hS : pS 128 137 S) {s : Int32 × Int32 × me} {r : (Int32 × Int32 × me) ⊕ (Int32 × Int32 × me)} (h : b_X12_ports_4 s = some r) (hN : ∀ s', r = .inl s' → (fun z9 : Int32 × Int32 × me => pm_G g mX12_ports X 4 [some (.ref 128), some (.int z9.1), some (.int z9.2.1), none] [] (en S z9.2.2) 0 0) s') (hT : ∀ t, r = .inr t → (fun z9 : Int32 × Int32 × me => pm_G g mX12_ports X 61 [some (.ref 128), some (.int z9.1), some (.int z9.2.1), none] [] (en S z9.2.2) 0 0) t) : (fun z9 : Int32 × Int32 × me => pm_G g mX12_ports X 4 [some (.ref 128), some (.int z9.1), some (.int z9.2.1), none] [] (en S z9.2.2) 0 0) s := by
  unfold b_X12_ports_4 at h
  show pm_G g mX12_ports X 4 [some (.ref 128), some (.int s.1), some (.int s.2.1), none] [] (en S s.2.2) 0 0
  refine pg_iload_n dX12_ports_4 rfl ?_
  refine pg_iconst 2 dX12_ports_5 rfl ?_
  refine pg_aload_n dX12_ports_6 rfl ?_
  refine eg_get dX12_ports_7 fa_X12_7 hS sp128 (Nat.le_of_ble_eq_true rfl) (Nat.le_of_ble_eq_true rfl) rfl rfl ?_
  refine pg_iconst 5 dX12_ports_10 rfl ?_
  refine eg_ialdJ 5 dX12_ports_11 hS sp129 (Nat.le_of_ble_eq_true rfl) (Nat.le_of_ble_eq_true rfl) rfl (inR_vp rfl) rfl ?_
  refine pg_imul dX12_ports_12 ?_
  refine pg_icmp_ge 61 dX12_ports_13 (by decide) (fun c1 => ?_) (fun c1 => ?_)
  · rw [if_pos c1] at h
    obtain rfl := Option.some.inj h
    exact hT _ rfl
  · rw [if_neg c1] at h
    refine pg_aload_n dX12_ports_16 rfl ?_
    refine pg_iload_n dX12_ports_17 rfl ?_
    refine pg_iconst 2 dX12_ports_18 rfl ?_
    refine pg_idiv dX12_ports_19 (by decide) ?_
    refine pg_iload_n dX12_ports_20 rfl ?_
    refine pg_iconst 2 dX12_ports_21 rfl ?_
    refine pg_irem dX12_ports_22 (by decide) ?_
    obtain ⟨r2, h_r2, h⟩ := bd_at h
    refine eg_cVi (C := mX12_goesOn) (as := [(.int (s.2.1 / 2)), (.int (s.2.1 - s.2.1 / 2 * 2))]) dX12_ports_23 mw947 cv_X12_goesOn hS sp128 (Nat.le_of_ble_eq_true rfl) (Nat.le_of_ble_eq_true rfl) rfl rfl rfl (Nat.le_of_ble_eq_true rfl) rfl ⟨(Nat.le_of_ble_eq_true rfl), (Nat.le_of_ble_eq_true rfl)⟩ (ct_X12_goesOn hfl (hS.sub (Nat.le_of_ble_eq_true rfl) (Nat.le_of_ble_eq_true rfl)) h_r2) ?_
    refine pg_if_eq 55 dX12_ports_26 (by decide) (fun c3 => ?_) (fun c3 => ?_)
    · rw [if_pos c3] at h
      obtain ⟨w4, e_w4⟩ : ∃ z : Int32, z = s.2.1 + 1 := ⟨_, rfl⟩
      replace h := lt_at h e_w4
      refine eg_iinc [some (.ref 128), some (.int s.1), some (.int w4), none] w4 1 dX12_ports_55 rfl rfl e_w4 rfl ?_
      refine pg_goto 4 dX12_ports_58 (by decide) ?_
      obtain rfl := Option.some.inj h
      exact hN _ rfl
    · rw [if_neg c3] at h
      refine pg_aload_n dX12_ports_29 rfl ?_
      refine eg_get dX12_ports_30 fa_X12_7 hS sp128 (Nat.le_of_ble_eq_true rfl) (Nat.le_of_ble_eq_true rfl) rfl rfl ?_
      refine pg_bipush 7 dX12_ports_33 rfl ?_
      refine pg_dup2 dX12_ports_35 rfl rfl ?_
      refine eg_ialdJ 7 dX12_ports_36 hS sp129 (Nat.le_of_ble_eq_true rfl) (Nat.le_of_ble_eq_true rfl) rfl (inR_vp rfl) rfl ?_
      refine pg_iconst 1 dX12_ports_37 rfl ?_
      refine pg_iadd dX12_ports_38 ?_
      refine eg_iastJ 7 dX12_ports_39 hS sp129 (Nat.le_of_ble_eq_true rfl) (Nat.le_of_ble_eq_true rfl) (fun _ _ _ => rfl) (inR_vp rfl) rfl (fun m5 e_m5 => ?_)
      replace h := lt_at h e_m5
      refine pg_iload_n dX12_ports_40 rfl ?_
      refine pg_iconst 1 dX12_ports_41 rfl ?_
      refine pg_aload_n dX12_ports_42 rfl ?_
      refine pg_iload_n dX12_ports_43 rfl ?_
      refine pg_iconst 2 dX12_ports_44 rfl ?_
      refine pg_idiv dX12_ports_45 (by decide) ?_
      refine pg_iload_n dX12_ports_46 rfl ?_
      refine pg_iconst 2 dX12_ports_47 rfl ?_
      refine pg_irem dX12_ports_48 (by decide) ?_
      obtain ⟨r6, h_r6, h⟩ := bd_at h
      refine eg_cVi (C := mX12_of) (as := [(.int (s.2.1 / 2)), (.int (s.2.1 - s.2.1 / 2 * 2))]) dX12_ports_49 mw863 cv_X12_of hS sp128 (Nat.le_of_ble_eq_true rfl) (Nat.le_of_ble_eq_true rfl) rfl rfl rfl (Nat.le_of_ble_eq_true rfl) rfl ⟨(Nat.le_of_ble_eq_true rfl), (Nat.le_of_ble_eq_true rfl)⟩ (ct_X12_of hfl (hS.sub (Nat.le_of_ble_eq_true rfl) (Nat.le_of_ble_eq_true rfl)) h_r6) ?_
      refine pg_ishl dX12_ports_52 ?_
      refine pg_ior dX12_ports_53 ?_
      obtain ⟨w7, e_w7⟩ : ∃ z : Int32, z = s.1 ||| (1 <<< (r6.1 &&& 31)) := ⟨_, rfl⟩
      replace h := lt_at h e_w7
      refine eg_istore_n [some (.ref 128), some (.int w7), some (.int s.2.1), none] w7 dX12_ports_54 e_w7 (Nat.le_of_ble_eq_true rfl) rfl ?_
      obtain ⟨w8, e_w8⟩ : ∃ z : Int32, z = s.2.1 + 1 := ⟨_, rfl⟩
      replace h := lt_at h e_w8
      refine eg_iinc [some (.ref 128), some (.int w7), some (.int w8), none] w8 1 dX12_ports_55 rfl rfl e_w8 rfl ?_
      refine pg_goto 4 dX12_ports_58 (by decide) ?_
      obtain rfl := Option.some.inj h
      exact hN _ rfl
set_option maxRecDepth 20000 in
set_option maxHeartbeats 4000000 in
theorem lb_X12_ports_65 (hfl : g.1.stackTraces = false) (hS : pS 128 137 S) {v1 : Int32} {s : Int32 × Int32 × me} {r : (Int32 × Int32 × me) ⊕ (Int32 × Int32 × me)} (h : b_X12_ports_65 v1 s = some r) (hN : ∀ s', r = .inl s' → (fun z9 : Int32 × Int32 × me => pm_G g mX12_ports X 65 [some (.ref 128), some (.int v1), some (.int z9.1), some (.int z9.2.1)] [] (en S z9.2.2) 0 0) s') (hT : ∀ t, r = .inr t → (fun z9 : Int32 × Int32 × me => pm_G g mX12_ports X 102 [some (.ref 128), some (.int v1), some (.int z9.1), some (.int z9.2.1)] [] (en S z9.2.2) 0 0) t) : (fun z9 : Int32 × Int32 × me => pm_G g mX12_ports X 65 [some (.ref 128), some (.int v1), some (.int z9.1), some (.int z9.2.1)] [] (en S z9.2.2) 0 0) s := by
  unfold b_X12_ports_65 at h
  show pm_G g mX12_ports X 65 [some (.ref 128), some (.int v1), some (.int s.1), some (.int s.2.1)] [] (en S s.2.2) 0 0
  refine pg_iload_n dX12_ports_65 rfl ?_
  refine pg_aload_n dX12_ports_66 rfl ?_
  refine eg_get dX12_ports_67 fa_X12_7 hS sp128 (Nat.le_of_ble_eq_true rfl) (Nat.le_of_ble_eq_true rfl) rfl rfl ?_
  refine pg_iconst 0 dX12_ports_70 rfl ?_
  refine eg_ialdJ 0 dX12_ports_71 hS sp129 (Nat.le_of_ble_eq_true rfl) (Nat.le_of_ble_eq_true rfl) rfl (inR_vp rfl) rfl ?_
  refine pg_icmp_ge 102 dX12_ports_72 (by decide) (fun c10 => ?_) (fun c10 => ?_)
  · rw [if_pos c10] at h
    obtain rfl := Option.some.inj h
    exact hT _ rfl
  · rw [if_neg c10] at h
    refine pg_iload_n dX12_ports_75 rfl ?_
    refine pg_iload_n dX12_ports_76 rfl ?_
    refine pg_iload_n dX12_ports_77 rfl ?_
    refine pg_ishr dX12_ports_78 ?_
    refine pg_iconst 1 dX12_ports_79 rfl ?_
    refine pg_iand dX12_ports_80 ?_
    refine pg_iconst 1 dX12_ports_81 rfl ?_
    refine pg_icmp_ne 93 dX12_ports_82 (by decide) (fun c11 => ?_) (fun c11 => ?_)
    · rw [if_neg c11] at h
      refine pg_iconst 0 dX12_ports_93 rfl ?_
      refine pg_ior dX12_ports_94 ?_
      obtain ⟨w12, e_w12⟩ : ∃ z : Int32, z = s.1 ||| 0 := ⟨_, rfl⟩
      replace h := lt_at h e_w12
      refine eg_istore_n [some (.ref 128), some (.int v1), some (.int w12), some (.int s.2.1)] w12 dX12_ports_95 e_w12 (Nat.le_of_ble_eq_true rfl) rfl ?_
      obtain ⟨w13, e_w13⟩ : ∃ z : Int32, z = s.2.1 + 1 := ⟨_, rfl⟩
      replace h := lt_at h e_w13
      refine eg_iinc [some (.ref 128), some (.int v1), some (.int w12), some (.int w13)] w13 1 dX12_ports_96 rfl rfl e_w13 rfl ?_
      refine pg_goto 65 dX12_ports_99 (by decide) ?_
      obtain rfl := Option.some.inj h
      exact hN _ rfl
    · rw [if_pos c11] at h
      refine pg_aload_n dX12_ports_85 rfl ?_
      refine pg_iload_n dX12_ports_86 rfl ?_
      obtain ⟨r14, h_r14, h⟩ := bd_at h
      refine eg_cVi (C := mX12_reached) (as := [(.int s.2.1)]) dX12_ports_87 mw952 cv_X12_reached hS sp128 (Nat.le_of_ble_eq_true rfl) (Nat.le_of_ble_eq_true rfl) rfl rfl rfl (Nat.le_of_ble_eq_true rfl) rfl ⟨(Nat.le_of_ble_eq_true rfl), (Nat.le_of_ble_eq_true rfl)⟩ (ct_X12_reached hfl (hS.sub (Nat.le_of_ble_eq_true rfl) (Nat.le_of_ble_eq_true rfl)) h_r14) ?_
      refine pg_goto 94 dX12_ports_90 (by decide) ?_
      refine pg_ior dX12_ports_94 ?_
      obtain ⟨w15, e_w15⟩ : ∃ z : Int32, z = s.1 ||| r14.1 := ⟨_, rfl⟩
      replace h := lt_at h e_w15
      refine eg_istore_n [some (.ref 128), some (.int v1), some (.int w15), some (.int s.2.1)] w15 dX12_ports_95 e_w15 (Nat.le_of_ble_eq_true rfl) rfl ?_
      obtain ⟨w16, e_w16⟩ : ∃ z : Int32, z = s.2.1 + 1 := ⟨_, rfl⟩
      replace h := lt_at h e_w16
      refine eg_iinc [some (.ref 128), some (.int v1), some (.int w15), some (.int w16)] w16 1 dX12_ports_96 rfl rfl e_w16 rfl ?_
      refine pg_goto 65 dX12_ports_99 (by decide) ?_
      obtain rfl := Option.some.inj h
      exact hN _ rfl
set_option maxRecDepth 20000 in
set_option maxHeartbeats 4000000 in
theorem lb_X12_ports_104 (hfl : g.1.stackTraces = false) (hS : pS 128 137 S) {v1 : Int32} {v2 : Int32} {s : Int32 × me} {r : (Int32 × me) ⊕ (Int32 × me)} (h : b_X12_ports_104 v1 v2 s = some r) (hN : ∀ s', r = .inl s' → (fun z9 : Int32 × me => pm_G g mX12_ports X 104 [some (.ref 128), some (.int v1), some (.int v2), some (.int z9.1)] [] (en S z9.2) 0 0) s') (hT : ∀ t, r = .inr t → (fun z9 : Int32 × me => pm_G g mX12_ports X 134 [some (.ref 128), some (.int v1), some (.int v2), some (.int z9.1)] [] (en S z9.2) 0 0) t) : (fun z9 : Int32 × me => pm_G g mX12_ports X 104 [some (.ref 128), some (.int v1), some (.int v2), some (.int z9.1)] [] (en S z9.2) 0 0) s := by
  unfold b_X12_ports_104 at h
  show pm_G g mX12_ports X 104 [some (.ref 128), some (.int v1), some (.int v2), some (.int s.1)] [] (en S s.2) 0 0
  refine pg_iload_n dX12_ports_104 rfl ?_
  refine pg_aload_n dX12_ports_105 rfl ?_
  refine eg_get dX12_ports_106 fa_X12_7 hS sp128 (Nat.le_of_ble_eq_true rfl) (Nat.le_of_ble_eq_true rfl) rfl rfl ?_
  refine pg_iconst 0 dX12_ports_109 rfl ?_
  refine eg_ialdJ 0 dX12_ports_110 hS sp129 (Nat.le_of_ble_eq_true rfl) (Nat.le_of_ble_eq_true rfl) rfl (inR_vp rfl) rfl ?_
  refine pg_icmp_ge 134 dX12_ports_111 (by decide) (fun c18 => ?_) (fun c18 => ?_)
  · rw [if_pos c18] at h
    obtain rfl := Option.some.inj h
    exact hT _ rfl
  · rw [if_neg c18] at h
    refine pg_iload_n dX12_ports_114 rfl ?_
    refine pg_iload_n dX12_ports_115 rfl ?_
    refine pg_ishr dX12_ports_116 ?_
    refine pg_iconst 1 dX12_ports_117 rfl ?_
    refine pg_iand dX12_ports_118 ?_
    refine pg_iconst 1 dX12_ports_119 rfl ?_
    refine pg_icmp_ne 128 dX12_ports_120 (by decide) (fun c19 => ?_) (fun c19 => ?_)
    · rw [if_neg c19] at h
      obtain ⟨w20, e_w20⟩ : ∃ z : Int32, z = s.1 + 1 := ⟨_, rfl⟩
      replace h := lt_at h e_w20
      refine eg_iinc [some (.ref 128), some (.int v1), some (.int v2), some (.int w20)] w20 1 dX12_ports_128 rfl rfl e_w20 rfl ?_
      refine pg_goto 104 dX12_ports_131 (by decide) ?_
      obtain rfl := Option.some.inj h
      exact hN _ rfl
    · rw [if_pos c19] at h
      refine pg_aload_n dX12_ports_123 rfl ?_
      refine pg_iload_n dX12_ports_124 rfl ?_
      obtain ⟨r21, h_r21, h⟩ := bd_at h
      refine eg_cVv (C := mX12_flushes) (as := [(.int s.1)]) dX12_ports_125 mw795 cv_X12_flushes hS sp128 (Nat.le_of_ble_eq_true rfl) (Nat.le_of_ble_eq_true rfl) rfl rfl rfl (Nat.le_of_ble_eq_true rfl) rfl ⟨(Nat.le_of_ble_eq_true rfl), (Nat.le_of_ble_eq_true rfl)⟩ (ct_X12_flushes hfl (hS.sub (Nat.le_of_ble_eq_true rfl) (Nat.le_of_ble_eq_true rfl)) h_r21) ?_
      obtain ⟨w22, e_w22⟩ : ∃ z : Int32, z = s.1 + 1 := ⟨_, rfl⟩
      replace h := lt_at h e_w22
      refine eg_iinc [some (.ref 128), some (.int v1), some (.int v2), some (.int w22)] w22 1 dX12_ports_128 rfl rfl e_w22 rfl ?_
      refine pg_goto 104 dX12_ports_131 (by decide) ?_
      obtain rfl := Option.some.inj h
      exact hN _ rfl
set_option maxRecDepth 20000 in
set_option maxHeartbeats 4000000 in
theorem ct_X12_ports (hfl : g.1.stackTraces = false) (hS : pS 128 137 S) {m0 : me} {x : me} (h : f_X12_ports m0 = some x) : pm_Ct g mX12_ports [.ref 128] (en S m0) 0 0 (qV S x) qF := by
  refine pm_of (by decide +kernel) rfl hfl (Nat.le_of_ble_eq_true rfl) (fun X hE => ?_)
  show pm_G g mX12_ports X 0 [some (.ref 128), none, none, none] [] (en S m0) 0 0
  unfold f_X12_ports at h
  refine pg_iconst 0 dX12_ports_0 rfl ?_
  refine eg_istore_n [some (.ref 128), some (.int 0), none, none] 0 dX12_ports_1 rfl (Nat.le_of_ble_eq_true rfl) rfl ?_
  refine pg_iconst 0 dX12_ports_2 rfl ?_
  refine eg_istore_n [some (.ref 128), some (.int 0), some (.int 0), none] 0 dX12_ports_3 rfl (Nat.le_of_ble_eq_true rfl) rfl ?_
  obtain ⟨s9, h_s9, h⟩ := bd_at h
  refine lo_at (b := b_X12_ports_4) (G := (fun z9 : Int32 × Int32 × me => pm_G g mX12_ports X 4 [some (.ref 128), some (.int z9.1), some (.int z9.2.1), none] [] (en S z9.2.2) 0 0)) (T := (fun z9 : Int32 × Int32 × me => pm_G g mX12_ports X 61 [some (.ref 128), some (.int z9.1), some (.int z9.2.1), none] [] (en S z9.2.2) 0 0)) (fun q9 r9 h1 h2 h3 => lb_X12_ports_4 hfl hS h1 h2 h3) 2048 (0, 0, m0) s9 h_s9 ?_
  show pm_G g mX12_ports X 61 [some (.ref 128), some (.int s9.1), some (.int s9.2.1), none] [] (en S s9.2.2) 0 0
  refine pg_iconst 0 dX12_ports_61 rfl ?_
  refine eg_istore_n [some (.ref 128), some (.int s9.1), some (.int 0), none] 0 dX12_ports_62 rfl (Nat.le_of_ble_eq_true rfl) rfl ?_
  refine pg_iconst 0 dX12_ports_63 rfl ?_
  refine eg_istore_n [some (.ref 128), some (.int s9.1), some (.int 0), some (.int 0)] 0 dX12_ports_64 rfl (Nat.le_of_ble_eq_true rfl) rfl ?_
  obtain ⟨s17, h_s17, h⟩ := bd_at h
  refine lo_at (b := b_X12_ports_65 s9.1) (G := (fun z9 : Int32 × Int32 × me => pm_G g mX12_ports X 65 [some (.ref 128), some (.int s9.1), some (.int z9.1), some (.int z9.2.1)] [] (en S z9.2.2) 0 0)) (T := (fun z9 : Int32 × Int32 × me => pm_G g mX12_ports X 102 [some (.ref 128), some (.int s9.1), some (.int z9.1), some (.int z9.2.1)] [] (en S z9.2.2) 0 0)) (fun q9 r9 h1 h2 h3 => lb_X12_ports_65 hfl hS h1 h2 h3) 2048 (0, 0, s9.2.2) s17 h_s17 ?_
  show pm_G g mX12_ports X 102 [some (.ref 128), some (.int s9.1), some (.int s17.1), some (.int s17.2.1)] [] (en S s17.2.2) 0 0
  refine pg_iconst 0 dX12_ports_102 rfl ?_
  refine eg_istore_n [some (.ref 128), some (.int s9.1), some (.int s17.1), some (.int 0)] 0 dX12_ports_103 rfl (Nat.le_of_ble_eq_true rfl) rfl ?_
  obtain ⟨s23, h_s23, h⟩ := bd_at h
  refine lo_at (b := b_X12_ports_104 s9.1 s17.1) (G := (fun z9 : Int32 × me => pm_G g mX12_ports X 104 [some (.ref 128), some (.int s9.1), some (.int s17.1), some (.int z9.1)] [] (en S z9.2) 0 0)) (T := (fun z9 : Int32 × me => pm_G g mX12_ports X 134 [some (.ref 128), some (.int s9.1), some (.int s17.1), some (.int z9.1)] [] (en S z9.2) 0 0)) (fun q9 r9 h1 h2 h3 => lb_X12_ports_104 hfl hS h1 h2 h3) 2048 (0, s17.2.2) s23 h_s23 ?_
  show pm_G g mX12_ports X 134 [some (.ref 128), some (.int s9.1), some (.int s17.1), some (.int s23.1)] [] (en S s23.2) 0 0
  obtain rfl := Option.some.inj h
  exact hE.2.2.1 _ _ _ _ _ dX12_ports_134 rfl (Nat.zero_le _) (Nat.zero_le _) ⟨rfl, rfl⟩
def f_X12_counts (v1 : Int32) (v2 : Int32) (m0 : me) : Option (Int32 × me) :=
  bd (f_X12_of v2 (14 + v1) m0) (fun r1 =>
  if r1.1 ≤ 0 then
    some ((0, r1.2))
  else
    gd (inR (187 + (3 * v1)) 487) (
    if (r1.2.1 129 ((187 + (3 * v1)).toNatClampNeg)) < r1.1 then
      some ((0, r1.2))
    else
      some ((1, r1.2))))
set_option maxRecDepth 20000 in
set_option maxHeartbeats 4000000 in
theorem ct_X12_counts (hfl : g.1.stackTraces = false) (hS : pS 128 137 S) {v1 : Int32} {v2 : Int32} {m0 : me} {x : (Int32 × me)} (h : f_X12_counts v1 v2 m0 = some x) : pm_Ct g mX12_counts [.ref 128, .int v1, .int v2] (en S m0) 0 0 (qI S x) qF := by
  refine pm_of (by decide +kernel) rfl hfl (Nat.le_of_ble_eq_true rfl) (fun X hE => ?_)
  show pm_G g mX12_counts X 0 [some (.ref 128), some (.int v1), some (.int v2), none] [] (en S m0) 0 0
  unfold f_X12_counts at h
  refine pg_aload_n dX12_counts_0 rfl ?_
  refine pg_iload_n dX12_counts_1 rfl ?_
  refine pg_bipush 14 dX12_counts_2 rfl ?_
  refine pg_iload_n dX12_counts_4 rfl ?_
  refine pg_iadd dX12_counts_5 ?_
  obtain ⟨r1, h_r1, h⟩ := bd_at h
  refine eg_cVi (C := mX12_of) (as := [(.int v2), (.int (14 + v1))]) dX12_counts_6 mw863 cv_X12_of hS sp128 (Nat.le_of_ble_eq_true rfl) (Nat.le_of_ble_eq_true rfl) rfl rfl rfl (Nat.le_of_ble_eq_true rfl) rfl ⟨(Nat.le_of_ble_eq_true rfl), (Nat.le_of_ble_eq_true rfl)⟩ (ct_X12_of hfl (hS.sub (Nat.le_of_ble_eq_true rfl) (Nat.le_of_ble_eq_true rfl)) h_r1) ?_
  refine eg_istore_n [some (.ref 128), some (.int v1), some (.int v2), some (.int r1.1)] r1.1 dX12_counts_9 rfl (Nat.le_of_ble_eq_true rfl) rfl ?_
  refine pg_iload_n dX12_counts_10 rfl ?_
  refine pg_if_le 34 dX12_counts_11 (by decide) (fun c2 => ?_) (fun c2 => ?_)
  · rw [if_pos c2] at h
    refine pg_iconst 0 dX12_counts_34 rfl ?_
    obtain rfl := Option.some.inj h
    exact hE.2.1 _ _ _ _ _ _ .boolean dX12_counts_35 rfl rfl (Nat.zero_le _) (Nat.zero_le _) ⟨rfl, rfl⟩
  · rw [if_neg c2] at h
    refine pg_iload_n dX12_counts_14 rfl ?_
    refine pg_aload_n dX12_counts_15 rfl ?_
    refine eg_get dX12_counts_16 fa_X12_7 hS sp128 (Nat.le_of_ble_eq_true rfl) (Nat.le_of_ble_eq_true rfl) rfl rfl ?_
    refine pg_sipush 187 dX12_counts_19 rfl ?_
    refine pg_iconst 3 dX12_counts_22 rfl ?_
    refine pg_iload_n dX12_counts_23 rfl ?_
    refine pg_imul dX12_counts_24 ?_
    refine pg_iadd dX12_counts_25 ?_
    obtain ⟨g1, h⟩ := gd_at h
    refine eg_ialdJ ((187 + (3 * v1)).toNatClampNeg) dX12_counts_26 hS sp129 (Nat.le_of_ble_eq_true rfl) (Nat.le_of_ble_eq_true rfl) rfl (inR_vp g1) rfl ?_
    refine pg_icmp_gt 34 dX12_counts_27 (by decide) (fun c3 => ?_) (fun c3 => ?_)
    · rw [if_pos c3] at h
      refine pg_iconst 0 dX12_counts_34 rfl ?_
      obtain rfl := Option.some.inj h
      exact hE.2.1 _ _ _ _ _ _ .boolean dX12_counts_35 rfl rfl (Nat.zero_le _) (Nat.zero_le _) ⟨rfl, rfl⟩
    · rw [if_neg c3] at h
      refine pg_iconst 1 dX12_counts_30 rfl ?_
      refine pg_goto 35 dX12_counts_31 (by decide) ?_
      obtain rfl := Option.some.inj h
      exact hE.2.1 _ _ _ _ _ _ .boolean dX12_counts_35 rfl rfl (Nat.zero_le _) (Nat.zero_le _) ⟨rfl, rfl⟩
end
