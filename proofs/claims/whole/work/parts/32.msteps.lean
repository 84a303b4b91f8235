-- ===== steps on the model's ships =====
theorem nq_0 (B : Nat) : nI B + 0 = nI (B + 0) := nI_add B 0
theorem nq_1 (B : Nat) : nI B + 1 = nI (B + 1) := nI_add B 1
theorem nq_2 (B : Nat) : nI B + 2 = nI (B + 2) := nI_add B 2
theorem nq_3 (B : Nat) : nI B + 3 = nI (B + 3) := nI_add B 3
theorem nq_4 (B : Nat) : nI B + 4 = nI (B + 4) := nI_add B 4
theorem nq_5 (B : Nat) : nI B + 5 = nI (B + 5) := nI_add B 5
theorem nq_6 (B : Nat) : nI B + 6 = nI (B + 6) := nI_add B 6
theorem nq_12 (B : Nat) : nI B + 12 = nI (B + 12) := nI_add B 12
section EMD
variable {X : Nat → Nat × (Nat → Int32)} {Cl : Nat → List Value → ps_M → Option Value → ps_M → Prop} {j : Nat} {K : ps_F → Prop} {pc : Nat} {v : Int32} {w : Int64} {nx b : Nat} {lv : List (Nat × Value)} {st : List Value} {μ : ps_M} {m B : Nat} {σ : Nat → Int32}
theorem m_leak (hm : isMd μ m) (h0 : ps_ins j pc = some (45, v, w, nx, b)) (h2 : ps_f2 b 7 = some (3, 0)) (h3 : ps_To X Cl j K (nx, lv, .int (σ 1) :: st, MS μ m B σ)) : ps_To X Cl j K (pc, lv, .ref m :: st, MS μ m B σ) := e_gi h0 hm.1 h2 (by decide) (by rw [MS_leak]; exact h3)
theorem m_land (hm : isMd μ m) (h0 : ps_ins j pc = some (45, v, w, nx, b)) (h2 : ps_f2 b 7 = some (4, 0)) (h3 : ps_To X Cl j K (nx, lv, .int (σ 4) :: st, MS μ m B σ)) : ps_To X Cl j K (pc, lv, .ref m :: st, MS μ m B σ) := e_gi h0 hm.1 h2 (by decide) (by rw [MS_land]; exact h3)
theorem m_gangs (hm : isMd μ m) (h0 : ps_ins j pc = some (45, v, w, nx, b)) (h2 : ps_f2 b 7 = some (1, 0)) (h3 : ps_To X Cl j K (nx, lv, .int (σ 8) :: st, MS μ m B σ)) : ps_To X Cl j K (pc, lv, .ref m :: st, MS μ m B σ) := e_gi h0 hm.1 h2 (by decide) (by rw [MS_gangs]; exact h3)
theorem m_row (hm : isMd μ m) (h0 : ps_ins j pc = some (45, v, w, nx, b)) (h2 : ps_f2 b 7 = some (0, 2)) (h3 : ps_To X Cl j K (nx, lv, .ref (m + 1) :: st, MS μ m B σ)) : ps_To X Cl j K (pc, lv, .ref m :: st, MS μ m B σ) := e_gr h0 hm.1 h2 hm.2.2.2.2.2.2.2.2.2.1 h3
theorem m_kinds (hm : isMd μ m) (h0 : ps_ins j pc = some (45, v, w, nx, b)) (h2 : ps_f2 b 7 = some (2, 2)) (h3 : ps_To X Cl j K (nx, lv, .ref (m + 2) :: st, MS μ m B σ)) : ps_To X Cl j K (pc, lv, .ref m :: st, MS μ m B σ) := e_gr h0 hm.1 h2 hm.2.2.2.2.2.2.2.2.2.2.1 h3
theorem m_ald {i : Int32} {k x : Nat} (hm : isMd μ m) (hB : B ≤ 1832) (hi : i = nI (B + k)) (hk : k < 18) (hx : mdX k = x) (h0 : ps_ins j pc = some (48, v, w, nx, b)) (h3 : ps_To X Cl j K (nx, lv, .int (σ x) :: st, MS μ m B σ)) : ps_To X Cl j K (pc, lv, .int i :: .ref (m + 1) :: st, MS μ m B σ) := by
  subst hi
  subst hx
  refine e_48 h0 hm.2.1 (vp_in_nI (by omega) (by decide)) ?_
  rw [nI_clamp (by omega), MS_row hk]
  exact h3
theorem m_ast {i y : Int32} {k x : Nat} (hm : isMd μ m) (hB : B ≤ 1832) (hi : i = nI (B + k)) (hk : k < 18) (hx : mdX k = x) (h0 : ps_ins j pc = some (49, v, w, nx, b)) (h3 : ps_To X Cl j K (nx, lv, st, MS μ m B (upd σ x y))) : ps_To X Cl j K (pc, lv, .int y :: .int i :: .ref (m + 1) :: st, MS μ m B σ) := by
  subst hi
  subst hx
  refine e_49 h0 hm.2.1 (vp_in_nI (by omega) (by decide)) ?_
  rw [nI_clamp (by omega), MS_prow hk]
  exact h3
theorem m_kld {i : Nat} (hm : isMd μ m) (hi : i < 6) (h0 : ps_ins j pc = some (48, v, w, nx, b)) (h3 : ps_To X Cl j K (nx, lv, .int (σ (9 + i)) :: st, MS μ m B σ)) : ps_To X Cl j K (pc, lv, .int (nI i) :: .ref (m + 2) :: st, MS μ m B σ) := by
  refine e_48 h0 hm.2.2.1 (vp_in_nI hi (by decide)) ?_
  rw [nI_clamp (by omega), MS_kind hi]
  exact h3
end EMD
