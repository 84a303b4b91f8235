-- ===== the constructor of the model =====
def cm_87 : ps_M := ps_nw cm_86 7 0 23
def cm_88 : ps_M := ps_nw cm_87 10 1850 1850
def cm_89 : ps_M := ps_sR cm_88 83 0 (some 84)
def cm_90 : ps_M := ps_nw cm_89 10 6 6
def cm_91 : ps_M := ps_sR cm_90 83 2 (some 85)
def cm_92 : ps_M := ps_nw cm_91 10 6 6
def cm_93 : ps_M := ps_sI cm_92 86 0 (-1)
def cm_94 : ps_M := ps_sI cm_93 86 1 (-1)
def cm_95 : ps_M := ps_sI cm_94 86 2 (-1)
def cm_96 : ps_M := ps_sI cm_95 86 3 (-1)
def cm_97 : ps_M := ps_sI cm_96 86 4 (-1)
def cm_98 : ps_M := ps_sI cm_97 86 5 (-1)
def cm_99 : ps_M := ps_sR cm_98 83 5 (some 86)
def cm_100 : ps_M := ps_nw cm_99 10 240 240
def cm_101 : ps_M := ps_sR cm_100 83 6 (some 87)
def cm_102 : ps_M := ps_nw cm_101 10 4 4
def cm_103 : ps_M := ps_sI cm_102 88 0 (-1)
def cm_104 : ps_M := ps_sI cm_103 88 1 (-1)
def cm_105 : ps_M := ps_sI cm_104 88 2 (-1)
def cm_106 : ps_M := ps_sI cm_105 88 3 (-1)
def cm_107 : ps_M := ps_sR cm_106 83 7 (some 88)
def cm_108 : ps_M := ps_nw cm_107 10 240 240
def cm_109 : ps_M := ps_sR cm_108 83 8 (some 89)
def cm_110 : ps_M := ps_sL cm_109 83 11 1
def cm_111 : ps_M := ps_nw cm_110 10 6 6
def cm_112 : ps_M := ps_sR cm_111 83 13 (some 90)
def cm_113 : ps_M := ps_nw cm_112 10 12 12
def cm_114 : ps_M := ps_sR cm_113 83 21 (some 91)
def cm_115 : ps_M := ps_sI cm_114 84 458 (-1)
def cm_116 : ps_M := ps_sI cm_115 84 916 (-1)
def cm_117 : ps_M := ps_sI cm_116 84 1374 (-1)
theorem c_X8 {X : Nat → Nat × (Nat → Int32)} {d : Nat} : ps_Ev X (d + 1) j_X8_init [.ref 83] cm_87 none cm_117 := by
  refine ⟨Nat.le_of_ble_eq_true rfl, ?_⟩
  refine e_4 rfl rfl ?_
  refine e_61 rfl (Nat.le_of_ble_eq_true rfl) ?_
  refine e_4 rfl rfl ?_
  refine e_0 rfl ?_
  refine n_58 (N := 1850) (kd := 10) (c := 84) (μ' := cm_88) rfl (by decide) (by decide) (by decide) (by decide) (by decide +kernel) rfl ?_
  refine n_pr (ci := 7) (z := 0) (sl := 0) (μ' := cm_89) rfl (by decide +kernel) rfl rfl ?_
  refine e_4 rfl rfl ?_
  refine e_0 rfl ?_
  refine n_58 (N := 6) (kd := 10) (c := 85) (μ' := cm_90) rfl (by decide) (by decide) (by decide) (by decide) (by decide +kernel) rfl ?_
  refine n_pr (ci := 7) (z := 0) (sl := 2) (μ' := cm_91) rfl (by decide +kernel) rfl rfl ?_
  refine e_4 rfl rfl ?_
  refine e_0 rfl ?_
  refine n_58 (N := 6) (kd := 10) (c := 86) (μ' := cm_92) rfl (by decide) (by decide) (by decide) (by decide) (by decide +kernel) rfl ?_
  refine e_28 rfl rfl ?_
  refine e_0 rfl ?_
  refine e_0 rfl ?_
  refine n_49 (n := 6) (q := 0) (μ' := cm_93) rfl (by decide +kernel) (by unfold vp_in; decide) (by decide) rfl ?_
  refine e_28 rfl rfl ?_
  refine e_0 rfl ?_
  refine e_0 rfl ?_
  refine n_49 (n := 6) (q := 1) (μ' := cm_94) rfl (by decide +kernel) (by unfold vp_in; decide) (by decide) rfl ?_
  refine e_28 rfl rfl ?_
  refine e_0 rfl ?_
  refine e_0 rfl ?_
  refine n_49 (n := 6) (q := 2) (μ' := cm_95) rfl (by decide +kernel) (by unfold vp_in; decide) (by decide) rfl ?_
  refine e_28 rfl rfl ?_
  refine e_0 rfl ?_
  refine e_0 rfl ?_
  refine n_49 (n := 6) (q := 3) (μ' := cm_96) rfl (by decide +kernel) (by unfold vp_in; decide) (by decide) rfl ?_
  refine e_28 rfl rfl ?_
  refine e_0 rfl ?_
  refine e_0 rfl ?_
  refine n_49 (n := 6) (q := 4) (μ' := cm_97) rfl (by decide +kernel) (by unfold vp_in; decide) (by decide) rfl ?_
  refine e_28 rfl rfl ?_
  refine e_0 rfl ?_
  refine e_0 rfl ?_
  refine n_49 (n := 6) (q := 5) (μ' := cm_98) rfl (by decide +kernel) (by unfold vp_in; decide) (by decide) rfl ?_
  refine n_pr (ci := 7) (z := 0) (sl := 5) (μ' := cm_99) rfl (by decide +kernel) rfl rfl ?_
  refine e_4 rfl rfl ?_
  refine e_0 rfl ?_
  refine n_58 (N := 240) (kd := 10) (c := 87) (μ' := cm_100) rfl (by decide) (by decide) (by decide) (by decide) (by decide +kernel) rfl ?_
  refine n_pr (ci := 7) (z := 0) (sl := 6) (μ' := cm_101) rfl (by decide +kernel) rfl rfl ?_
  refine e_4 rfl rfl ?_
  refine e_0 rfl ?_
  refine n_58 (N := 4) (kd := 10) (c := 88) (μ' := cm_102) rfl (by decide) (by decide) (by decide) (by decide) (by decide +kernel) rfl ?_
  refine e_28 rfl rfl ?_
  refine e_0 rfl ?_
  refine e_0 rfl ?_
  refine n_49 (n := 4) (q := 0) (μ' := cm_103) rfl (by decide +kernel) (by unfold vp_in; decide) (by decide) rfl ?_
  refine e_28 rfl rfl ?_
  refine e_0 rfl ?_
  refine e_0 rfl ?_
  refine n_49 (n := 4) (q := 1) (μ' := cm_104) rfl (by decide +kernel) (by unfold vp_in; decide) (by decide) rfl ?_
  refine e_28 rfl rfl ?_
  refine e_0 rfl ?_
  refine e_0 rfl ?_
  refine n_49 (n := 4) (q := 2) (μ' := cm_105) rfl (by decide +kernel) (by unfold vp_in; decide) (by decide) rfl ?_
  refine e_28 rfl rfl ?_
  refine e_0 rfl ?_
  refine e_0 rfl ?_
  refine n_49 (n := 4) (q := 3) (μ' := cm_106) rfl (by decide +kernel) (by unfold vp_in; decide) (by decide) rfl ?_
  refine n_pr (ci := 7) (z := 0) (sl := 7) (μ' := cm_107) rfl (by decide +kernel) rfl rfl ?_
  refine e_4 rfl rfl ?_
  refine e_0 rfl ?_
  refine n_58 (N := 240) (kd := 10) (c := 89) (μ' := cm_108) rfl (by decide) (by decide) (by decide) (by decide) (by decide +kernel) rfl ?_
  refine n_pr (ci := 7) (z := 0) (sl := 8) (μ' := cm_109) rfl (by decide +kernel) rfl rfl ?_
  refine e_4 rfl rfl ?_
  refine e_1 rfl ?_
  refine n_pl (ci := 7) (z := 0) (sl := 11) (μ' := cm_110) rfl (by decide +kernel) rfl rfl ?_
  refine e_4 rfl rfl ?_
  refine e_0 rfl ?_
  refine n_58 (N := 6) (kd := 10) (c := 90) (μ' := cm_111) rfl (by decide) (by decide) (by decide) (by decide) (by decide +kernel) rfl ?_
  refine n_pr (ci := 7) (z := 0) (sl := 13) (μ' := cm_112) rfl (by decide +kernel) rfl rfl ?_
  refine e_4 rfl rfl ?_
  refine e_0 rfl ?_
  refine n_58 (N := 12) (kd := 10) (c := 91) (μ' := cm_113) rfl (by decide) (by decide) (by decide) (by decide) (by decide +kernel) rfl ?_
  refine n_pr (ci := 7) (z := 0) (sl := 21) (μ' := cm_114) rfl (by decide +kernel) rfl rfl ?_
  refine e_0 rfl ?_
  refine e_5 rfl rfl ?_
  refine e_2 rfl rfl ?_
  refine e_0 rfl ?_
  refine e_39 rfl (fun h => absurd h (by decide)) (fun _ => ?_)
  refine e_4 rfl rfl ?_
  refine e_gr (ci := 7) (z := 0) (sl := 0) (q := 84) rfl (by decide +kernel) rfl (by decide +kernel) ?_
  refine e_0 rfl ?_
  refine e_2 rfl rfl ?_
  refine e_11 rfl ?_
  refine e_0 rfl ?_
  refine e_9 rfl ?_
  refine e_0 rfl ?_
  refine n_49 (n := 1850) (q := 458) (μ' := cm_115) rfl (by decide +kernel) (by unfold vp_in; decide) (by decide) rfl ?_
  refine e_8 rfl rfl rfl ?_
  refine e_42 rfl ?_
  refine e_2 rfl rfl ?_
  refine e_0 rfl ?_
  refine e_39 rfl (fun h => absurd h (by decide)) (fun _ => ?_)
  refine e_4 rfl rfl ?_
  refine e_gr (ci := 7) (z := 0) (sl := 0) (q := 84) rfl (by decide +kernel) rfl (by decide +kernel) ?_
  refine e_0 rfl ?_
  refine e_2 rfl rfl ?_
  refine e_11 rfl ?_
  refine e_0 rfl ?_
  refine e_9 rfl ?_
  refine e_0 rfl ?_
  refine n_49 (n := 1850) (q := 916) (μ' := cm_116) rfl (by decide +kernel) (by unfold vp_in; decide) (by decide) rfl ?_
  refine e_8 rfl rfl rfl ?_
  refine e_42 rfl ?_
  refine e_2 rfl rfl ?_
  refine e_0 rfl ?_
  refine e_39 rfl (fun h => absurd h (by decide)) (fun _ => ?_)
  refine e_4 rfl rfl ?_
  refine e_gr (ci := 7) (z := 0) (sl := 0) (q := 84) rfl (by decide +kernel) rfl (by decide +kernel) ?_
  refine e_0 rfl ?_
  refine e_2 rfl rfl ?_
  refine e_11 rfl ?_
  refine e_0 rfl ?_
  refine e_9 rfl ?_
  refine e_0 rfl ?_
  refine n_49 (n := 1850) (q := 1374) (μ' := cm_117) rfl (by decide +kernel) (by unfold vp_in; decide) (by decide) rfl ?_
  refine e_8 rfl rfl rfl ?_
  refine e_42 rfl ?_
  refine e_2 rfl rfl ?_
  refine e_0 rfl ?_
  refine e_39 rfl (fun _ => ?_) (fun h => absurd (by decide) h)
  exact e_rv rfl rfl
-- ===== at the start =====
theorem z_ps : isPs cm_117 := by
  refine ⟨by decide +kernel, by decide +kernel, by decide +kernel, by decide +kernel, by decide +kernel, by decide +kernel, by decide +kernel, ?_, by decide +kernel, by decide +kernel, by decide +kernel⟩
  intro b hb
  rcases hb with rfl | rfl | rfl | rfl | rfl | rfl | rfl | rfl | rfl | rfl | rfl <;> decide +kernel
theorem z_md : isMd cm_117 83 := by unfold isMd; decide +kernel
theorem z_c1 : (-1 : Int32).toNatClampNeg = 0 := by decide
theorem z_rw : Rw (ps_i cm_117) (ps_i cm_117) := by
  intro k hk
  have a : ∀ k, k < 6 → ps_i cm_117 (45 + 2 * k) 0 = -1 := by decide +kernel
  have b : ∀ k, k < 6 → ps_i cm_117 86 k = -1 := by decide +kernel
  rw [a k hk, b k hk, z_c1]
  exact ⟨rfl, Or.inl rfl, fun i hi => absurd hi (Nat.not_lt_zero i)⟩
theorem z_tx : Tx (ps_i cm_117) (ps_i cm_117) := by
  intro k hk
  have a : ∀ k, k < 4 → ps_i cm_117 (57 + 2 * k) 0 = -1 := by decide +kernel
  have b : ∀ k, k < 4 → ps_i cm_117 88 k = -1 := by decide +kernel
  rw [a k hk, b k hk, z_c1]
  exact ⟨rfl, Or.inl rfl, fun i hi => absurd hi (Nat.not_lt_zero i)⟩
theorem z_sp : SPr 0 (ps_i cm_117) (ps_i cm_117) 4 8 0 := by
  have a : ps_i cm_117 84 0 = 0 := by decide +kernel
  refine ⟨⟨⟨by decide, by decide +kernel, fun i hi => absurd hi (Nat.not_lt_zero i)⟩, fun i hi => absurd hi (Nat.not_lt_zero i), by decide +kernel, ⟨0, by decide, by decide +kernel⟩, by decide +kernel, ⟨0, 0, by decide, by decide, by decide +kernel, by decide +kernel⟩⟩, ⟨by decide +kernel, fun i hi => absurd hi (Nat.not_lt_zero i)⟩, ?_⟩
  rw [a]
  exact fun i hi => absurd hi (Nat.not_lt_zero i)
theorem z_kp : Kp 0 (ps_i cm_117) (ps_i cm_117) := by
  intro k hk
  have a : ∀ k, k < 3 → ps_i cm_117 84 (458 * (1 + k)) = -1 ∧ ps_i cm_117 (65 + 6 * k) 1 = 0 := by decide +kernel
  exact Or.inl (a k hk)
theorem z_sc : Sc (ps_i cm_117) (ps_i cm_117) := ⟨by decide +kernel, by decide +kernel, by decide +kernel⟩
theorem z_inv : Inv 5048 cm_117 := ⟨z_ps, z_md, by decide +kernel, by decide +kernel, ⟨0, z_rw, z_tx, z_sp, z_kp, z_sc⟩, by decide +kernel, by decide +kernel⟩
theorem lw_start {L : Nat} {xs : Nat → Int32} (hL : L ≤ 3072) : ps_To (ps_XX L xs) (ps_Ev (ps_XX L xs) 60) 237 ps_LK (0, [(0, .ref (ps_X + 4))], [], ps_mu0) := by
  refine n_60 (N := 14) (kd := 6) (c := 0) (μ' := cm_0) rfl (by decide) (by decide) rfl rfl ?_
  refine e_28 rfl rfl ?_
  refine e_i0 rfl rfl rfl (Nat.le_of_ble_eq_true rfl) (c_X7 (d := 57)) ?_
  refine e_7 rfl rfl ?_
  refine n_60 (N := 23) (kd := 7) (c := 83) (μ' := cm_87) rfl (by decide) (by decide) (by decide +kernel) rfl ?_
  refine e_28 rfl rfl ?_
  refine e_i0 rfl rfl rfl (Nat.le_of_ble_eq_true rfl) (c_X8 (d := 59)) ?_
  refine e_7 rfl rfl ?_
  refine e_0 rfl ?_
  refine e_5 rfl rfl ?_
  exact lw_loop hL (by decide) L 0 cm_117 (by omega) (Nat.zero_le L) z_inv
