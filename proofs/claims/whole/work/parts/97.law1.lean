-- ===== the law: one call of the script =====
theorem lg_self {r : Int64} : lg_cmp r r = 0 := by
  unfold lg_cmp
  first | (rw [if_neg (Int64.lt_irrefl r)]; simp) | simp
section LAW
variable {L : Nat} {xs : Nat → Int32} {W i : Nat} {μ : ps_M}
abbrev lwV (i : Nat) : List (Nat × Value) := [(3, .int (nI i)), (2, .ref 83), (1, .ref 0), (0, .ref (ps_X + 4))]
theorem lw_b {k : Nat} {c : Int32} (hc : c = nI k) (hk : k < 6) (hi : i + 6 ≤ L) (hL : L ≤ 3072) : vp_in (nI i + c) (ps_XX L xs 4).1 := by
  subst hc
  show vp_in (nI i + nI k) L
  rw [show nI i + nI k = nI (i + k) from (Int32.ofNat_add i k).symm]
  exact ps_in_of (n := L) (by omega) (nI_pos (by omega)) (show ¬ nI L ≤ nI (i + k) from nI_ge (a := i + k) (b := L) (by omega) (by omega))
theorem lw_row (h : Inv W μ) (hi : i + 6 ≤ L) (hL : L ≤ 3072) (hk : ∀ ν, Inv W ν → ps_To (ps_XX L xs) (ps_Ev (ps_XX L xs) 60) 237 ps_LK (1392, lwV i, [], ν)) : ps_To (ps_XX L xs) (ps_Ev (ps_XX L xs) 60) 237 ps_LK (220, lwV i, [], μ) := by
  obtain ⟨r, μ1, μ2, c, m, hs, h2⟩ := op_row (L := L) (xs := xs) (e := 40) h ((ps_XX L xs 4).2 (nI i + 1).toNatClampNeg) ((ps_XX L xs 4).2 (nI i + 2).toNatClampNeg)
  refine e_4 rfl rfl ?_
  refine e_4 rfl rfl ?_
  refine e_2 rfl rfl ?_
  refine e_0 rfl ?_
  refine e_9 rfl ?_
  refine e_48x rfl (by decide) (lw_b (k := 1) rfl (by omega) hi hL) ?_
  refine e_4 rfl rfl ?_
  refine e_2 rfl rfl ?_
  refine e_0 rfl ?_
  refine e_9 rfl ?_
  refine e_48x rfl (by decide) (lw_b (k := 2) rfl (by omega) hi hL) ?_
  refine e_v2 rfl (p_0 h.1) rfl (by decide) rfl (Nat.le_of_ble_eq_true rfl) c ?_
  refine e_4 rfl rfl ?_
  refine e_4 rfl rfl ?_
  refine e_2 rfl rfl ?_
  refine e_0 rfl ?_
  refine e_9 rfl ?_
  refine e_48x rfl (by decide) (lw_b (k := 1) rfl (by omega) hi hL) ?_
  refine e_4 rfl rfl ?_
  refine e_2 rfl rfl ?_
  refine e_0 rfl ?_
  refine e_9 rfl ?_
  refine e_48x rfl (by decide) (lw_b (k := 2) rfl (by omega) hi hL) ?_
  refine e_v2 rfl hs rfl (by decide) rfl (Nat.le_of_ble_eq_true rfl) m ?_
  exact e_36 rfl (fun _ => hk μ2 h2) (fun q => absurd rfl q)
theorem lw_lay (h : Inv W μ) (hi : i + 6 ≤ L) (hL : L ≤ 3072) (hk : ∀ ν, Inv W ν → ps_To (ps_XX L xs) (ps_Ev (ps_XX L xs) 60) 237 ps_LK (1392, lwV i, [], ν)) : ps_To (ps_XX L xs) (ps_Ev (ps_XX L xs) 60) 237 ps_LK (253, lwV i, [], μ) := by
  obtain ⟨r, μ1, μ2, c, m, hs, h2⟩ := op_lay (L := L) (xs := xs) (e := 40) h ((ps_XX L xs 4).2 (nI i + 1).toNatClampNeg) ((ps_XX L xs 4).2 (nI i + 2).toNatClampNeg) ((ps_XX L xs 4).2 (nI i + 3).toNatClampNeg)
  refine e_4 rfl rfl ?_
  refine e_4 rfl rfl ?_
  refine e_2 rfl rfl ?_
  refine e_0 rfl ?_
  refine e_9 rfl ?_
  refine e_48x rfl (by decide) (lw_b (k := 1) rfl (by omega) hi hL) ?_
  refine e_4 rfl rfl ?_
  refine e_2 rfl rfl ?_
  refine e_0 rfl ?_
  refine e_9 rfl ?_
  refine e_48x rfl (by decide) (lw_b (k := 2) rfl (by omega) hi hL) ?_
  refine e_4 rfl rfl ?_
  refine e_2 rfl rfl ?_
  refine e_0 rfl ?_
  refine e_9 rfl ?_
  refine e_48x rfl (by decide) (lw_b (k := 3) rfl (by omega) hi hL) ?_
  refine e_v3 rfl (p_0 h.1) rfl (by decide) rfl (Nat.le_of_ble_eq_true rfl) c ?_
  refine e_4 rfl rfl ?_
  refine e_4 rfl rfl ?_
  refine e_2 rfl rfl ?_
  refine e_0 rfl ?_
  refine e_9 rfl ?_
  refine e_48x rfl (by decide) (lw_b (k := 1) rfl (by omega) hi hL) ?_
  refine e_4 rfl rfl ?_
  refine e_2 rfl rfl ?_
  refine e_0 rfl ?_
  refine e_9 rfl ?_
  refine e_48x rfl (by decide) (lw_b (k := 2) rfl (by omega) hi hL) ?_
  refine e_4 rfl rfl ?_
  refine e_2 rfl rfl ?_
  refine e_0 rfl ?_
  refine e_9 rfl ?_
  refine e_48x rfl (by decide) (lw_b (k := 3) rfl (by omega) hi hL) ?_
  refine e_v3 rfl hs rfl (by decide) rfl (Nat.le_of_ble_eq_true rfl) m ?_
  exact e_36 rfl (fun _ => hk μ2 h2) (fun q => absurd rfl q)
theorem lw_at (h : Inv W μ) (hi : i + 6 ≤ L) (hL : L ≤ 3072) (hk : ∀ ν, Inv W ν → ps_To (ps_XX L xs) (ps_Ev (ps_XX L xs) 60) 237 ps_LK (1392, lwV i, [], ν)) : ps_To (ps_XX L xs) (ps_Ev (ps_XX L xs) 60) 237 ps_LK (296, lwV i, [], μ) := by
  obtain ⟨r, μ1, μ2, c, m, hs, h2⟩ := op_at (L := L) (xs := xs) (e := 40) h ((ps_XX L xs 4).2 (nI i + 1).toNatClampNeg) ((ps_XX L xs 4).2 (nI i + 2).toNatClampNeg)
  refine e_4 rfl rfl ?_
  refine e_4 rfl rfl ?_
  refine e_2 rfl rfl ?_
  refine e_0 rfl ?_
  refine e_9 rfl ?_
  refine e_48x rfl (by decide) (lw_b (k := 1) rfl (by omega) hi hL) ?_
  refine e_4 rfl rfl ?_
  refine e_2 rfl rfl ?_
  refine e_0 rfl ?_
  refine e_9 rfl ?_
  refine e_48x rfl (by decide) (lw_b (k := 2) rfl (by omega) hi hL) ?_
  refine e_v2 rfl (p_0 h.1) rfl (by decide) rfl (Nat.le_of_ble_eq_true rfl) c ?_
  refine e_4 rfl rfl ?_
  refine e_4 rfl rfl ?_
  refine e_2 rfl rfl ?_
  refine e_0 rfl ?_
  refine e_9 rfl ?_
  refine e_48x rfl (by decide) (lw_b (k := 1) rfl (by omega) hi hL) ?_
  refine e_4 rfl rfl ?_
  refine e_2 rfl rfl ?_
  refine e_0 rfl ?_
  refine e_9 rfl ?_
  refine e_48x rfl (by decide) (lw_b (k := 2) rfl (by omega) hi hL) ?_
  refine e_v2 rfl hs rfl (by decide) rfl (Nat.le_of_ble_eq_true rfl) m ?_
  exact e_36 rfl (fun _ => hk μ2 h2) (fun q => absurd rfl q)
theorem lw_tear (h : Inv W μ) (hi : i + 6 ≤ L) (hL : L ≤ 3072) (hk : ∀ ν, Inv W ν → ps_To (ps_XX L xs) (ps_Ev (ps_XX L xs) 60) 237 ps_LK (1392, lwV i, [], ν)) : ps_To (ps_XX L xs) (ps_Ev (ps_XX L xs) 60) 237 ps_LK (329, lwV i, [], μ) := by
  obtain ⟨r, μ1, μ2, c, m, hs, h2⟩ := op_tear (L := L) (xs := xs) (e := 40) h ((ps_XX L xs 4).2 (nI i + 1).toNatClampNeg)
  refine e_4 rfl rfl ?_
  refine e_4 rfl rfl ?_
  refine e_2 rfl rfl ?_
  refine e_0 rfl ?_
  refine e_9 rfl ?_
  refine e_48x rfl (by decide) (lw_b (k := 1) rfl (by omega) hi hL) ?_
  refine e_v1 rfl (p_0 h.1) rfl (by decide) rfl (Nat.le_of_ble_eq_true rfl) c ?_
  refine e_4 rfl rfl ?_
  refine e_4 rfl rfl ?_
  refine e_2 rfl rfl ?_
  refine e_0 rfl ?_
  refine e_9 rfl ?_
  refine e_48x rfl (by decide) (lw_b (k := 1) rfl (by omega) hi hL) ?_
  refine e_v1 rfl hs rfl (by decide) rfl (Nat.le_of_ble_eq_true rfl) m ?_
  exact e_36 rfl (fun _ => hk μ2 h2) (fun q => absurd rfl q)
theorem lw_copy (h : Inv W μ) (hi : i + 6 ≤ L) (hL : L ≤ 3072) (hk : ∀ ν, Inv W ν → ps_To (ps_XX L xs) (ps_Ev (ps_XX L xs) 60) 237 ps_LK (1392, lwV i, [], ν)) : ps_To (ps_XX L xs) (ps_Ev (ps_XX L xs) 60) 237 ps_LK (352, lwV i, [], μ) := by
  obtain ⟨r, μ1, μ2, c, m, hs, h2⟩ := op_copy (L := L) (xs := xs) (e := 40) h ((ps_XX L xs 4).2 (nI i + 1).toNatClampNeg) ((ps_XX L xs 4).2 (nI i + 2).toNatClampNeg) ((ps_XX L xs 4).2 (nI i + 3).toNatClampNeg) ((ps_XX L xs 4).2 (nI i + 4).toNatClampNeg) ((ps_XX L xs 4).2 (nI i + 5).toNatClampNeg)
  refine e_4 rfl rfl ?_
  refine e_4 rfl rfl ?_
  refine e_2 rfl rfl ?_
  refine e_0 rfl ?_
  refine e_9 rfl ?_
  refine e_48x rfl (by decide) (lw_b (k := 1) rfl (by omega) hi hL) ?_
  refine e_4 rfl rfl ?_
  refine e_2 rfl rfl ?_
  refine e_0 rfl ?_
  refine e_9 rfl ?_
  refine e_48x rfl (by decide) (lw_b (k := 2) rfl (by omega) hi hL) ?_
  refine e_4 rfl rfl ?_
  refine e_2 rfl rfl ?_
  refine e_0 rfl ?_
  refine e_9 rfl ?_
  refine e_48x rfl (by decide) (lw_b (k := 3) rfl (by omega) hi hL) ?_
  refine e_4 rfl rfl ?_
  refine e_2 rfl rfl ?_
  refine e_0 rfl ?_
  refine e_9 rfl ?_
  refine e_48x rfl (by decide) (lw_b (k := 4) rfl (by omega) hi hL) ?_
  refine e_4 rfl rfl ?_
  refine e_2 rfl rfl ?_
  refine e_0 rfl ?_
  refine e_9 rfl ?_
  refine e_48x rfl (by decide) (lw_b (k := 5) rfl (by omega) hi hL) ?_
  refine e_v5 rfl (p_0 h.1) rfl (by decide) rfl (Nat.le_of_ble_eq_true rfl) c ?_
  refine e_4 rfl rfl ?_
  refine e_4 rfl rfl ?_
  refine e_2 rfl rfl ?_
  refine e_0 rfl ?_
  refine e_9 rfl ?_
  refine e_48x rfl (by decide) (lw_b (k := 1) rfl (by omega) hi hL) ?_
  refine e_4 rfl rfl ?_
  refine e_2 rfl rfl ?_
  refine e_0 rfl ?_
  refine e_9 rfl ?_
  refine e_48x rfl (by decide) (lw_b (k := 2) rfl (by omega) hi hL) ?_
  refine e_4 rfl rfl ?_
  refine e_2 rfl rfl ?_
  refine e_0 rfl ?_
  refine e_9 rfl ?_
  refine e_48x rfl (by decide) (lw_b (k := 3) rfl (by omega) hi hL) ?_
  refine e_4 rfl rfl ?_
  refine e_2 rfl rfl ?_
  refine e_0 rfl ?_
  refine e_9 rfl ?_
  refine e_48x rfl (by decide) (lw_b (k := 4) rfl (by omega) hi hL) ?_
  refine e_4 rfl rfl ?_
  refine e_2 rfl rfl ?_
  refine e_0 rfl ?_
  refine e_9 rfl ?_
  refine e_48x rfl (by decide) (lw_b (k := 5) rfl (by omega) hi hL) ?_
  refine e_v5 rfl hs rfl (by decide) rfl (Nat.le_of_ble_eq_true rfl) m ?_
  exact e_36 rfl (fun _ => hk μ2 h2) (fun q => absurd rfl q)
theorem lw_mean (h : Inv W μ) (hi : i + 6 ≤ L) (hL : L ≤ 3072) (hk : ∀ ν, Inv W ν → ps_To (ps_XX L xs) (ps_Ev (ps_XX L xs) 60) 237 ps_LK (1392, lwV i, [], ν)) : ps_To (ps_XX L xs) (ps_Ev (ps_XX L xs) 60) 237 ps_LK (415, lwV i, [], μ) := by
  obtain ⟨r, μ1, μ2, c, m, hs, h2⟩ := op_mean (L := L) (xs := xs) (e := 40) h ((ps_XX L xs 4).2 (nI i + 1).toNatClampNeg)
  refine e_4 rfl rfl ?_
  refine e_4 rfl rfl ?_
  refine e_2 rfl rfl ?_
  refine e_0 rfl ?_
  refine e_9 rfl ?_
  refine e_48x rfl (by decide) (lw_b (k := 1) rfl (by omega) hi hL) ?_
  refine e_v1 rfl (p_0 h.1) rfl (by decide) rfl (Nat.le_of_ble_eq_true rfl) c ?_
  refine e_4 rfl rfl ?_
  refine e_4 rfl rfl ?_
  refine e_2 rfl rfl ?_
  refine e_0 rfl ?_
  refine e_9 rfl ?_
  refine e_48x rfl (by decide) (lw_b (k := 1) rfl (by omega) hi hL) ?_
  refine e_v1 rfl hs rfl (by decide) rfl (Nat.le_of_ble_eq_true rfl) m ?_
  exact e_36 rfl (fun _ => hk μ2 h2) (fun q => absurd rfl q)
theorem lw_text (h : Inv W μ) (hi : i + 6 ≤ L) (hL : L ≤ 3072) (hk : ∀ ν, Inv W ν → ps_To (ps_XX L xs) (ps_Ev (ps_XX L xs) 60) 237 ps_LK (1392, lwV i, [], ν)) : ps_To (ps_XX L xs) (ps_Ev (ps_XX L xs) 60) 237 ps_LK (438, lwV i, [], μ) := by
  obtain ⟨r, μ1, μ2, c, m, hs, h2⟩ := op_text (L := L) (xs := xs) (e := 40) h ((ps_XX L xs 4).2 (nI i + 1).toNatClampNeg) ((ps_XX L xs 4).2 (nI i + 2).toNatClampNeg)
  refine e_4 rfl rfl ?_
  refine e_4 rfl rfl ?_
  refine e_2 rfl rfl ?_
  refine e_0 rfl ?_
  refine e_9 rfl ?_
  refine e_48x rfl (by decide) (lw_b (k := 1) rfl (by omega) hi hL) ?_
  refine e_4 rfl rfl ?_
  refine e_2 rfl rfl ?_
  refine e_0 rfl ?_
  refine e_9 rfl ?_
  refine e_48x rfl (by decide) (lw_b (k := 2) rfl (by omega) hi hL) ?_
  refine e_v2 rfl (p_0 h.1) rfl (by decide) rfl (Nat.le_of_ble_eq_true rfl) c ?_
  refine e_4 rfl rfl ?_
  refine e_4 rfl rfl ?_
  refine e_2 rfl rfl ?_
  refine e_0 rfl ?_
  refine e_9 rfl ?_
  refine e_48x rfl (by decide) (lw_b (k := 1) rfl (by omega) hi hL) ?_
  refine e_4 rfl rfl ?_
  refine e_2 rfl rfl ?_
  refine e_0 rfl ?_
  refine e_9 rfl ?_
  refine e_48x rfl (by decide) (lw_b (k := 2) rfl (by omega) hi hL) ?_
  refine e_v2 rfl hs rfl (by decide) rfl (Nat.le_of_ble_eq_true rfl) m ?_
  exact e_36 rfl (fun _ => hk μ2 h2) (fun q => absurd rfl q)
theorem lw_put (h : Inv W μ) (hi : i + 6 ≤ L) (hL : L ≤ 3072) (hk : ∀ ν, Inv W ν → ps_To (ps_XX L xs) (ps_Ev (ps_XX L xs) 60) 237 ps_LK (1392, lwV i, [], ν)) : ps_To (ps_XX L xs) (ps_Ev (ps_XX L xs) 60) 237 ps_LK (471, lwV i, [], μ) := by
  obtain ⟨r, μ1, μ2, c, m, hs, h2⟩ := op_put (L := L) (xs := xs) (e := 40) h ((ps_XX L xs 4).2 (nI i + 1).toNatClampNeg) ((ps_XX L xs 4).2 (nI i + 2).toNatClampNeg) ((ps_XX L xs 4).2 (nI i + 3).toNatClampNeg)
  refine e_4 rfl rfl ?_
  refine e_4 rfl rfl ?_
  refine e_2 rfl rfl ?_
  refine e_0 rfl ?_
  refine e_9 rfl ?_
  refine e_48x rfl (by decide) (lw_b (k := 1) rfl (by omega) hi hL) ?_
  refine e_4 rfl rfl ?_
  refine e_2 rfl rfl ?_
  refine e_0 rfl ?_
  refine e_9 rfl ?_
  refine e_48x rfl (by decide) (lw_b (k := 2) rfl (by omega) hi hL) ?_
  refine e_4 rfl rfl ?_
  refine e_2 rfl rfl ?_
  refine e_0 rfl ?_
  refine e_9 rfl ?_
  refine e_48x rfl (by decide) (lw_b (k := 3) rfl (by omega) hi hL) ?_
  refine e_v3 rfl (p_0 h.1) rfl (by decide) rfl (Nat.le_of_ble_eq_true rfl) c ?_
  refine e_4 rfl rfl ?_
  refine e_4 rfl rfl ?_
  refine e_2 rfl rfl ?_
  refine e_0 rfl ?_
  refine e_9 rfl ?_
  refine e_48x rfl (by decide) (lw_b (k := 1) rfl (by omega) hi hL) ?_
  refine e_4 rfl rfl ?_
  refine e_2 rfl rfl ?_
  refine e_0 rfl ?_
  refine e_9 rfl ?_
  refine e_48x rfl (by decide) (lw_b (k := 2) rfl (by omega) hi hL) ?_
  refine e_4 rfl rfl ?_
  refine e_2 rfl rfl ?_
  refine e_0 rfl ?_
  refine e_9 rfl ?_
  refine e_48x rfl (by decide) (lw_b (k := 3) rfl (by omega) hi hL) ?_
  refine e_v3 rfl hs rfl (by decide) rfl (Nat.le_of_ble_eq_true rfl) m ?_
  exact e_36 rfl (fun _ => hk μ2 h2) (fun q => absurd rfl q)
theorem lw_fault (h : Inv W μ) (hi : i + 6 ≤ L) (hL : L ≤ 3072) (hk : ∀ ν, Inv W ν → ps_To (ps_XX L xs) (ps_Ev (ps_XX L xs) 60) 237 ps_LK (1392, lwV i, [], ν)) : ps_To (ps_XX L xs) (ps_Ev (ps_XX L xs) 60) 237 ps_LK (514, lwV i, [], μ) := by
  obtain ⟨r, μ1, μ2, c, m, hs, h2⟩ := op_fault (L := L) (xs := xs) (e := 40) h ((ps_XX L xs 4).2 (nI i + 1).toNatClampNeg)
  refine e_4 rfl rfl ?_
  refine e_4 rfl rfl ?_
  refine e_2 rfl rfl ?_
  refine e_0 rfl ?_
  refine e_9 rfl ?_
  refine e_48x rfl (by decide) (lw_b (k := 1) rfl (by omega) hi hL) ?_
  refine e_v1 rfl (p_0 h.1) rfl (by decide) rfl (Nat.le_of_ble_eq_true rfl) c ?_
  refine e_4 rfl rfl ?_
  refine e_4 rfl rfl ?_
  refine e_2 rfl rfl ?_
  refine e_0 rfl ?_
  refine e_9 rfl ?_
  refine e_48x rfl (by decide) (lw_b (k := 1) rfl (by omega) hi hL) ?_
  refine e_v1 rfl hs rfl (by decide) rfl (Nat.le_of_ble_eq_true rfl) m ?_
  exact e_36 rfl (fun _ => hk μ2 h2) (fun q => absurd rfl q)
theorem lw_ship (h : Inv W μ) (hi : i + 6 ≤ L) (hL : L ≤ 3072) (hk : ∀ ν, Inv W ν → ps_To (ps_XX L xs) (ps_Ev (ps_XX L xs) 60) 237 ps_LK (1392, lwV i, [], ν)) : ps_To (ps_XX L xs) (ps_Ev (ps_XX L xs) 60) 237 ps_LK (537, lwV i, [], μ) := by
  obtain ⟨r, μ1, μ2, c, m, hs, h2⟩ := op_ship (L := L) (xs := xs) (e := 40) h ((ps_XX L xs 4).2 (nI i + 1).toNatClampNeg)
  refine e_4 rfl rfl ?_
  refine e_4 rfl rfl ?_
  refine e_2 rfl rfl ?_
  refine e_0 rfl ?_
  refine e_9 rfl ?_
  refine e_48x rfl (by decide) (lw_b (k := 1) rfl (by omega) hi hL) ?_
  refine e_v1 rfl (p_0 h.1) rfl (by decide) rfl (Nat.le_of_ble_eq_true rfl) c ?_
  refine e_4 rfl rfl ?_
  refine e_4 rfl rfl ?_
  refine e_2 rfl rfl ?_
  refine e_0 rfl ?_
  refine e_9 rfl ?_
  refine e_48x rfl (by decide) (lw_b (k := 1) rfl (by omega) hi hL) ?_
  refine e_v1 rfl hs rfl (by decide) rfl (Nat.le_of_ble_eq_true rfl) m ?_
  exact e_36 rfl (fun _ => hk μ2 h2) (fun q => absurd rfl q)
theorem lw_gang (h : Inv W μ) (hi : i + 6 ≤ L) (hL : L ≤ 3072) (hk : ∀ ν, Inv W ν → ps_To (ps_XX L xs) (ps_Ev (ps_XX L xs) 60) 237 ps_LK (1392, lwV i, [], ν)) : ps_To (ps_XX L xs) (ps_Ev (ps_XX L xs) 60) 237 ps_LK (560, lwV i, [], μ) := by
  obtain ⟨r, μ1, μ2, c, m, hs, h2⟩ := op_gang (L := L) (xs := xs) (e := 40) h ((ps_XX L xs 4).2 (nI i + 1).toNatClampNeg) ((ps_XX L xs 4).2 (nI i + 2).toNatClampNeg)
  refine e_4 rfl rfl ?_
  refine e_4 rfl rfl ?_
  refine e_2 rfl rfl ?_
  refine e_0 rfl ?_
  refine e_9 rfl ?_
  refine e_48x rfl (by decide) (lw_b (k := 1) rfl (by omega) hi hL) ?_
  refine e_4 rfl rfl ?_
  refine e_2 rfl rfl ?_
  refine e_0 rfl ?_
  refine e_9 rfl ?_
  refine e_48x rfl (by decide) (lw_b (k := 2) rfl (by omega) hi hL) ?_
  refine e_v2 rfl (p_0 h.1) rfl (by decide) rfl (Nat.le_of_ble_eq_true rfl) c ?_
  refine e_4 rfl rfl ?_
  refine e_4 rfl rfl ?_
  refine e_2 rfl rfl ?_
  refine e_0 rfl ?_
  refine e_9 rfl ?_
  refine e_48x rfl (by decide) (lw_b (k := 1) rfl (by omega) hi hL) ?_
  refine e_4 rfl rfl ?_
  refine e_2 rfl rfl ?_
  refine e_0 rfl ?_
  refine e_9 rfl ?_
  refine e_48x rfl (by decide) (lw_b (k := 2) rfl (by omega) hi hL) ?_
  refine e_v2 rfl hs rfl (by decide) rfl (Nat.le_of_ble_eq_true rfl) m ?_
  exact e_36 rfl (fun _ => hk μ2 h2) (fun q => absurd rfl q)
theorem lw_mark (h : Inv W μ) (hi : i + 6 ≤ L) (hL : L ≤ 3072) (hk : ∀ ν, Inv W ν → ps_To (ps_XX L xs) (ps_Ev (ps_XX L xs) 60) 237 ps_LK (1392, lwV i, [], ν)) : ps_To (ps_XX L xs) (ps_Ev (ps_XX L xs) 60) 237 ps_LK (593, lwV i, [], μ) := by
  obtain ⟨r, μ1, μ2, c, m, hs, h2⟩ := op_mark (L := L) (xs := xs) (e := 40) h ((ps_XX L xs 4).2 (nI i + 1).toNatClampNeg) ((ps_XX L xs 4).2 (nI i + 2).toNatClampNeg)
  refine e_4 rfl rfl ?_
  refine e_4 rfl rfl ?_
  refine e_2 rfl rfl ?_
  refine e_0 rfl ?_
  refine e_9 rfl ?_
  refine e_48x rfl (by decide) (lw_b (k := 1) rfl (by omega) hi hL) ?_
  refine e_4 rfl rfl ?_
  refine e_2 rfl rfl ?_
  refine e_0 rfl ?_
  refine e_9 rfl ?_
  refine e_48x rfl (by decide) (lw_b (k := 2) rfl (by omega) hi hL) ?_
  refine e_v2 rfl (p_0 h.1) rfl (by decide) rfl (Nat.le_of_ble_eq_true rfl) c ?_
  refine e_4 rfl rfl ?_
  refine e_4 rfl rfl ?_
  refine e_2 rfl rfl ?_
  refine e_0 rfl ?_
  refine e_9 rfl ?_
  refine e_48x rfl (by decide) (lw_b (k := 1) rfl (by omega) hi hL) ?_
  refine e_4 rfl rfl ?_
  refine e_2 rfl rfl ?_
  refine e_0 rfl ?_
  refine e_9 rfl ?_
  refine e_48x rfl (by decide) (lw_b (k := 2) rfl (by omega) hi hL) ?_
  refine e_v2 rfl hs rfl (by decide) rfl (Nat.le_of_ble_eq_true rfl) m ?_
  exact e_36 rfl (fun _ => hk μ2 h2) (fun q => absurd rfl q)
theorem lw_force (h : Inv W μ) (hi : i + 6 ≤ L) (hL : L ≤ 3072) (hk : ∀ ν, Inv W ν → ps_To (ps_XX L xs) (ps_Ev (ps_XX L xs) 60) 237 ps_LK (1392, lwV i, [], ν)) : ps_To (ps_XX L xs) (ps_Ev (ps_XX L xs) 60) 237 ps_LK (626, lwV i, [], μ) := by
  obtain ⟨r, μ1, μ2, c, m, hs, h2⟩ := op_force (L := L) (xs := xs) (e := 40) h ((ps_XX L xs 4).2 (nI i + 1).toNatClampNeg) ((ps_XX L xs 4).2 (nI i + 2).toNatClampNeg)
  refine e_4 rfl rfl ?_
  refine e_4 rfl rfl ?_
  refine e_2 rfl rfl ?_
  refine e_0 rfl ?_
  refine e_9 rfl ?_
  refine e_48x rfl (by decide) (lw_b (k := 1) rfl (by omega) hi hL) ?_
  refine e_4 rfl rfl ?_
  refine e_2 rfl rfl ?_
  refine e_0 rfl ?_
  refine e_9 rfl ?_
  refine e_48x rfl (by decide) (lw_b (k := 2) rfl (by omega) hi hL) ?_
  refine e_v2 rfl (p_0 h.1) rfl (by decide) rfl (Nat.le_of_ble_eq_true rfl) c ?_
  refine e_4 rfl rfl ?_
  refine e_4 rfl rfl ?_
  refine e_2 rfl rfl ?_
  refine e_0 rfl ?_
  refine e_9 rfl ?_
  refine e_48x rfl (by decide) (lw_b (k := 1) rfl (by omega) hi hL) ?_
  refine e_4 rfl rfl ?_
  refine e_2 rfl rfl ?_
  refine e_0 rfl ?_
  refine e_9 rfl ?_
  refine e_48x rfl (by decide) (lw_b (k := 2) rfl (by omega) hi hL) ?_
  refine e_v2 rfl hs rfl (by decide) rfl (Nat.le_of_ble_eq_true rfl) m ?_
  exact e_36 rfl (fun _ => hk μ2 h2) (fun q => absurd rfl q)
theorem lw_tell (h : Inv W μ) (hi : i + 6 ≤ L) (hL : L ≤ 3072) (hk : ∀ ν, Inv W ν → ps_To (ps_XX L xs) (ps_Ev (ps_XX L xs) 60) 237 ps_LK (1392, lwV i, [], ν)) : ps_To (ps_XX L xs) (ps_Ev (ps_XX L xs) 60) 237 ps_LK (659, lwV i, [], μ) := by
  obtain ⟨r, μ1, μ2, c, m, hs, h2⟩ := op_tell (L := L) (xs := xs) (e := 40) h ((ps_XX L xs 4).2 (nI i + 1).toNatClampNeg)
  refine e_4 rfl rfl ?_
  refine e_4 rfl rfl ?_
  refine e_2 rfl rfl ?_
  refine e_0 rfl ?_
  refine e_9 rfl ?_
  refine e_48x rfl (by decide) (lw_b (k := 1) rfl (by omega) hi hL) ?_
  refine e_v1 rfl (p_0 h.1) rfl (by decide) rfl (Nat.le_of_ble_eq_true rfl) c ?_
  refine e_4 rfl rfl ?_
  refine e_4 rfl rfl ?_
  refine e_2 rfl rfl ?_
  refine e_0 rfl ?_
  refine e_9 rfl ?_
  refine e_48x rfl (by decide) (lw_b (k := 1) rfl (by omega) hi hL) ?_
  refine e_v1 rfl hs rfl (by decide) rfl (Nat.le_of_ble_eq_true rfl) m ?_
  exact e_36 rfl (fun _ => hk μ2 h2) (fun q => absurd rfl q)
theorem lw_can (h : Inv W μ) (hi : i + 6 ≤ L) (hL : L ≤ 3072) (hk : ∀ ν, Inv W ν → ps_To (ps_XX L xs) (ps_Ev (ps_XX L xs) 60) 237 ps_LK (1392, lwV i, [], ν)) : ps_To (ps_XX L xs) (ps_Ev (ps_XX L xs) 60) 237 ps_LK (682, lwV i, [], μ) := by
  obtain ⟨r, μ1, μ2, c, m, hs, h2⟩ := op_can (L := L) (xs := xs) (e := 40) h
  refine e_4 rfl rfl ?_
  refine e_v0 rfl (p_0 h.1) rfl (by decide) rfl (Nat.le_of_ble_eq_true rfl) c ?_
  refine e_4 rfl rfl ?_
  refine e_v0 rfl hs rfl (by decide) rfl (Nat.le_of_ble_eq_true rfl) m ?_
  exact e_36 rfl (fun _ => hk μ2 h2) (fun q => absurd rfl q)
theorem lw_act (h : Inv W μ) (hi : i + 6 ≤ L) (hL : L ≤ 3072) (hk : ∀ ν, Inv W ν → ps_To (ps_XX L xs) (ps_Ev (ps_XX L xs) 60) 237 ps_LK (1392, lwV i, [], ν)) : ps_To (ps_XX L xs) (ps_Ev (ps_XX L xs) 60) 237 ps_LK (695, lwV i, [], μ) := by
  obtain ⟨r, μ1, μ2, c, m, hs, h2⟩ := op_act (L := L) (xs := xs) (e := 40) h ((ps_XX L xs 4).2 (nI i + 1).toNatClampNeg)
  refine e_4 rfl rfl ?_
  refine e_4 rfl rfl ?_
  refine e_2 rfl rfl ?_
  refine e_0 rfl ?_
  refine e_9 rfl ?_
  refine e_48x rfl (by decide) (lw_b (k := 1) rfl (by omega) hi hL) ?_
  refine e_v1 rfl (p_0 h.1) rfl (by decide) rfl (Nat.le_of_ble_eq_true rfl) c ?_
  refine e_4 rfl rfl ?_
  refine e_4 rfl rfl ?_
  refine e_2 rfl rfl ?_
  refine e_0 rfl ?_
  refine e_9 rfl ?_
  refine e_48x rfl (by decide) (lw_b (k := 1) rfl (by omega) hi hL) ?_
  refine e_v1 rfl hs rfl (by decide) rfl (Nat.le_of_ble_eq_true rfl) m ?_
  exact e_36 rfl (fun _ => hk μ2 h2) (fun q => absurd rfl q)
theorem lw_undo (h : Inv W μ) (hi : i + 6 ≤ L) (hL : L ≤ 3072) (hk : ∀ ν, Inv W ν → ps_To (ps_XX L xs) (ps_Ev (ps_XX L xs) 60) 237 ps_LK (1392, lwV i, [], ν)) : ps_To (ps_XX L xs) (ps_Ev (ps_XX L xs) 60) 237 ps_LK (718, lwV i, [], μ) := by
  obtain ⟨r, μ1, μ2, c, m, hs, h2⟩ := op_undo (L := L) (xs := xs) (e := 40) h ((ps_XX L xs 4).2 (nI i + 1).toNatClampNeg)
  refine e_4 rfl rfl ?_
  refine e_4 rfl rfl ?_
  refine e_2 rfl rfl ?_
  refine e_0 rfl ?_
  refine e_9 rfl ?_
  refine e_48x rfl (by decide) (lw_b (k := 1) rfl (by omega) hi hL) ?_
  refine e_v1 rfl (p_0 h.1) rfl (by decide) rfl (Nat.le_of_ble_eq_true rfl) c ?_
  refine e_4 rfl rfl ?_
  refine e_4 rfl rfl ?_
  refine e_2 rfl rfl ?_
  refine e_0 rfl ?_
  refine e_9 rfl ?_
  refine e_48x rfl (by decide) (lw_b (k := 1) rfl (by omega) hi hL) ?_
  refine e_v1 rfl hs rfl (by decide) rfl (Nat.le_of_ble_eq_true rfl) m ?_
  exact e_36 rfl (fun _ => hk μ2 h2) (fun q => absurd rfl q)
theorem lw_keep (h : Inv W μ) (hi : i + 6 ≤ L) (hL : L ≤ 3072) (hk : ∀ ν, Inv W ν → ps_To (ps_XX L xs) (ps_Ev (ps_XX L xs) 60) 237 ps_LK (1392, lwV i, [], ν)) : ps_To (ps_XX L xs) (ps_Ev (ps_XX L xs) 60) 237 ps_LK (741, lwV i, [], μ) := by
  obtain ⟨r, μ1, μ2, c, m, hs, h2⟩ := op_keep (L := L) (xs := xs) (e := 40) h ((ps_XX L xs 4).2 (nI i + 1).toNatClampNeg)
  refine e_4 rfl rfl ?_
  refine e_4 rfl rfl ?_
  refine e_2 rfl rfl ?_
  refine e_0 rfl ?_
  refine e_9 rfl ?_
  refine e_48x rfl (by decide) (lw_b (k := 1) rfl (by omega) hi hL) ?_
  refine e_v1 rfl (p_0 h.1) rfl (by decide) rfl (Nat.le_of_ble_eq_true rfl) c ?_
  refine e_4 rfl rfl ?_
  refine e_4 rfl rfl ?_
  refine e_2 rfl rfl ?_
  refine e_0 rfl ?_
  refine e_9 rfl ?_
  refine e_48x rfl (by decide) (lw_b (k := 1) rfl (by omega) hi hL) ?_
  refine e_v1 rfl hs rfl (by decide) rfl (Nat.le_of_ble_eq_true rfl) m ?_
  exact e_36 rfl (fun _ => hk μ2 h2) (fun q => absurd rfl q)
theorem lw_on (h : Inv W μ) (hi : i + 6 ≤ L) (hL : L ≤ 3072) (hk : ∀ ν, Inv W ν → ps_To (ps_XX L xs) (ps_Ev (ps_XX L xs) 60) 237 ps_LK (1392, lwV i, [], ν)) : ps_To (ps_XX L xs) (ps_Ev (ps_XX L xs) 60) 237 ps_LK (764, lwV i, [], μ) := by
  obtain ⟨r, μ1, μ2, c, m, hs, h2⟩ := op_on (L := L) (xs := xs) (e := 40) h ((ps_XX L xs 4).2 (nI i + 1).toNatClampNeg)
  refine e_4 rfl rfl ?_
  refine e_4 rfl rfl ?_
  refine e_2 rfl rfl ?_
  refine e_0 rfl ?_
  refine e_9 rfl ?_
  refine e_48x rfl (by decide) (lw_b (k := 1) rfl (by omega) hi hL) ?_
  refine e_v1 rfl (p_0 h.1) rfl (by decide) rfl (Nat.le_of_ble_eq_true rfl) c ?_
  refine e_4 rfl rfl ?_
  refine e_4 rfl rfl ?_
  refine e_2 rfl rfl ?_
  refine e_0 rfl ?_
  refine e_9 rfl ?_
  refine e_48x rfl (by decide) (lw_b (k := 1) rfl (by omega) hi hL) ?_
  refine e_v1 rfl hs rfl (by decide) rfl (Nat.le_of_ble_eq_true rfl) m ?_
  exact e_36 rfl (fun _ => hk μ2 h2) (fun q => absurd rfl q)
theorem lw_run (h : Inv W μ) (hi : i + 6 ≤ L) (hL : L ≤ 3072) (hk : ∀ ν, Inv W ν → ps_To (ps_XX L xs) (ps_Ev (ps_XX L xs) 60) 237 ps_LK (1392, lwV i, [], ν)) : ps_To (ps_XX L xs) (ps_Ev (ps_XX L xs) 60) 237 ps_LK (787, lwV i, [], μ) := by
  obtain ⟨r, μ1, μ2, c, m, hs, h2⟩ := op_run (L := L) (xs := xs) (e := 40) h ((ps_XX L xs 4).2 (nI i + 1).toNatClampNeg)
  refine e_4 rfl rfl ?_
  refine e_4 rfl rfl ?_
  refine e_2 rfl rfl ?_
  refine e_0 rfl ?_
  refine e_9 rfl ?_
  refine e_48x rfl (by decide) (lw_b (k := 1) rfl (by omega) hi hL) ?_
  refine e_v1 rfl (p_0 h.1) rfl (by decide) rfl (Nat.le_of_ble_eq_true rfl) c ?_
  refine e_4 rfl rfl ?_
  refine e_4 rfl rfl ?_
  refine e_2 rfl rfl ?_
  refine e_0 rfl ?_
  refine e_9 rfl ?_
  refine e_48x rfl (by decide) (lw_b (k := 1) rfl (by omega) hi hL) ?_
  refine e_v1 rfl hs rfl (by decide) rfl (Nat.le_of_ble_eq_true rfl) m ?_
  exact e_36 rfl (fun _ => hk μ2 h2) (fun q => absurd rfl q)
theorem lw_best (h : Inv W μ) (hi : i + 6 ≤ L) (hL : L ≤ 3072) (hk : ∀ ν, Inv W ν → ps_To (ps_XX L xs) (ps_Ev (ps_XX L xs) 60) 237 ps_LK (1392, lwV i, [], ν)) : ps_To (ps_XX L xs) (ps_Ev (ps_XX L xs) 60) 237 ps_LK (810, lwV i, [], μ) := by
  obtain ⟨r, μ1, μ2, c, m, hs, h2⟩ := op_best (L := L) (xs := xs) (e := 40) h ((ps_XX L xs 4).2 (nI i + 1).toNatClampNeg) ((ps_XX L xs 4).2 (nI i + 2).toNatClampNeg)
  refine e_4 rfl rfl ?_
  refine e_4 rfl rfl ?_
  refine e_2 rfl rfl ?_
  refine e_0 rfl ?_
  refine e_9 rfl ?_
  refine e_48x rfl (by decide) (lw_b (k := 1) rfl (by omega) hi hL) ?_
  refine e_4 rfl rfl ?_
  refine e_2 rfl rfl ?_
  refine e_0 rfl ?_
  refine e_9 rfl ?_
  refine e_48x rfl (by decide) (lw_b (k := 2) rfl (by omega) hi hL) ?_
  refine e_v2 rfl (p_0 h.1) rfl (by decide) rfl (Nat.le_of_ble_eq_true rfl) c ?_
  refine e_4 rfl rfl ?_
  refine e_4 rfl rfl ?_
  refine e_2 rfl rfl ?_
  refine e_0 rfl ?_
  refine e_9 rfl ?_
  refine e_48x rfl (by decide) (lw_b (k := 1) rfl (by omega) hi hL) ?_
  refine e_4 rfl rfl ?_
  refine e_2 rfl rfl ?_
  refine e_0 rfl ?_
  refine e_9 rfl ?_
  refine e_48x rfl (by decide) (lw_b (k := 2) rfl (by omega) hi hL) ?_
  refine e_v2 rfl hs rfl (by decide) rfl (Nat.le_of_ble_eq_true rfl) m ?_
  exact e_36 rfl (fun _ => hk μ2 h2) (fun q => absurd rfl q)
theorem lw_afloat (h : Inv W μ) (hi : i + 6 ≤ L) (hL : L ≤ 3072) (hk : ∀ ν, Inv W ν → ps_To (ps_XX L xs) (ps_Ev (ps_XX L xs) 60) 237 ps_LK (1392, lwV i, [], ν)) : ps_To (ps_XX L xs) (ps_Ev (ps_XX L xs) 60) 237 ps_LK (843, lwV i, [], μ) := by
  obtain ⟨r, μ1, μ2, c, m, hs, h2⟩ := op_afloat (L := L) (xs := xs) (e := 40) h ((ps_XX L xs 4).2 (nI i + 1).toNatClampNeg)
  refine e_4 rfl rfl ?_
  refine e_4 rfl rfl ?_
  refine e_2 rfl rfl ?_
  refine e_0 rfl ?_
  refine e_9 rfl ?_
  refine e_48x rfl (by decide) (lw_b (k := 1) rfl (by omega) hi hL) ?_
  refine e_v1 rfl (p_0 h.1) rfl (by decide) rfl (Nat.le_of_ble_eq_true rfl) c ?_
  refine e_4 rfl rfl ?_
  refine e_4 rfl rfl ?_
  refine e_2 rfl rfl ?_
  refine e_0 rfl ?_
  refine e_9 rfl ?_
  refine e_48x rfl (by decide) (lw_b (k := 1) rfl (by omega) hi hL) ?_
  refine e_v1 rfl hs rfl (by decide) rfl (Nat.le_of_ble_eq_true rfl) m ?_
  exact e_36 rfl (fun _ => hk μ2 h2) (fun q => absurd rfl q)
theorem lw_firsts (h : Inv W μ) (hi : i + 6 ≤ L) (hL : L ≤ 3072) (hk : ∀ ν, Inv W ν → ps_To (ps_XX L xs) (ps_Ev (ps_XX L xs) 60) 237 ps_LK (1392, lwV i, [], ν)) : ps_To (ps_XX L xs) (ps_Ev (ps_XX L xs) 60) 237 ps_LK (866, lwV i, [], μ) := by
  obtain ⟨r, μ1, μ2, c, m, hs, h2⟩ := op_firsts (L := L) (xs := xs) (e := 40) h ((ps_XX L xs 4).2 (nI i + 1).toNatClampNeg)
  refine e_4 rfl rfl ?_
  refine e_4 rfl rfl ?_
  refine e_2 rfl rfl ?_
  refine e_0 rfl ?_
  refine e_9 rfl ?_
  refine e_48x rfl (by decide) (lw_b (k := 1) rfl (by omega) hi hL) ?_
  refine e_v1 rfl (p_0 h.1) rfl (by decide) rfl (Nat.le_of_ble_eq_true rfl) c ?_
  refine e_4 rfl rfl ?_
  refine e_4 rfl rfl ?_
  refine e_2 rfl rfl ?_
  refine e_0 rfl ?_
  refine e_9 rfl ?_
  refine e_48x rfl (by decide) (lw_b (k := 1) rfl (by omega) hi hL) ?_
  refine e_v1 rfl hs rfl (by decide) rfl (Nat.le_of_ble_eq_true rfl) m ?_
  exact e_36 rfl (fun _ => hk μ2 h2) (fun q => absurd rfl q)
theorem lw_rota (h : Inv W μ) (hi : i + 6 ≤ L) (hL : L ≤ 3072) (hk : ∀ ν, Inv W ν → ps_To (ps_XX L xs) (ps_Ev (ps_XX L xs) 60) 237 ps_LK (1392, lwV i, [], ν)) : ps_To (ps_XX L xs) (ps_Ev (ps_XX L xs) 60) 237 ps_LK (889, lwV i, [], μ) := by
  obtain ⟨r, μ1, μ2, c, m, hs, h2⟩ := op_rota (L := L) (xs := xs) (e := 40) h ((ps_XX L xs 4).2 (nI i + 1).toNatClampNeg)
  refine e_4 rfl rfl ?_
  refine e_4 rfl rfl ?_
  refine e_2 rfl rfl ?_
  refine e_0 rfl ?_
  refine e_9 rfl ?_
  refine e_48x rfl (by decide) (lw_b (k := 1) rfl (by omega) hi hL) ?_
  refine e_v1 rfl (p_0 h.1) rfl (by decide) rfl (Nat.le_of_ble_eq_true rfl) c ?_
  refine e_4 rfl rfl ?_
  refine e_4 rfl rfl ?_
  refine e_2 rfl rfl ?_
  refine e_0 rfl ?_
  refine e_9 rfl ?_
  refine e_48x rfl (by decide) (lw_b (k := 1) rfl (by omega) hi hL) ?_
  refine e_v1 rfl hs rfl (by decide) rfl (Nat.le_of_ble_eq_true rfl) m ?_
  exact e_36 rfl (fun _ => hk μ2 h2) (fun q => absurd rfl q)
theorem lw_watch (h : Inv W μ) (hi : i + 6 ≤ L) (hL : L ≤ 3072) (hk : ∀ ν, Inv W ν → ps_To (ps_XX L xs) (ps_Ev (ps_XX L xs) 60) 237 ps_LK (1392, lwV i, [], ν)) : ps_To (ps_XX L xs) (ps_Ev (ps_XX L xs) 60) 237 ps_LK (912, lwV i, [], μ) := by
  obtain ⟨r, μ1, μ2, c, m, hs, h2⟩ := op_watch (L := L) (xs := xs) (e := 40) h ((ps_XX L xs 4).2 (nI i + 1).toNatClampNeg) ((ps_XX L xs 4).2 (nI i + 2).toNatClampNeg)
  refine e_4 rfl rfl ?_
  refine e_4 rfl rfl ?_
  refine e_2 rfl rfl ?_
  refine e_0 rfl ?_
  refine e_9 rfl ?_
  refine e_48x rfl (by decide) (lw_b (k := 1) rfl (by omega) hi hL) ?_
  refine e_4 rfl rfl ?_
  refine e_2 rfl rfl ?_
  refine e_0 rfl ?_
  refine e_9 rfl ?_
  refine e_48x rfl (by decide) (lw_b (k := 2) rfl (by omega) hi hL) ?_
  refine e_v2 rfl (p_0 h.1) rfl (by decide) rfl (Nat.le_of_ble_eq_true rfl) c ?_
  refine e_4 rfl rfl ?_
  refine e_4 rfl rfl ?_
  refine e_2 rfl rfl ?_
  refine e_0 rfl ?_
  refine e_9 rfl ?_
  refine e_48x rfl (by decide) (lw_b (k := 1) rfl (by omega) hi hL) ?_
  refine e_4 rfl rfl ?_
  refine e_2 rfl rfl ?_
  refine e_0 rfl ?_
  refine e_9 rfl ?_
  refine e_48x rfl (by decide) (lw_b (k := 2) rfl (by omega) hi hL) ?_
  refine e_v2 rfl hs rfl (by decide) rfl (Nat.le_of_ble_eq_true rfl) m ?_
  exact e_36 rfl (fun _ => hk μ2 h2) (fun q => absurd rfl q)
theorem lw_lasts (h : Inv W μ) (hi : i + 6 ≤ L) (hL : L ≤ 3072) (hk : ∀ ν, Inv W ν → ps_To (ps_XX L xs) (ps_Ev (ps_XX L xs) 60) 237 ps_LK (1392, lwV i, [], ν)) : ps_To (ps_XX L xs) (ps_Ev (ps_XX L xs) 60) 237 ps_LK (945, lwV i, [], μ) := by
  obtain ⟨r, μ1, μ2, c, m, hs, h2⟩ := op_lasts (L := L) (xs := xs) (e := 40) h ((ps_XX L xs 4).2 (nI i + 1).toNatClampNeg)
  refine e_4 rfl rfl ?_
  refine e_4 rfl rfl ?_
  refine e_2 rfl rfl ?_
  refine e_0 rfl ?_
  refine e_9 rfl ?_
  refine e_48x rfl (by decide) (lw_b (k := 1) rfl (by omega) hi hL) ?_
  refine e_v1 rfl (p_0 h.1) rfl (by decide) rfl (Nat.le_of_ble_eq_true rfl) c ?_
  refine e_4 rfl rfl ?_
  refine e_4 rfl rfl ?_
  refine e_2 rfl rfl ?_
  refine e_0 rfl ?_
  refine e_9 rfl ?_
  refine e_48x rfl (by decide) (lw_b (k := 1) rfl (by omega) hi hL) ?_
  refine e_v1 rfl hs rfl (by decide) rfl (Nat.le_of_ble_eq_true rfl) m ?_
  exact e_36 rfl (fun _ => hk μ2 h2) (fun q => absurd rfl q)
theorem lw_inches (h : Inv W μ) (hi : i + 6 ≤ L) (hL : L ≤ 3072) (hk : ∀ ν, Inv W ν → ps_To (ps_XX L xs) (ps_Ev (ps_XX L xs) 60) 237 ps_LK (1392, lwV i, [], ν)) : ps_To (ps_XX L xs) (ps_Ev (ps_XX L xs) 60) 237 ps_LK (968, lwV i, [], μ) := by
  obtain ⟨r, μ1, μ2, c, m, hs, h2⟩ := op_inches (L := L) (xs := xs) (e := 40) h ((ps_XX L xs 4).2 (nI i + 1).toNatClampNeg) ((ps_XX L xs 4).2 (nI i + 2).toNatClampNeg) ((ps_XX L xs 4).2 (nI i + 3).toNatClampNeg)
  refine e_4 rfl rfl ?_
  refine e_4 rfl rfl ?_
  refine e_2 rfl rfl ?_
  refine e_0 rfl ?_
  refine e_9 rfl ?_
  refine e_48x rfl (by decide) (lw_b (k := 1) rfl (by omega) hi hL) ?_
  refine e_4 rfl rfl ?_
  refine e_2 rfl rfl ?_
  refine e_0 rfl ?_
  refine e_9 rfl ?_
  refine e_48x rfl (by decide) (lw_b (k := 2) rfl (by omega) hi hL) ?_
  refine e_4 rfl rfl ?_
  refine e_2 rfl rfl ?_
  refine e_0 rfl ?_
  refine e_9 rfl ?_
  refine e_48x rfl (by decide) (lw_b (k := 3) rfl (by omega) hi hL) ?_
  refine e_v3 rfl (p_0 h.1) rfl (by decide) rfl (Nat.le_of_ble_eq_true rfl) c ?_
  refine e_4 rfl rfl ?_
  refine e_4 rfl rfl ?_
  refine e_2 rfl rfl ?_
  refine e_0 rfl ?_
  refine e_9 rfl ?_
  refine e_48x rfl (by decide) (lw_b (k := 1) rfl (by omega) hi hL) ?_
  refine e_4 rfl rfl ?_
  refine e_2 rfl rfl ?_
  refine e_0 rfl ?_
  refine e_9 rfl ?_
  refine e_48x rfl (by decide) (lw_b (k := 2) rfl (by omega) hi hL) ?_
  refine e_4 rfl rfl ?_
  refine e_2 rfl rfl ?_
  refine e_0 rfl ?_
  refine e_9 rfl ?_
  refine e_48x rfl (by decide) (lw_b (k := 3) rfl (by omega) hi hL) ?_
  refine e_v3 rfl hs rfl (by decide) rfl (Nat.le_of_ble_eq_true rfl) m ?_
  exact e_36 rfl (fun _ => hk μ2 h2) (fun q => absurd rfl q)
theorem lw_lighten (h : Inv W μ) (hi : i + 6 ≤ L) (hL : L ≤ 3072) (hk : ∀ ν, Inv W ν → ps_To (ps_XX L xs) (ps_Ev (ps_XX L xs) 60) 237 ps_LK (1392, lwV i, [], ν)) : ps_To (ps_XX L xs) (ps_Ev (ps_XX L xs) 60) 237 ps_LK (1011, lwV i, [], μ) := by
  obtain ⟨r, μ1, μ2, c, m, hs, h2⟩ := op_lighten (L := L) (xs := xs) (e := 40) h ((ps_XX L xs 4).2 (nI i + 1).toNatClampNeg)
  refine e_4 rfl rfl ?_
  refine e_4 rfl rfl ?_
  refine e_2 rfl rfl ?_
  refine e_0 rfl ?_
  refine e_9 rfl ?_
  refine e_48x rfl (by decide) (lw_b (k := 1) rfl (by omega) hi hL) ?_
  refine e_v1 rfl (p_0 h.1) rfl (by decide) rfl (Nat.le_of_ble_eq_true rfl) c ?_
  refine e_4 rfl rfl ?_
  refine e_4 rfl rfl ?_
  refine e_2 rfl rfl ?_
  refine e_0 rfl ?_
  refine e_9 rfl ?_
  refine e_48x rfl (by decide) (lw_b (k := 1) rfl (by omega) hi hL) ?_
  refine e_v1 rfl hs rfl (by decide) rfl (Nat.le_of_ble_eq_true rfl) m ?_
  exact e_36 rfl (fun _ => hk μ2 h2) (fun q => absurd rfl q)
theorem lw_rest (h : Inv W μ) (hi : i + 6 ≤ L) (hL : L ≤ 3072) (hk : ∀ ν, Inv W ν → ps_To (ps_XX L xs) (ps_Ev (ps_XX L xs) 60) 237 ps_LK (1392, lwV i, [], ν)) : ps_To (ps_XX L xs) (ps_Ev (ps_XX L xs) 60) 237 ps_LK (1034, lwV i, [], μ) := by
  obtain ⟨r, μ1, μ2, c, m, hs, h2⟩ := op_rest (L := L) (xs := xs) (e := 40) h ((ps_XX L xs 4).2 (nI i + 1).toNatClampNeg)
  refine e_4 rfl rfl ?_
  refine e_4 rfl rfl ?_
  refine e_2 rfl rfl ?_
  refine e_0 rfl ?_
  refine e_9 rfl ?_
  refine e_48x rfl (by decide) (lw_b (k := 1) rfl (by omega) hi hL) ?_
  refine e_v1 rfl (p_0 h.1) rfl (by decide) rfl (Nat.le_of_ble_eq_true rfl) c ?_
  refine e_4 rfl rfl ?_
  refine e_4 rfl rfl ?_
  refine e_2 rfl rfl ?_
  refine e_0 rfl ?_
  refine e_9 rfl ?_
  refine e_48x rfl (by decide) (lw_b (k := 1) rfl (by omega) hi hL) ?_
  refine e_v1 rfl hs rfl (by decide) rfl (Nat.le_of_ble_eq_true rfl) m ?_
  exact e_36 rfl (fun _ => hk μ2 h2) (fun q => absurd rfl q)
theorem lw_gains (h : Inv W μ) (hi : i + 6 ≤ L) (hL : L ≤ 3072) (hk : ∀ ν, Inv W ν → ps_To (ps_XX L xs) (ps_Ev (ps_XX L xs) 60) 237 ps_LK (1392, lwV i, [], ν)) : ps_To (ps_XX L xs) (ps_Ev (ps_XX L xs) 60) 237 ps_LK (1057, lwV i, [], μ) := by
  obtain ⟨r, μ1, μ2, c, m, hs, h2⟩ := op_gains (L := L) (xs := xs) (e := 40) h ((ps_XX L xs 4).2 (nI i + 1).toNatClampNeg)
  refine e_4 rfl rfl ?_
  refine e_4 rfl rfl ?_
  refine e_2 rfl rfl ?_
  refine e_0 rfl ?_
  refine e_9 rfl ?_
  refine e_48x rfl (by decide) (lw_b (k := 1) rfl (by omega) hi hL) ?_
  refine e_v1 rfl (p_0 h.1) rfl (by decide) rfl (Nat.le_of_ble_eq_true rfl) c ?_
  refine e_4 rfl rfl ?_
  refine e_4 rfl rfl ?_
  refine e_2 rfl rfl ?_
  refine e_0 rfl ?_
  refine e_9 rfl ?_
  refine e_48x rfl (by decide) (lw_b (k := 1) rfl (by omega) hi hL) ?_
  refine e_v1 rfl hs rfl (by decide) rfl (Nat.le_of_ble_eq_true rfl) m ?_
  exact e_36 rfl (fun _ => hk μ2 h2) (fun q => absurd rfl q)
theorem lw_feigns (h : Inv W μ) (hi : i + 6 ≤ L) (hL : L ≤ 3072) (hk : ∀ ν, Inv W ν → ps_To (ps_XX L xs) (ps_Ev (ps_XX L xs) 60) 237 ps_LK (1392, lwV i, [], ν)) : ps_To (ps_XX L xs) (ps_Ev (ps_XX L xs) 60) 237 ps_LK (1080, lwV i, [], μ) := by
  obtain ⟨r, μ1, μ2, c, m, hs, h2⟩ := op_feigns (L := L) (xs := xs) (e := 40) h ((ps_XX L xs 4).2 (nI i + 1).toNatClampNeg)
  refine e_4 rfl rfl ?_
  refine e_4 rfl rfl ?_
  refine e_2 rfl rfl ?_
  refine e_0 rfl ?_
  refine e_9 rfl ?_
  refine e_48x rfl (by decide) (lw_b (k := 1) rfl (by omega) hi hL) ?_
  refine e_v1 rfl (p_0 h.1) rfl (by decide) rfl (Nat.le_of_ble_eq_true rfl) c ?_
  refine e_4 rfl rfl ?_
  refine e_4 rfl rfl ?_
  refine e_2 rfl rfl ?_
  refine e_0 rfl ?_
  refine e_9 rfl ?_
  refine e_48x rfl (by decide) (lw_b (k := 1) rfl (by omega) hi hL) ?_
  refine e_v1 rfl hs rfl (by decide) rfl (Nat.le_of_ble_eq_true rfl) m ?_
  exact e_36 rfl (fun _ => hk μ2 h2) (fun q => absurd rfl q)
theorem lw_kinds (h : Inv W μ) (hi : i + 6 ≤ L) (hL : L ≤ 3072) (hk : ∀ ν, Inv W ν → ps_To (ps_XX L xs) (ps_Ev (ps_XX L xs) 60) 237 ps_LK (1392, lwV i, [], ν)) : ps_To (ps_XX L xs) (ps_Ev (ps_XX L xs) 60) 237 ps_LK (1103, lwV i, [], μ) := by
  obtain ⟨r, μ1, μ2, c, m, hs, h2⟩ := op_kinds (L := L) (xs := xs) (e := 40) h ((ps_XX L xs 4).2 (nI i + 1).toNatClampNeg) ((ps_XX L xs 4).2 (nI i + 2).toNatClampNeg)
  refine e_4 rfl rfl ?_
  refine e_4 rfl rfl ?_
  refine e_2 rfl rfl ?_
  refine e_0 rfl ?_
  refine e_9 rfl ?_
  refine e_48x rfl (by decide) (lw_b (k := 1) rfl (by omega) hi hL) ?_
  refine e_4 rfl rfl ?_
  refine e_2 rfl rfl ?_
  refine e_0 rfl ?_
  refine e_9 rfl ?_
  refine e_48x rfl (by decide) (lw_b (k := 2) rfl (by omega) hi hL) ?_
  refine e_v2 rfl (p_0 h.1) rfl (by decide) rfl (Nat.le_of_ble_eq_true rfl) c ?_
  refine e_4 rfl rfl ?_
  refine e_4 rfl rfl ?_
  refine e_2 rfl rfl ?_
  refine e_0 rfl ?_
  refine e_9 rfl ?_
  refine e_48x rfl (by decide) (lw_b (k := 1) rfl (by omega) hi hL) ?_
  refine e_4 rfl rfl ?_
  refine e_2 rfl rfl ?_
  refine e_0 rfl ?_
  refine e_9 rfl ?_
  refine e_48x rfl (by decide) (lw_b (k := 2) rfl (by omega) hi hL) ?_
  refine e_v2 rfl hs rfl (by decide) rfl (Nat.le_of_ble_eq_true rfl) m ?_
  exact e_36 rfl (fun _ => hk μ2 h2) (fun q => absurd rfl q)
theorem lw_leaks (h : Inv W μ) (hi : i + 6 ≤ L) (hL : L ≤ 3072) (hk : ∀ ν, Inv W ν → ps_To (ps_XX L xs) (ps_Ev (ps_XX L xs) 60) 237 ps_LK (1392, lwV i, [], ν)) : ps_To (ps_XX L xs) (ps_Ev (ps_XX L xs) 60) 237 ps_LK (1136, lwV i, [], μ) := by
  obtain ⟨r, μ1, μ2, c, m, hs, h2⟩ := op_leaks (L := L) (xs := xs) (e := 40) h ((ps_XX L xs 4).2 (nI i + 1).toNatClampNeg)
  refine e_4 rfl rfl ?_
  refine e_4 rfl rfl ?_
  refine e_2 rfl rfl ?_
  refine e_0 rfl ?_
  refine e_9 rfl ?_
  refine e_48x rfl (by decide) (lw_b (k := 1) rfl (by omega) hi hL) ?_
  refine e_v1 rfl (p_0 h.1) rfl (by decide) rfl (Nat.le_of_ble_eq_true rfl) c ?_
  refine e_4 rfl rfl ?_
  refine e_4 rfl rfl ?_
  refine e_2 rfl rfl ?_
  refine e_0 rfl ?_
  refine e_9 rfl ?_
  refine e_48x rfl (by decide) (lw_b (k := 1) rfl (by omega) hi hL) ?_
  refine e_v1 rfl hs rfl (by decide) rfl (Nat.le_of_ble_eq_true rfl) m ?_
  exact e_36 rfl (fun _ => hk μ2 h2) (fun q => absurd rfl q)
theorem lw_odds (h : Inv W μ) (hi : i + 6 ≤ L) (hL : L ≤ 3072) (hk : ∀ ν, Inv W ν → ps_To (ps_XX L xs) (ps_Ev (ps_XX L xs) 60) 237 ps_LK (1392, lwV i, [], ν)) : ps_To (ps_XX L xs) (ps_Ev (ps_XX L xs) 60) 237 ps_LK (1159, lwV i, [], μ) := by
  obtain ⟨r, μ1, μ2, c, m, hs, h2⟩ := op_odds (L := L) (xs := xs) (e := 40) h ((ps_XX L xs 4).2 (nI i + 1).toNatClampNeg) ((ps_XX L xs 4).2 (nI i + 2).toNatClampNeg) ((ps_XX L xs 4).2 (nI i + 3).toNatClampNeg)
  refine e_4 rfl rfl ?_
  refine e_4 rfl rfl ?_
  refine e_2 rfl rfl ?_
  refine e_0 rfl ?_
  refine e_9 rfl ?_
  refine e_48x rfl (by decide) (lw_b (k := 1) rfl (by omega) hi hL) ?_
  refine e_4 rfl rfl ?_
  refine e_2 rfl rfl ?_
  refine e_0 rfl ?_
  refine e_9 rfl ?_
  refine e_48x rfl (by decide) (lw_b (k := 2) rfl (by omega) hi hL) ?_
  refine e_4 rfl rfl ?_
  refine e_2 rfl rfl ?_
  refine e_0 rfl ?_
  refine e_9 rfl ?_
  refine e_48x rfl (by decide) (lw_b (k := 3) rfl (by omega) hi hL) ?_
  refine e_v3 rfl (p_0 h.1) rfl (by decide) rfl (Nat.le_of_ble_eq_true rfl) c ?_
  refine e_4 rfl rfl ?_
  refine e_4 rfl rfl ?_
  refine e_2 rfl rfl ?_
  refine e_0 rfl ?_
  refine e_9 rfl ?_
  refine e_48x rfl (by decide) (lw_b (k := 1) rfl (by omega) hi hL) ?_
  refine e_4 rfl rfl ?_
  refine e_2 rfl rfl ?_
  refine e_0 rfl ?_
  refine e_9 rfl ?_
  refine e_48x rfl (by decide) (lw_b (k := 2) rfl (by omega) hi hL) ?_
  refine e_4 rfl rfl ?_
  refine e_2 rfl rfl ?_
  refine e_0 rfl ?_
  refine e_9 rfl ?_
  refine e_48x rfl (by decide) (lw_b (k := 3) rfl (by omega) hi hL) ?_
  refine e_v3 rfl hs rfl (by decide) rfl (Nat.le_of_ble_eq_true rfl) m ?_
  exact e_36 rfl (fun _ => hk μ2 h2) (fun q => absurd rfl q)
theorem lw_mid (h : Inv W μ) (hi : i + 6 ≤ L) (hL : L ≤ 3072) (hk : ∀ ν, Inv W ν → ps_To (ps_XX L xs) (ps_Ev (ps_XX L xs) 60) 237 ps_LK (1392, lwV i, [], ν)) : ps_To (ps_XX L xs) (ps_Ev (ps_XX L xs) 60) 237 ps_LK (1202, lwV i, [], μ) := by
  obtain ⟨r, μ1, μ2, c, m, hs, h2⟩ := op_mid (L := L) (xs := xs) (e := 40) h ((ps_XX L xs 4).2 (nI i + 1).toNatClampNeg) ((ps_XX L xs 4).2 (nI i + 2).toNatClampNeg) ((ps_XX L xs 4).2 (nI i + 3).toNatClampNeg)
  refine e_4 rfl rfl ?_
  refine e_4 rfl rfl ?_
  refine e_2 rfl rfl ?_
  refine e_0 rfl ?_
  refine e_9 rfl ?_
  refine e_48x rfl (by decide) (lw_b (k := 1) rfl (by omega) hi hL) ?_
  refine e_4 rfl rfl ?_
  refine e_2 rfl rfl ?_
  refine e_0 rfl ?_
  refine e_9 rfl ?_
  refine e_48x rfl (by decide) (lw_b (k := 2) rfl (by omega) hi hL) ?_
  refine e_4 rfl rfl ?_
  refine e_2 rfl rfl ?_
  refine e_0 rfl ?_
  refine e_9 rfl ?_
  refine e_48x rfl (by decide) (lw_b (k := 3) rfl (by omega) hi hL) ?_
  refine e_v3 rfl (p_0 h.1) rfl (by decide) rfl (Nat.le_of_ble_eq_true rfl) c ?_
  refine e_4 rfl rfl ?_
  refine e_4 rfl rfl ?_
  refine e_2 rfl rfl ?_
  refine e_0 rfl ?_
  refine e_9 rfl ?_
  refine e_48x rfl (by decide) (lw_b (k := 1) rfl (by omega) hi hL) ?_
  refine e_4 rfl rfl ?_
  refine e_2 rfl rfl ?_
  refine e_0 rfl ?_
  refine e_9 rfl ?_
  refine e_48x rfl (by decide) (lw_b (k := 2) rfl (by omega) hi hL) ?_
  refine e_4 rfl rfl ?_
  refine e_2 rfl rfl ?_
  refine e_0 rfl ?_
  refine e_9 rfl ?_
  refine e_48x rfl (by decide) (lw_b (k := 3) rfl (by omega) hi hL) ?_
  refine e_v3 rfl hs rfl (by decide) rfl (Nat.le_of_ble_eq_true rfl) m ?_
  exact e_36 rfl (fun _ => hk μ2 h2) (fun q => absurd rfl q)
theorem lw_lots (h : Inv W μ) (hi : i + 6 ≤ L) (hL : L ≤ 3072) (hk : ∀ ν, Inv W ν → ps_To (ps_XX L xs) (ps_Ev (ps_XX L xs) 60) 237 ps_LK (1392, lwV i, [], ν)) : ps_To (ps_XX L xs) (ps_Ev (ps_XX L xs) 60) 237 ps_LK (1245, lwV i, [], μ) := by
  obtain ⟨r, μ1, μ2, c, m, hs, h2⟩ := op_lots (L := L) (xs := xs) (e := 40) h ((ps_XX L xs 4).2 (nI i + 1).toNatClampNeg) ((ps_XX L xs 4).2 (nI i + 2).toNatClampNeg)
  refine e_4 rfl rfl ?_
  refine e_4 rfl rfl ?_
  refine e_2 rfl rfl ?_
  refine e_0 rfl ?_
  refine e_9 rfl ?_
  refine e_48x rfl (by decide) (lw_b (k := 1) rfl (by omega) hi hL) ?_
  refine e_4 rfl rfl ?_
  refine e_2 rfl rfl ?_
  refine e_0 rfl ?_
  refine e_9 rfl ?_
  refine e_48x rfl (by decide) (lw_b (k := 2) rfl (by omega) hi hL) ?_
  refine e_v2 rfl (p_0 h.1) rfl (by decide) rfl (Nat.le_of_ble_eq_true rfl) c ?_
  refine e_4 rfl rfl ?_
  refine e_4 rfl rfl ?_
  refine e_2 rfl rfl ?_
  refine e_0 rfl ?_
  refine e_9 rfl ?_
  refine e_48x rfl (by decide) (lw_b (k := 1) rfl (by omega) hi hL) ?_
  refine e_4 rfl rfl ?_
  refine e_2 rfl rfl ?_
  refine e_0 rfl ?_
  refine e_9 rfl ?_
  refine e_48x rfl (by decide) (lw_b (k := 2) rfl (by omega) hi hL) ?_
  refine e_v2 rfl hs rfl (by decide) rfl (Nat.le_of_ble_eq_true rfl) m ?_
  exact e_36 rfl (fun _ => hk μ2 h2) (fun q => absurd rfl q)
theorem lw_asked (h : Inv W μ) (hi : i + 6 ≤ L) (hL : L ≤ 3072) (hk : ∀ ν, Inv W ν → ps_To (ps_XX L xs) (ps_Ev (ps_XX L xs) 60) 237 ps_LK (1392, lwV i, [], ν)) : ps_To (ps_XX L xs) (ps_Ev (ps_XX L xs) 60) 237 ps_LK (1278, lwV i, [], μ) := by
  obtain ⟨r, μ1, μ2, c, m, hs, h2⟩ := op_asked (L := L) (xs := xs) (e := 40) h
  refine e_4 rfl rfl ?_
  refine e_v0 rfl (p_0 h.1) rfl (by decide) rfl (Nat.le_of_ble_eq_true rfl) c ?_
  refine e_4 rfl rfl ?_
  refine e_v0 rfl hs rfl (by decide) rfl (Nat.le_of_ble_eq_true rfl) m ?_
  exact e_36 rfl (fun _ => hk μ2 h2) (fun q => absurd rfl q)
theorem lw_upper (h : Inv W μ) (hi : i + 6 ≤ L) (hL : L ≤ 3072) (hk : ∀ ν, Inv W ν → ps_To (ps_XX L xs) (ps_Ev (ps_XX L xs) 60) 237 ps_LK (1392, lwV i, [], ν)) : ps_To (ps_XX L xs) (ps_Ev (ps_XX L xs) 60) 237 ps_LK (1291, lwV i, [], μ) := by
  obtain ⟨r, μ1, μ2, c, m, hs, h2⟩ := op_upper (L := L) (xs := xs) (e := 40) h
  refine e_4 rfl rfl ?_
  refine e_v0 rfl (p_0 h.1) rfl (by decide) rfl (Nat.le_of_ble_eq_true rfl) c ?_
  refine e_4 rfl rfl ?_
  refine e_v0 rfl hs rfl (by decide) rfl (Nat.le_of_ble_eq_true rfl) m ?_
  refine e_24 rfl ?_
  exact e_30 rfl (fun _ => hk μ2 h2) (fun q => absurd lg_self q)
theorem lw_lower (h : Inv W μ) (hi : i + 6 ≤ L) (hL : L ≤ 3072) (hk : ∀ ν, Inv W ν → ps_To (ps_XX L xs) (ps_Ev (ps_XX L xs) 60) 237 ps_LK (1392, lwV i, [], ν)) : ps_To (ps_XX L xs) (ps_Ev (ps_XX L xs) 60) 237 ps_LK (1305, lwV i, [], μ) := by
  obtain ⟨r, μ1, μ2, c, m, hs, h2⟩ := op_lower (L := L) (xs := xs) (e := 40) h
  refine e_4 rfl rfl ?_
  refine e_v0 rfl (p_0 h.1) rfl (by decide) rfl (Nat.le_of_ble_eq_true rfl) c ?_
  refine e_4 rfl rfl ?_
  refine e_v0 rfl hs rfl (by decide) rfl (Nat.le_of_ble_eq_true rfl) m ?_
  refine e_24 rfl ?_
  exact e_30 rfl (fun _ => hk μ2 h2) (fun q => absurd lg_self q)
theorem lw_count (h : Inv W μ) (hi : i + 6 ≤ L) (hL : L ≤ 3072) (hk : ∀ ν, Inv W ν → ps_To (ps_XX L xs) (ps_Ev (ps_XX L xs) 60) 237 ps_LK (1392, lwV i, [], ν)) : ps_To (ps_XX L xs) (ps_Ev (ps_XX L xs) 60) 237 ps_LK (1319, lwV i, [], μ) := by
  obtain ⟨r, μ1, μ2, c, m, hs, h2⟩ := op_count (L := L) (xs := xs) (e := 40) h ((ps_XX L xs 4).2 (nI i + 1).toNatClampNeg)
  refine e_4 rfl rfl ?_
  refine e_4 rfl rfl ?_
  refine e_2 rfl rfl ?_
  refine e_0 rfl ?_
  refine e_9 rfl ?_
  refine e_48x rfl (by decide) (lw_b (k := 1) rfl (by omega) hi hL) ?_
  refine e_v1 rfl (p_0 h.1) rfl (by decide) rfl (Nat.le_of_ble_eq_true rfl) c ?_
  refine e_4 rfl rfl ?_
  refine e_4 rfl rfl ?_
  refine e_2 rfl rfl ?_
  refine e_0 rfl ?_
  refine e_9 rfl ?_
  refine e_48x rfl (by decide) (lw_b (k := 1) rfl (by omega) hi hL) ?_
  refine e_v1 rfl hs rfl (by decide) rfl (Nat.le_of_ble_eq_true rfl) m ?_
  exact e_36 rfl (fun _ => hk μ2 h2) (fun q => absurd rfl q)
theorem lw_finding (h : Inv W μ) (hi : i + 6 ≤ L) (hL : L ≤ 3072) (hk : ∀ ν, Inv W ν → ps_To (ps_XX L xs) (ps_Ev (ps_XX L xs) 60) 237 ps_LK (1392, lwV i, [], ν)) : ps_To (ps_XX L xs) (ps_Ev (ps_XX L xs) 60) 237 ps_LK (1342, lwV i, [], μ) := by
  obtain ⟨r, μ1, μ2, c, m, hs, h2⟩ := op_finding (L := L) (xs := xs) (e := 40) h
  refine e_4 rfl rfl ?_
  refine e_v0 rfl (p_0 h.1) rfl (by decide) rfl (Nat.le_of_ble_eq_true rfl) c ?_
  refine e_4 rfl rfl ?_
  refine e_v0 rfl hs rfl (by decide) rfl (Nat.le_of_ble_eq_true rfl) m ?_
  exact e_36 rfl (fun _ => hk μ2 h2) (fun q => absurd rfl q)
theorem lw_findings (h : Inv W μ) (hi : i + 6 ≤ L) (hL : L ≤ 3072) (hk : ∀ ν, Inv W ν → ps_To (ps_XX L xs) (ps_Ev (ps_XX L xs) 60) 237 ps_LK (1392, lwV i, [], ν)) : ps_To (ps_XX L xs) (ps_Ev (ps_XX L xs) 60) 237 ps_LK (1355, lwV i, [], μ) := by
  obtain ⟨r, μ1, μ2, c, m, hs, h2⟩ := op_findings (L := L) (xs := xs) (e := 40) h ((ps_XX L xs 4).2 (nI i + 1).toNatClampNeg)
  refine e_4 rfl rfl ?_
  refine e_4 rfl rfl ?_
  refine e_2 rfl rfl ?_
  refine e_0 rfl ?_
  refine e_9 rfl ?_
  refine e_48x rfl (by decide) (lw_b (k := 1) rfl (by omega) hi hL) ?_
  refine e_v1 rfl (p_0 h.1) rfl (by decide) rfl (Nat.le_of_ble_eq_true rfl) c ?_
  refine e_4 rfl rfl ?_
  refine e_4 rfl rfl ?_
  refine e_2 rfl rfl ?_
  refine e_0 rfl ?_
  refine e_9 rfl ?_
  refine e_48x rfl (by decide) (lw_b (k := 1) rfl (by omega) hi hL) ?_
  refine e_v1 rfl hs rfl (by decide) rfl (Nat.le_of_ble_eq_true rfl) m ?_
  exact e_36 rfl (fun _ => hk μ2 h2) (fun q => absurd rfl q)
theorem lw_digest (h : Inv W μ) (hi : i + 6 ≤ L) (hL : L ≤ 3072) (hk : ∀ ν, Inv W ν → ps_To (ps_XX L xs) (ps_Ev (ps_XX L xs) 60) 237 ps_LK (1392, lwV i, [], ν)) : ps_To (ps_XX L xs) (ps_Ev (ps_XX L xs) 60) 237 ps_LK (1378, lwV i, [], μ) := by
  obtain ⟨r, μ1, μ2, c, m, hs, h2⟩ := op_digest (L := L) (xs := xs) (e := 40) h
  refine e_4 rfl rfl ?_
  refine e_v0 rfl (p_0 h.1) rfl (by decide) rfl (Nat.le_of_ble_eq_true rfl) c ?_
  refine e_4 rfl rfl ?_
  refine e_v0 rfl hs rfl (by decide) rfl (Nat.le_of_ble_eq_true rfl) m ?_
  refine e_24 rfl ?_
  exact e_30 rfl (fun _ => hk μ2 h2) (fun q => absurd lg_self q)
end LAW
