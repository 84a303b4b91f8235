section KSF
variable {L : Nat} {xs : Nat → Int32} {D : Nat} {μ : ps_M} {g N : Nat} {kp : Nat → Int32 × (Nat → Int32)}
theorem st_t1 (hp : isPs μ) (hN : N ≤ 4) {σ0 : Nat → Int32} {e : Nat} {K : ps_F → Prop} (hk : ps_To (ps_XX L xs) (ps_Ev (ps_XX L xs) e) j_X2_start K (29, [(0, .ref 19), (1, .ref 4), (2, .int (nI N))], [], stM μ N)) : ps_To (ps_XX L xs) (ps_Ev (ps_XX L xs) e) j_X2_start K (0, [(0, .ref 19), (1, .ref 4), (2, .int (nI N))], [], μ) := by
  refine e_4 rfl rfl ?_
  refine e_0 rfl ?_
  refine e_2 rfl rfl ?_
  refine e_0 rfl ?_
  refine e_67 rfl (Nat.le_of_ble_eq_true rfl) ?_
  refine e_66 rfl (Nat.le_of_ble_eq_true rfl) ?_
  rw [mm_cut (M := 4) (y := 4) hN (by omega) rfl]
  refine e_pi rfl (p_19 hp) rfl (Or.inl rfl) ?_
  refine e_4 rfl rfl ?_
  refine e_0 rfl ?_
  refine e_pi rfl (p_19 hp) rfl (Or.inl rfl) ?_
  refine e_4 rfl rfl ?_
  refine e_0 rfl ?_
  refine e_pi rfl (p_19 hp) rfl (Or.inl rfl) ?_
  refine e_4 rfl rfl ?_
  refine e_0 rfl ?_
  refine e_pi rfl (p_19 hp) rfl (Or.inl rfl) ?_
  exact hk
end KSF
