-- ===== calls answered alike: ship =====
theorem hull7_figs {c : Nat → Int32} {q : Nat} (h : hullN c q = 7) : figP c 0 9 (q + 1) ∧ figP c 0 9 (q + 2) ∧ figP c 1 9 (q + 3) ∧ figP c 0 9 (q + 4) ∧ figP c 0 4 (q + 5) ∧ figP c (hlN (dvF c (q + 5))) (hhN (dvF c (q + 5))) (q + 6) := by
  unfold hullN at h
  by_cases b0 : ¬ c q = 119
  · rw [if_pos b0] at h; exact absurd h (by decide)
  rw [if_neg b0] at h
  by_cases b1 : ¬ figP c 0 9 (q + 1)
  · rw [if_pos b1] at h; exact absurd h (by decide)
  rw [if_neg b1] at h
  by_cases b2 : ¬ figP c 0 9 (q + 2)
  · rw [if_pos b2] at h; exact absurd h (by decide)
  rw [if_neg b2] at h
  by_cases b3 : ¬ figP c 1 9 (q + 3)
  · rw [if_pos b3] at h; exact absurd h (by decide)
  rw [if_neg b3] at h
  by_cases b4 : ¬ figP c 0 9 (q + 4)
  · rw [if_pos b4] at h; exact absurd h (by decide)
  rw [if_neg b4] at h
  by_cases b5 : ¬ figP c 0 4 (q + 5)
  · rw [if_pos b5] at h; exact absurd h (by decide)
  rw [if_neg b5] at h
  by_cases b6 : ¬ figP c (hlN (dvF c (q + 5))) (hhN (dvF c (q + 5))) (q + 6)
  · rw [if_pos b6] at h; exact absurd h (by decide)
  exact ⟨Classical.not_not.mp b1, Classical.not_not.mp b2, Classical.not_not.mp b3, Classical.not_not.mp b4, Classical.not_not.mp b5, Classical.not_not.mp b6⟩
def gpP (G : Nat) (ks fs : Nat → Int32) : Prop := ∀ i, i < G → (∃ k, k < 6 ∧ ks i = nI k) ∧ ∃ f, f ≤ 9 ∧ fs i = nI f
theorem ga_ok {c : Nat → Int32} {E : Nat} : ∀ f p G ks fs, gpP G ks fs → gpP (gaF c E f p G ks fs).2.2.1 (gaF c E f p G ks fs).2.2.2.1 (gaF c E f p G ks fs).2.2.2.2
  | 0, _, _, _, _, h => h
  | f + 1, p, G, ks, fs, h => by
    unfold gaF
    split
    · exact h
    · split
      · exact h
      · rename_i z
        split
        · exact h
        · rename_i w
          refine ga_ok f _ _ _ _ (fun i hi => ?_)
          by_cases y : i = G
          · subst y
            rw [pk_us, pk_us]
            exact ⟨let_6 (fun q => z (Or.inl q)), _, (fig_dv (Classical.not_not.mp w) (by omega) (by omega)).2.2, rfl⟩
          · rw [pk_un y, pk_un y]; exact h i (by omega)
theorem ten_nI : ∀ a, a < 10 → ∀ b, b < 10 → 10 * nI a + nI b = nI (10 * a + b) := by decide
theorem NK_at {ν : ps_M} {m e a i : Nat} : ps_i (NK ν m e) a i = if a = m + 1 ∧ i % 458 = 0 ∧ 458 ≤ i ∧ i < 458 * (e + 1) then -1 else ps_i ν a i := rfl
theorem NG_at {ν : ps_M} {m j a i : Nat} {ks fs : Nat → Int32} : ps_i (NG ν m ks fs j) a i = if a = m + 2 ∧ i < j then ks i else if a = m + 1 ∧ 6 ≤ i ∧ i < 6 + j then fs (i - 6) else if a = m + 1 ∧ 12 ≤ i ∧ i < 12 + j then fs (i - 12) else ps_i ν a i := rfl
theorem NZ_at {ν : ps_M} {m z a i : Nat} : ps_i (NZ ν m z) a i = if a = m + 1 ∧ i < z then 0 else ps_i ν a i := rfl
section NSHV
variable {η : ps_M} {G : Nat} {lk ld wt cg : Int32} {ks fs : Nat → Int32}
theorem ns_1 : ps_i (NSh η 83 G lk ld wt cg ks fs) 83 1 = nI G := by
  unfold NSh
  rw [NK_at, if_neg (by omega), NG_at, if_neg (by omega), if_neg (by omega), if_neg (by omega), sI_off (by omega), sI_off (by omega), NZ_at, if_neg (by omega), sI_off (by omega), sI_off (by omega), sI_at]
theorem ns_3 : ps_i (NSh η 83 G lk ld wt cg ks fs) 83 3 = lk := by
  unfold NSh
  rw [NK_at, if_neg (by omega), NG_at, if_neg (by omega), if_neg (by omega), if_neg (by omega), sI_off (by omega), sI_off (by omega), NZ_at, if_neg (by omega), sI_off (by omega), sI_at]
theorem ns_4 : ps_i (NSh η 83 G lk ld wt cg ks fs) 83 4 = ld := by
  unfold NSh
  rw [NK_at, if_neg (by omega), NG_at, if_neg (by omega), if_neg (by omega), if_neg (by omega), sI_off (by omega), sI_off (by omega), NZ_at, if_neg (by omega), sI_at]
theorem ns_k {i : Nat} (h : i < G) : ps_i (NSh η 83 G lk ld wt cg ks fs) 85 i = ks i := by
  unfold NSh
  rw [NK_at, if_neg (by omega), NG_at, if_pos ⟨rfl, h⟩]
theorem ns_s {i : Nat} (hG : G ≤ 6) (h : i < G) : ps_i (NSh η 83 G lk ld wt cg ks fs) 84 (6 + i) = fs i := by
  unfold NSh
  rw [NK_at, if_neg (by omega), NG_at, if_neg (by omega), if_pos ⟨rfl, by omega, by omega⟩, show 6 + i - 6 = i by omega]
theorem ns_f {i : Nat} (hG : G ≤ 6) (h : i < G) : ps_i (NSh η 83 G lk ld wt cg ks fs) 84 (12 + i) = fs i := by
  unfold NSh
  rw [NK_at, if_neg (by omega), NG_at, if_neg (by omega), if_neg (by omega), if_pos ⟨rfl, by omega, by omega⟩, show 12 + i - 12 = i by omega]
theorem ns_w : ps_i (NSh η 83 G lk ld wt cg ks fs) 84 1 = wt := by
  unfold NSh
  rw [NK_at, if_neg (by omega), NG_at, if_neg (by omega), if_neg (by omega), if_neg (by omega), sI_off (by omega)]
  exact sI_at
theorem ns_c : ps_i (NSh η 83 G lk ld wt cg ks fs) 84 2 = cg := by
  unfold NSh
  rw [NK_at, if_neg (by omega), NG_at, if_neg (by omega), if_neg (by omega), if_neg (by omega)]
  exact sI_at
theorem ns_0 {i : Nat} (h : i = 0 ∨ i = 3 ∨ i = 4 ∨ i = 5) : ps_i (NSh η 83 G lk ld wt cg ks fs) 84 i = 0 := by
  unfold NSh
  rw [NK_at, if_neg (by omega), NG_at, if_neg (by omega), if_neg (by omega), if_neg (by omega), sI_off (by omega), sI_off (by omega), NZ_at, if_pos ⟨rfl, by omega⟩]
theorem ns_m {k : Nat} (h : k < 3) : ps_i (NSh η 83 G lk ld wt cg ks fs) 84 (458 * (1 + k)) = -1 := by
  unfold NSh
  rw [NK_at, if_pos ⟨rfl, by omega, by omega, by omega⟩]
theorem ns_o {a i : Nat} (h : ¬ (a = 83 ∧ (i = 1 ∨ i = 3 ∨ i = 4))) (h2 : ¬ a = 84) (h3 : ¬ a = 85) : ps_i (NSh η 83 G lk ld wt cg ks fs) a i = ps_i η a i := by
  unfold NSh
  rw [NK_at, if_neg (by omega), NG_at, if_neg (by omega), if_neg (by omega), if_neg (by omega), sI_off (by omega), sI_off (by omega), NZ_at, if_neg (by omega), sI_off (by omega), sI_off (by omega), sI_off (by omega)]
theorem ns_fld : fldP (NSh η 83 G lk ld wt cg ks fs) η := ⟨rfl, rfl, rfl, rfl, rfl⟩
end NSHV
