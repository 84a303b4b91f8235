-- ===== calls answered alike: a new ship =====
section NEWSHIP
variable {B ks fs : Nat → Int32} {G : Nat}
theorem en_lo {k : Nat} (h : k < 8) : enS B ks fs G k = B k := by unfold enS; rw [if_neg (by omega), if_neg (by omega), if_neg (by omega), if_neg (by omega)]
theorem en_8 : enS B ks fs G 8 = nI G := by unfold enS; rw [if_pos rfl]
theorem en_k {i : Nat} (h : i < G) : enS B ks fs G (9 + i) = ks i := by unfold enS; rw [if_neg (by omega), if_pos (by omega), show 9 + i - 9 = i by omega]
theorem en_f {i : Nat} (hG : G ≤ 6) (h : i < G) : enS B ks fs G (15 + i) = fs i := by unfold enS; rw [if_neg (by omega), if_neg (by omega), if_pos (by omega), show 15 + i - 15 = i by omega]
theorem en_s {i : Nat} (hG : G ≤ 6) (h : i < G) : enS B ks fs G (21 + i) = fs i := by unfold enS; rw [if_neg (by omega), if_neg (by omega), if_neg (by omega), if_pos (by omega), show 21 + i - 21 = i by omega]
theorem shI_en {a c hh : Nat} (hG : G ≤ 6) (hgp : gpP G ks fs) (h0 : B 0 = nI a) (ha : a ≤ 99) (h2 : B 2 = nI c) (hc : c ≤ 9) (h4 : B 4 = nI hh) (hh40 : hh ≤ 40) (h5 : B 5 = 0) (h7 : B 7 = 0) : shI G (enS B ks fs G) := by
  refine ⟨⟨hG, en_8, fun i hi => ⟨?_, ?_⟩⟩, fun i hi => ?_, ?_, ⟨c, hc, ?_⟩, ?_, 0, hh, by omega, hh40, ?_, ?_⟩
  · rw [en_k hi]; exact (hgp i hi).1
  · rw [en_s hG hi]; exact (hgp i hi).2
  · rw [en_f hG hi, en_s hG hi]
    obtain ⟨f, hf, ef⟩ := (hgp i hi).2
    exact ⟨f, hf, ef, f, Nat.le_refl f, ef⟩
  · rw [en_lo (by omega)]; exact Or.inl h7
  · rw [en_lo (by omega)]; exact h2
  · rw [en_lo (by omega), h0]; exact nI_pos (by omega)
  · rw [en_lo (by omega)]; exact h5
  · rw [en_lo (by omega)]; exact h4
theorem inv_new {W : Nat} {μ η : ps_M} {a c hh : Nat} {lk : Int32} (h : Inv W μ) (fη : fldP η μ) (hη : ∀ a i, ¬ (4 ≤ a ∧ a ≤ 7) → ¬ (65 ≤ a ∧ a ≤ 82) → ¬ ((10 ≤ a ∧ a ≤ 43) ∨ (a = 83 ∧ 14 ≤ i) ∨ a = 91 ∨ (a = 84 ∧ 1832 ≤ i)) → ps_i η a i = ps_i μ a i) (hS : ∀ i, i < 27 → shG (ps_i η) 4 i = enS B ks fs G i) (hK : ∀ k, k < 3 → ps_i η (65 + 6 * k) 1 = 0) (hG : G ≤ 6) (hgp : gpP G ks fs) (h0 : B 0 = nI a) (ha : a ≤ 99) (h1 : B 1 = lk) (h2 : B 2 = nI c) (hc : c ≤ 9) (h3 : B 3 = 0) (h4 : B 4 = nI hh) (hh40 : hh ≤ 40) (h5 : B 5 = 0) (h6 : B 6 = 0) (h7 : B 7 = 0) : Inv W (NSh η 83 G lk (nI hh) (nI a) (nI c) ks fs) := by
  obtain ⟨g0, r1, r2, -, -, r5⟩ := h.2.2.2.2.1
  have IS : shI G (enS B ks fs G) := shI_en hG hgp h0 ha h2 hc h4 hh40 h5 h7
  obtain ⟨ω, hω⟩ : ∃ ω, ω = NSh η 83 G lk (nI hh) (nI a) (nI c) ks fs := ⟨_, rfl⟩
  rw [← hω]
  have fω : fldP ω μ := by rw [hω]; exact ns_fld.tr fη
  have qo : ∀ a i, ¬ (a = 83 ∧ (i = 1 ∨ i = 3 ∨ i = 4)) → ¬ a = 84 → ¬ a = 85 → ps_i ω a i = ps_i η a i := fun a i z1 z2 z3 => by rw [hω]; exact ns_o z1 z2 z3
  have q : ∀ a i, ¬ (4 ≤ a ∧ a ≤ 7) → ¬ (65 ≤ a ∧ a ≤ 82) → ¬ ((10 ≤ a ∧ a ≤ 43) ∨ (a = 83 ∧ 14 ≤ i) ∨ a = 91 ∨ (a = 84 ∧ 1832 ≤ i)) → ¬ (a = 83 ∧ (i = 1 ∨ i = 3 ∨ i = 4)) → ¬ a = 84 → ¬ a = 85 → ps_i ω a i = ps_i μ a i := fun a i z1 z2 z3 z4 z5 z6 => (qo a i z4 z5 z6).trans (hη a i z1 z2 z3)
  have w1 : ps_i ω 84 1 = nI a := by rw [hω]; exact ns_w
  have w2 : ps_i ω 84 2 = nI c := by rw [hω]; exact ns_c
  have w0 : ∀ i, i = 0 ∨ i = 3 ∨ i = 4 ∨ i = 5 → ps_i ω 84 i = 0 := fun i z => by rw [hω]; exact ns_0 z
  have em : eqS G (enS B ks fs G) (mdG (ps_i ω) 83 0) := by
    refine ⟨fun k hk => ?_, fun i hi => ⟨?_, ?_, ?_⟩⟩
    · rcases (show k = 0 ∨ k = 1 ∨ k = 2 ∨ k = 3 ∨ k = 4 ∨ k = 5 ∨ k = 6 ∨ k = 7 ∨ k = 8 by omega) with rfl | rfl | rfl | rfl | rfl | rfl | rfl | rfl | rfl
      · rw [en_lo (by omega), h0]; exact w1.symm
      · rw [en_lo (by omega), h1]; exact (by rw [hω]; exact ns_3.symm : lk = ps_i ω 83 3)
      · rw [en_lo (by omega), h2]; exact w2.symm
      · rw [en_lo (by omega), h3]; exact (w0 3 (by omega)).symm
      · rw [en_lo (by omega), h4]; exact (by rw [hω]; exact ns_4.symm : nI hh = ps_i ω 83 4)
      · rw [en_lo (by omega), h5]; exact (w0 0 (by omega)).symm
      · rw [en_lo (by omega), h6]; exact (w0 5 (by omega)).symm
      · rw [en_lo (by omega), h7]; exact (w0 4 (by omega)).symm
      · rw [en_8]; exact (by rw [hω]; exact ns_1.symm : nI G = ps_i ω 83 1)
    · rw [en_k hi]
      have e : ps_i ω 85 i = ks i := by rw [hω]; exact ns_k hi
      rcases (show i = 0 ∨ i = 1 ∨ i = 2 ∨ i = 3 ∨ i = 4 ∨ i = 5 by omega) with rfl | rfl | rfl | rfl | rfl | rfl <;> exact e.symm
    · rw [en_f hG hi]
      have e : ps_i ω 84 (12 + i) = fs i := by rw [hω]; exact ns_f hG hi
      rcases (show i = 0 ∨ i = 1 ∨ i = 2 ∨ i = 3 ∨ i = 4 ∨ i = 5 by omega) with rfl | rfl | rfl | rfl | rfl | rfl <;> exact e.symm
    · rw [en_s hG hi]
      have e : ps_i ω 84 (6 + i) = fs i := by rw [hω]; exact ns_s hG hi
      rcases (show i = 0 ∨ i = 1 ∨ i = 2 ∨ i = 3 ∨ i = 4 ∨ i = 5 by omega) with rfl | rfl | rfl | rfl | rfl | rfl <;> exact e.symm
  refine Inv.mk (g := G) h fω.1 fω.2.1 fω.2.2.1 fω.2.2.2.1 ⟨r1.c (fun a i _ _ => q _ _ (by omega) (by omega) (by omega) (by omega) (by omega) (by omega)) (fun a i _ _ => q _ _ (by omega) (by omega) (by omega) (by omega) (by omega) (by omega)), r2.c (fun a i _ _ => q _ _ (by omega) (by omega) (by omega) (by omega) (by omega) (by omega)) (fun a i _ _ => q _ _ (by omega) (by omega) (by omega) (by omega) (by omega) (by omega)), ⟨shI_eqS IS em, eqS.tr (eqS.of27 hG (fun k hk => ?_)) em, fun x hx => ?_⟩, fun k hk => Or.inl ⟨?_, ?_⟩, r5.c (fun i _ => q _ _ (by omega) (by omega) (by omega) (by omega) (by omega) (by omega)) (fun i => q _ _ (by omega) (by omega) (by omega) (by omega) (by omega) (by omega)) (fun i _ => q _ _ (by omega) (by omega) (by omega) (by omega) (by omega) (by omega)) (fun i => q _ _ (by omega) (by omega) (by omega) (by omega) (by omega) (by omega))⟩ ?_ ?_
  · rw [shG_cells (J := ps_i η) (fun a i z1 z2 => qo a i (by omega) (by omega) (by omega))]; exact hS k hk
  · rw [w0 0 (by omega)] at hx; exact absurd hx (Nat.not_lt_zero x)
  · rw [hω]; exact ns_m hk
  · rw [qo _ _ (by omega) (by omega) (by omega)]; exact hK k hk
  · rw [fω.2.2.2.2]; exact h.2.2.2.2.2.1
  · rw [fω.2.2.2.2]; exact h.2.2.2.2.2.2
end NEWSHIP
