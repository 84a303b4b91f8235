-- ===== calls answered alike: keep, on =====
theorem mdG_mv {I J : Nat → Nat → Int32} {B C : Nat} (h83 : ∀ i, i = 1 ∨ i = 3 ∨ i = 4 → I 83 i = J 83 i) (h84 : ∀ i, i < 18 → I 84 (B + i) = J 84 (C + i)) (h85 : ∀ i, I 85 i = J 85 i) : mdG I 83 B = mdG J 83 C := by
  funext k
  unfold mdG
  by_cases c0 : k = 0
  · rw [if_pos c0, if_pos c0]; exact h84 1 (by omega)
  rw [if_neg c0, if_neg c0]
  by_cases c1 : k = 1
  · rw [if_pos c1, if_pos c1]; exact h83 _ (by omega)
  rw [if_neg c1, if_neg c1]
  by_cases c2 : k = 2
  · rw [if_pos c2, if_pos c2]; exact h84 2 (by omega)
  rw [if_neg c2, if_neg c2]
  by_cases c3 : k = 3
  · rw [if_pos c3, if_pos c3]; exact h84 3 (by omega)
  rw [if_neg c3, if_neg c3]
  by_cases c4 : k = 4
  · rw [if_pos c4, if_pos c4]; exact h83 _ (by omega)
  rw [if_neg c4, if_neg c4]
  by_cases c5 : k = 5
  · rw [if_pos c5, if_pos c5]; exact h84 0 (by omega)
  rw [if_neg c5, if_neg c5]
  by_cases c6 : k = 6
  · rw [if_pos c6, if_pos c6]; exact h84 5 (by omega)
  rw [if_neg c6, if_neg c6]
  by_cases c7 : k = 7
  · rw [if_pos c7, if_pos c7]; exact h84 4 (by omega)
  rw [if_neg c7, if_neg c7]
  by_cases c8 : k = 8
  · rw [if_pos c8, if_pos c8]; exact h83 _ (by omega)
  rw [if_neg c8, if_neg c8]
  by_cases c9 : k < 15
  · rw [if_pos c9, if_pos c9]; exact h85 _
  rw [if_neg c9, if_neg c9]
  by_cases c10 : k < 21
  · rw [if_pos c10, if_pos c10]; first | exact h84 _ (by omega) | (have := h84 (12 + (k - 15)) (by omega); rw [← Nat.add_assoc, ← Nat.add_assoc] at this; exact this)
  rw [if_neg c10, if_neg c10]
  by_cases c11 : k < 27
  · rw [if_pos c11, if_pos c11]; first | exact h84 _ (by omega) | (have := h84 (6 + (k - 21)) (by omega); rw [← Nat.add_assoc, ← Nat.add_assoc] at this; exact this)
  rw [if_neg c11, if_neg c11]
theorem SPr.mv {g : Nat} {I0 J0 I J : Nat → Nat → Int32} {b0 c0 B0 b c B : Nat} (h : SPr g I0 J0 b0 c0 B0) (hb : ∀ k, k < 27 → shG I b k = shG I0 b0 k) (hc : ∀ i, i < 440 → I c i = I0 c0 i) (h83 : ∀ i, i = 1 ∨ i = 3 ∨ i = 4 → J 83 i = J0 83 i) (h84 : ∀ i, i < 458 → J 84 (B + i) = J0 84 (B0 + i)) (h85 : ∀ i, J 85 i = J0 85 i) : SPr g I J b c B := by
  have e1 : mdG J 83 B = mdG J0 83 B0 := mdG_mv h83 (fun i hi => h84 i (by omega)) h85
  obtain ⟨s1, s2, s3⟩ := h
  obtain ⟨p, q, hpq, hq, e5, e4⟩ := s1.2.2.2.2.2
  have e5 : J0 84 B0 = nI p := e5
  have hg := s1.1.1
  refine ⟨by rw [e1]; exact s1, by rw [e1]; exact (eqS.of27 hg hb).tr s2, ?_⟩
  rw [show J 84 B = J0 84 B0 from h84 0 (by omega)]
  intro x hx
  have hx2 : x < p := by rw [e5, nI_clamp (by omega)] at hx; exact hx
  have h84' : ∀ i, i < 440 → J 84 (B + 18 + i) = J0 84 (B0 + 18 + i) := fun i hi => by
    have := h84 (18 + i) (by omega)
    rw [← Nat.add_assoc, ← Nat.add_assoc] at this
    exact this
  obtain ⟨a1, a2, a3, a4, a5, a6, a7, a8, a9, a10⟩ := s3 x hx
  have r : ∀ j, j < 11 → J 84 (B + 18 + 11 * x + j) = J0 84 (B0 + 18 + 11 * x + j) := fun j hj => by
    have := h84' (11 * x + j) (by omega)
    rw [← Nat.add_assoc, ← Nat.add_assoc] at this
    exact this
  have r0 : J 84 (B + 18 + 11 * x) = J0 84 (B0 + 18 + 11 * x) := r 0 (by omega)
  have r5 : ∀ i, i < g → J 84 (B + 18 + 11 * x + 5 + i) = J0 84 (B0 + 18 + 11 * x + 5 + i) := fun i hi => by
    have := r (5 + i) (by omega)
    rw [← Nat.add_assoc, ← Nat.add_assoc] at this
    exact this
  refine ⟨?_, ?_, ?_, ?_, ?_, fun i hi => ?_, ?_, ?_, ?_, fun i hi => ?_⟩
  · rw [hc _ (by omega), r0]; exact a1
  · rw [hc _ (by omega), r 1 (by omega)]; exact a2
  · rw [hc _ (by omega), r 2 (by omega)]; exact a3
  · rw [hc _ (by omega), r 4 (by omega)]; exact a4
  · rw [hc _ (by omega), r 3 (by omega)]; exact a5
  · rw [hc _ (by omega), r5 i hi]; exact a6 i hi
  · rw [r0]; exact a7
  · rw [r 1 (by omega)]; exact a8
  · rw [r 3 (by omega)]; exact a9
  · rw [r5 i hi]; exact a10 i hi
section OPS11
variable {L : Nat} {xs : Nat → Int32} {e W : Nat} {μ : ps_M}
theorem kept_any (r : Int32) : ∃ k, k < 3 ∧ (keptP r → r = nI k ∧ k < 3) := by
  by_cases q : keptP r
  · exact ⟨_, (kept_k q).2, kept_k⟩
  · exact ⟨0, by omega, fun z => absurd z q⟩
theorem op_keep (h : Inv W μ) (k : Int32) : opI (ps_XX L xs) e j_X7_keep j_X8_keep [.int k] W μ := by
  obtain ⟨g, h1, h2, h3, h4, h5⟩ := h.2.2.2.2.1
  obtain ⟨t, ht, hk⟩ := kept_any k
  have I2 := h3.1
  have E := h3.2.1
  have I1 := shI_eqS I2 E.sym
  have c := kq_keep (L := L) (xs := xs) (d := e + 17) h.1 I1.2.2.1 hk
  by_cases b1 : ¬ keptP k
  · have m := mq_keep (L := L) (xs := xs) (d := e + 17) h.2.1 hk
    rw [if_pos b1] at c m
    exact ⟨_, _, _, c, m, (by first | exact h.2.1.1 | exact hm.1 | exact hi.2.1.1 | exact hi1.2.1.1 | exact (hi1.2.1.of fν.2.2.1 fν.2.2.2.1).1 | (rw [hs.2.2.1]; exact h.2.1.1)), h⟩
  rw [if_neg b1] at c
  have e8 : ps_i μ 4 8 = ps_i μ 83 1 := E.1 8 (by omega)
  by_cases b2 : ps_i μ 4 8 = 0
  · have m := mq_keep (L := L) (xs := xs) (d := e + 17) h.2.1 hk
    rw [if_pos b2] at c
    rw [if_neg b1, if_pos (e8 ▸ b2)] at m
    exact ⟨_, _, _, c, m, (by first | exact h.2.1.1 | exact hm.1 | exact hi.2.1.1 | exact hi1.2.1.1 | exact (hi1.2.1.of fν.2.2.1 fν.2.2.2.1).1 | (rw [hs.2.2.1]; exact h.2.1.1)), h⟩
  rw [if_neg b2] at c
  obtain ⟨ξ, hξ⟩ : ∃ ξ, ξ = SM μ (65 + 6 * t + 1) (shG (ps_i μ) 4) := ⟨_, rfl⟩
  rw [← hξ] at c
  obtain ⟨ζ, hζ⟩ : ∃ ζ, ζ = ps_cp ξ 8 0 (65 + 6 * t + 5) 0 440 := ⟨_, rfl⟩
  rw [← hζ] at c
  obtain ⟨ν, hν⟩ : ∃ ν, ν = ps_sI ζ (65 + 6 * t) 1 1 := ⟨_, rfl⟩
  rw [← hν] at c
  have fξ : fldP ξ μ := by rw [hξ]; exact ⟨rfl, rfl, rfl, rfl, rfl⟩
  have fζ : fldP ζ ξ := by rw [hζ]; exact ⟨rfl, rfl, rfl, rfl, rfl⟩
  have fν : fldP ν ζ := by rw [hν]; exact ⟨rfl, rfl, rfl, rfl, rfl⟩
  have hA : fldP ν μ := (fν.tr fζ).tr fξ
  have hv : ∀ a i, ¬ (a = 65 + 6 * t ∧ i = 1) → ¬ (65 + 6 * t + 1 ≤ a ∧ a ≤ 65 + 6 * t + 5) → ps_i ν a i = ps_i μ a i := fun a i z1 z2 => by rw [hν, sI_off (by omega), hζ, cp_at, if_neg (by omega), hξ, SM_off (by omega)]
  have hv1 : ps_i ν (65 + 6 * t) 1 = 1 := by rw [hν, sI_at]
  have hv4 : ∀ a i, 65 + 6 * t + 1 ≤ a ∧ a ≤ 65 + 6 * t + 1 + 3 → ps_i ν a i = ps_i ξ a i := fun a i z => by rw [hν, sI_off (by omega), hζ, cp_at, if_neg (by omega)]
  have hv5 : ∀ i, i < 440 → ps_i ν (65 + 6 * t + 5) i = ps_i μ 8 i := fun i hi => by
    rw [hν, sI_off (by omega), hζ, cp_at, if_pos ⟨rfl, by omega, by omega⟩, hξ, SM_off (by omega), Nat.sub_zero, Nat.zero_add]
  have hm : isMd ν 83 := h.2.1.of hA.2.2.1 hA.2.2.2.1
  have m := mq_keep (L := L) (xs := xs) (d := e + 17) hm hk
  rw [if_neg b1, hv 83 1 (by omega) (by omega), if_neg (by rw [← e8]; exact b2), hv (83 + 1) 0 (by omega) (by omega), show ps_i μ (83 + 1) 0 = ps_i μ 4 5 from (E.1 5 (by omega)).symm] at m
  refine ⟨_, _, _, c, m, (by first | exact h.2.1.1 | exact hm.1 | exact hi.2.1.1 | exact hi1.2.1.1 | exact (hi1.2.1.of fν.2.2.1 fν.2.2.2.1).1 | (rw [hs.2.2.1]; exact h.2.1.1)), ?_⟩
  obtain ⟨ω, hω⟩ : ∃ ω, ω = ps_wI ν (cpR (ps_i ν) (83 + 1) 0 (458 * (1 + t)) 458) := ⟨_, rfl⟩
  rw [← hω]
  have fω : fldP ω ν := by rw [hω]; exact ⟨rfl, rfl, rfl, rfl, rfl⟩
  have hB := fω.tr hA
  have qν : ∀ a i, ¬ (a = 84 ∧ 458 * (1 + t) ≤ i ∧ i < 458 * (1 + t) + 458) → ps_i ω a i = ps_i ν a i := fun a i z => by rw [hω, wcp_at, if_neg (by omega)]
  have q84 : ∀ i, i < 458 → ps_i ω 84 (458 * (1 + t) + i) = ps_i μ 84 (0 + i) := fun i hi => by
    rw [hω, wcp_at, if_pos ⟨rfl, by omega, by omega⟩, show 0 + (458 * (1 + t) + i - 458 * (1 + t)) = 0 + i by omega]
    exact hv 84 _ (by omega) (by omega)
  have q : ∀ a i, ¬ (a = 84 ∧ 458 * (1 + t) ≤ i ∧ i < 458 * (1 + t) + 458 ∨ a = 65 + 6 * t ∧ i = 1 ∨ 65 + 6 * t + 1 ≤ a ∧ a ≤ 65 + 6 * t + 5) → ps_i ω a i = ps_i μ a i := fun a i z => by
    rw [qν a i (by omega)]; exact hv a i (by omega) (by omega)
  refine Inv.mk (g := g) h hB.1 hB.2.1 hB.2.2.1 hB.2.2.2.1 ⟨h1.c (fun a i _ _ => q _ _ (by omega)) (fun a i _ _ => q _ _ (by omega)), h2.c (fun a i _ _ => q _ _ (by omega)) (fun a i _ _ => q _ _ (by omega)), h3.c (fun a i _ _ => q _ _ (by omega)) (fun i => q _ _ (by omega)) (fun i hi => q _ _ (by omega)) (fun i _ _ => q _ _ (by omega)) (fun i => q _ _ (by omega)), fun x hx => ?_, h5.c (fun i _ => q _ _ (by omega)) (fun i => q _ _ (by omega)) (fun i _ => q _ _ (by omega)) (fun i => q _ _ (by omega))⟩ ?_ ?_
  · by_cases z : x = t
    · subst z
      refine Or.inr ⟨by rw [qν _ _ (by omega)]; exact hv1, h3.mv (fun k hk => ?_) (fun i hi => ?_) (fun i hi => q _ _ (by omega)) q84 (fun i => q _ _ (by omega))⟩
      · rw [shG_cells (J := ps_i ξ) (fun a i w1 w2 => by rw [qν _ _ (by omega)]; exact hv4 a i ⟨w1, w2⟩), hξ]
        exact shG_SM hk
      · rw [qν _ _ (by omega)]; exact hv5 i hi
    · rw [q _ _ (by omega), q _ _ (by omega)]
      rcases h4 x hx with y | y
      · exact Or.inl y
      · exact Or.inr ⟨y.1, y.2.c (fun a i _ _ => q _ _ (by omega)) (fun i => q _ _ (by omega)) (fun i hi => q _ _ (by omega)) (fun i _ _ => q _ _ (by omega)) (fun i => q _ _ (by omega))⟩
  · rw [hB.2.2.2.2]; exact h.2.2.2.2.2.1
  · rw [hB.2.2.2.2]; exact h.2.2.2.2.2.2
theorem op_on (h : Inv W μ) (k : Int32) : opI (ps_XX L xs) e j_X7_on j_X8_on [.int k] W μ := by
  obtain ⟨g, h1, h2, h3, h4, h5⟩ := h.2.2.2.2.1
  obtain ⟨t, ht, hk⟩ := kept_any k
  have c := kq_on (L := L) (xs := xs) (d := e + 17) h.1 hk (fun _ w => by
    rcases h4 t ht with y | y
    · exact absurd y.2 w
    · have e7 : ps_i μ (65 + 6 * t + 1) 7 = mdG (ps_i μ) 83 (458 * (1 + t)) 7 := y.2.2.1.1 7 (by omega)
      rw [e7]; exact y.2.1.2.2.1)
  by_cases b1 : ¬ keptP k
  · have m := mq_on (L := L) (xs := xs) (d := e + 17) h.2.1 hk
    rw [if_pos b1] at c m
    exact ⟨_, _, _, c, m, (by first | exact h.2.1.1 | exact hm.1 | exact hi.2.1.1 | exact hi1.2.1.1 | exact (hi1.2.1.of fν.2.2.1 fν.2.2.2.1).1 | (rw [hs.2.2.1]; exact h.2.1.1)), h⟩
  rw [if_neg b1] at c
  rcases h4 t ht with y | y
  · rw [if_pos y.2] at c
    have m := mq_on (L := L) (xs := xs) (d := e + 17) (μ := FC μ 1) (h.2.1.of rfl rfl) hk
    rw [if_neg b1, FC_hi (by omega), show ps_i μ (83 + 1) (458 * (1 + t)) = -1 from y.1, if_pos (by decide)] at m
    exact ⟨_, _, _, c, m, (by first | exact h.2.1.1 | exact hm.1 | exact hi.2.1.1 | exact hi1.2.1.1 | exact (hi1.2.1.of fν.2.2.1 fν.2.2.2.1).1 | (rw [hs.2.2.1]; exact h.2.1.1)), FCM h (by omega)⟩
  have kp := h.kp ht
  have y1 : ¬ ps_i μ (65 + 6 * t) 1 = 0 := by rw [y.1]; decide
  rcases kp with y0 | kp
  · exact absurd y0.2 y1
  rw [if_neg y1] at c
  obtain ⟨ξ, hξ⟩ : ∃ ξ, ξ = SM μ 4 (shG (ps_i μ) (65 + 6 * t + 1)) := ⟨_, rfl⟩
  rw [← hξ] at c
  obtain ⟨ν, hν⟩ : ∃ ν, ν = ps_cp ξ (65 + 6 * t + 5) 0 8 0 440 := ⟨_, rfl⟩
  rw [← hν] at c
  have fξ : fldP ξ μ := by rw [hξ]; exact ⟨rfl, rfl, rfl, rfl, rfl⟩
  have fν : fldP ν ξ := by rw [hν]; exact ⟨rfl, rfl, rfl, rfl, rfl⟩
  have hA : fldP ν μ := fν.tr fξ
  have hv : ∀ a i, ¬ (4 ≤ a ∧ a ≤ 8) → ps_i ν a i = ps_i μ a i := fun a i z1 => by rw [hν, cp_at, if_neg (by omega), hξ, SM_off (by omega)]
  have hv4 : ∀ a i, 4 ≤ a ∧ a ≤ 7 → ps_i ν a i = ps_i ξ a i := fun a i z => by rw [hν, cp_at, if_neg (by omega)]
  have hv5 : ∀ i, i < 440 → ps_i ν 8 i = ps_i μ (65 + 6 * t + 5) i := fun i hi => by
    rw [hν, cp_at, if_pos ⟨rfl, by omega, by omega⟩, hξ, SM_off (by omega), Nat.sub_zero, Nat.zero_add]
  have hm : isMd ν 83 := h.2.1.of hA.2.2.1 hA.2.2.2.1
  have m := mq_on (L := L) (xs := xs) (d := e + 17) hm hk
  rw [if_neg b1, hv (83 + 1) _ (by omega), if_neg (Classical.not_not.mpr (Int32.not_lt.mp kp.2.1)), show ps_i μ (83 + 1) (458 * (1 + t)) = ps_i μ (65 + 6 * t + 1) 5 from kp.2.2.symm] at m
  refine ⟨_, _, _, c, m, (by first | exact h.2.1.1 | exact hm.1 | exact hi.2.1.1 | exact hi1.2.1.1 | exact (hi1.2.1.of fν.2.2.1 fν.2.2.2.1).1 | (rw [hs.2.2.1]; exact h.2.1.1)), ?_⟩
  obtain ⟨ω, hω⟩ : ∃ ω, ω = ps_wI ν (cpR (ps_i ν) (83 + 1) (458 * (1 + t)) 0 458) := ⟨_, rfl⟩
  rw [← hω]
  have fω : fldP ω ν := by rw [hω]; exact ⟨rfl, rfl, rfl, rfl, rfl⟩
  have hB := fω.tr hA
  have qν : ∀ a i, ¬ (a = 84 ∧ i < 458) → ps_i ω a i = ps_i ν a i := fun a i z => by rw [hω, wcp_at, if_neg (by omega)]
  have q84 : ∀ i, i < 458 → ps_i ω 84 (0 + i) = ps_i μ 84 (458 * (1 + t) + i) := fun i hi => by
    rw [hω, wcp_at, if_pos ⟨rfl, by omega, by omega⟩, show 0 + i - 0 = i by omega]
    exact hv 84 _ (by omega)
  have q : ∀ a i, ¬ (a = 84 ∧ i < 458 ∨ 4 ≤ a ∧ a ≤ 8) → ps_i ω a i = ps_i μ a i := fun a i z => by
    rw [qν a i (by omega)]; exact hv a i (by omega)
  refine Inv.mk (g := g) h hB.1 hB.2.1 hB.2.2.1 hB.2.2.2.1 ⟨h1.c (fun a i _ _ => q _ _ (by omega)) (fun a i _ _ => q _ _ (by omega)), h2.c (fun a i _ _ => q _ _ (by omega)) (fun a i _ _ => q _ _ (by omega)), y.2.mv (fun k hk => ?_) (fun i hi => ?_) (fun i hi => q _ _ (by omega)) q84 (fun i => q _ _ (by omega)), h4.c (fun a i _ _ => q _ _ (by omega)) (fun i hi => q _ _ (by omega)) (fun i _ _ => q _ _ (by omega)) (fun i => q _ _ (by omega)), h5.c (fun i _ => q _ _ (by omega)) (fun i => q _ _ (by omega)) (fun i _ => q _ _ (by omega)) (fun i => q _ _ (by omega))⟩ ?_ ?_
  · rw [shG_cells (J := ps_i ξ) (fun a i w1 w2 => by rw [qν _ _ (by omega)]; exact hv4 a i ⟨w1, by omega⟩), hξ]
    exact shG_SM hk
  · rw [qν _ _ (by omega)]; exact hv5 i hi
  · rw [hB.2.2.2.2]; exact h.2.2.2.2.2.1
  · rw [hB.2.2.2.2]; exact h.2.2.2.2.2.2
end OPS11
