-- ===== calls answered alike: undo =====
theorem unU_o {μ : ps_M} {m b k : Nat} {σ : Nat → Int32} (h : k = 1 ∨ k = 4 ∨ k = 5 ∨ (8 ≤ k ∧ k < 21)) : unU μ m b σ 11 k = σ k := by
  unfold unU
  rw [if_neg (by omega), if_neg (by omega), if_neg (by omega), if_neg (by omega), if_neg (by omega), if_neg (by omega)]
theorem unU_str {μ : ps_M} {m b i : Nat} {σ : Nat → Int32} (h : i < 6) : unU μ m b σ 11 (21 + i) = ps_i μ (m + 1) (b + 5 + i) := by
  unfold unU
  rw [if_neg (by omega), if_neg (by omega), if_neg (by omega), if_neg (by omega), if_neg (by omega), if_pos (by omega), if_pos (by omega), show b + (21 + i - 16) = b + 5 + i by omega]
theorem gbF_o {P : Nat → Int32} {b n k : Nat} {σ : Nat → Int32} (h : k = 1 ∨ k = 4 ∨ (8 ≤ k ∧ k < 21)) : gbF P b n σ k = σ k := by
  unfold gbF
  rw [if_neg (by omega), if_neg (by omega), if_neg (by omega), if_neg (by omega), if_neg (by omega), if_neg (by omega), if_neg (by omega)]
theorem gbF_s {P : Nat → Int32} {b n i : Nat} {σ : Nat → Int32} (h : i < 6) : gbF P b n σ (21 + i) = P (b + 5 + i) := by
  unfold gbF
  rw [if_neg (by omega), if_neg (by omega), if_neg (by omega), if_neg (by omega), if_neg (by omega), if_neg (by omega), if_pos (by omega), show b + (21 + i - 16) = b + 5 + i by omega]
theorem eqS.lim {g : Nat} {σ τ : Nat → Int32} (hg : g ≤ 6) (E : eqS g σ τ) : eqS g (limU σ g) (limU τ g) := by
  refine ⟨fun k hk => ?_, fun i hi => ⟨?_, ?_, ?_⟩⟩
  · rw [limU_lo (by omega), limU_lo (by omega)]; exact E.1 k hk
  · rw [limU_lo (by omega), limU_lo (by omega)]; exact (E.2 i hi).1
  · rw [limU_lo (by omega), limU_lo (by omega)]; exact (E.2 i hi).2.1
  · rw [limU_at hi, limU_at hi, (E.2 i hi).2.1, (E.2 i hi).2.2]
theorem lim_5 {U : Nat → Int32} {g : Nat} {v : Int32} : limU (upd U 5 v) g = upd (limU U g) 5 v := by
  funext k
  by_cases z : k = 5
  · subst z; rw [limU_lo (by omega), pk_us, pk_us]
  · rw [pk_un (by omega)]
    unfold limU
    by_cases y : 21 ≤ k ∧ k < 21 + g
    · rw [if_pos y, if_pos y, pk_un (by omega), pk_un (by omega)]
    · rw [if_neg y, if_neg y, pk_un (by omega)]
theorem lim_id {τ : Nat → Int32} {g : Nat} (h : shI g τ) : limU τ g = τ := by
  funext k
  by_cases y : 21 ≤ k ∧ k < 21 + g
  · obtain ⟨i, rfl⟩ : ∃ i, k = 21 + i := ⟨k - 21, by omega⟩
    rw [limU_at (by omega)]
    obtain ⟨f, hf, ef, s, hs, es⟩ := h.2.1 i (by omega)
    rw [ef, es, if_neg (Int32.not_lt.mpr (nI_le hs (by omega)))]
  · unfold limU; rw [if_neg y]
theorem shI_lim {g : Nat} {T : Nat → Int32} (hok : shOK g T) (hf : ∀ i, i < g → ∃ f, f ≤ 9 ∧ T (15 + i) = nI f) (h7 : T 7 = 0 ∨ T 7 = 1) (h2 : ∃ c, c ≤ 9 ∧ T 2 = nI c) (h0 : ¬ T 0 < 0) (h5 : ∃ p h, p ≤ h ∧ h ≤ 40 ∧ T 5 = nI p ∧ T 4 = nI h) : shI g (limU T g) := by
  have hg := hok.1
  have hs : ∀ i, i < g → ∃ f, f ≤ 9 ∧ T (15 + i) = nI f ∧ ∃ s, s ≤ f ∧ s ≤ 9 ∧ limU T g (21 + i) = nI s := fun i hi => by
    obtain ⟨f, hf9, ef⟩ := hf i hi
    obtain ⟨s, hs9, es⟩ := (hok.2.2 i hi).2
    refine ⟨f, hf9, ef, ?_⟩
    rw [limU_at hi, ef, es]
    by_cases b : nI f < nI s
    · rw [if_pos b]; exact ⟨f, Nat.le_refl f, hf9, rfl⟩
    · rw [if_neg b]
      exact ⟨s, Nat.le_of_not_lt fun w => b (nI_lt w (by omega)), hs9, rfl⟩
  refine ⟨⟨hg, (limU_lo (by omega)).trans hok.2.1, fun i hi => ⟨?_, ?_⟩⟩, fun i hi => ?_, ?_, ?_, ?_, ?_⟩
  · rw [limU_lo (by omega)]; exact (hok.2.2 i hi).1
  · obtain ⟨f, _, _, s, _, h1, h2⟩ := hs i hi; exact ⟨s, h1, h2⟩
  · obtain ⟨f, a1, a2, s, a3, a4, a5⟩ := hs i hi
    rw [limU_lo (by omega)]
    exact ⟨f, a1, a2, s, a3, a5⟩
  · rw [limU_lo (by omega)]; exact h7
  · rw [limU_lo (by omega)]; exact h2
  · rw [limU_lo (by omega)]; exact h0
  · rw [limU_lo (by omega), limU_lo (by omega)]; exact h5
section OPS9
variable {L : Nat} {xs : Nat → Int32} {e W : Nat} {μ : ps_M}
theorem op_undo (h : Inv W μ) (n : Int32) : opI (ps_XX L xs) e j_X7_undo j_X8_undo [.int n] W μ := by
  obtain ⟨g, σ, τ, s1, s2, s3, s4, I1, I2, E, hK, hP⟩ := h.shd
  have I2' := I2
  obtain ⟨⟨hg, h8, hst⟩, hf, h7, hc2, h0, p, hh, hph, hh40, e5, e4⟩ := I2'
  have e5s : σ 5 = nI p := (E.1 5 (by omega)).trans e5
  have hnk : 0 ≤ n ∧ n ≤ nI p → n = nI n.toNatClampNeg ∧ n.toNatClampNeg ≤ p := fun q => n_k (M := p) (by omega) q.1 q.2
  generalize n.toNatClampNeg = N at hnk
  have c := kq_undo (L := L) (xs := xs) (d := e + 17) h.1 I1 e5s (by omega) (N := N) (n := n) (fun q => hnk ⟨Int32.not_lt.mp q.1, e5s ▸ q.2⟩)
  rw [s1] at c
  have pN : N < p → pastR g (ps_i μ 8) (ps_i μ 84) (11 * N) (18 + 11 * N) := fun w => hP N (by rw [e5, nI_clamp (by omega)]; exact w)
  have m := fun (ν : ps_M) (hm : isMd ν 83) (hv : ∀ i, ps_i ν 84 i = ps_i μ 84 i) => mq_undo2 (L := L) (xs := xs) (d := e + 17) hm e5 (by omega) (N := N) (n := n) (fun q => hnk ⟨q.1, e5 ▸ q.2⟩) (fun w => ⟨hg, (unU_o (by omega)).trans h8, fun i hi => ⟨by rw [unU_o (by omega)]; exact (hst i hi).1, by rw [unU_str (by omega), hv]; exact (pN w).2.2.2.2.2.2.2.2.2 i hi⟩⟩) (fun w i hi => by
    rw [unU_o (by omega)]
    obtain ⟨f, a, b, -⟩ := hf i hi
    exact ⟨f, a, b⟩) I2
  by_cases b : ¬ (¬ n < 0 ∧ n ≤ σ 5)
  · rw [if_pos b] at c
    have m := m μ h.2.1 (fun _ => rfl)
    rw [if_pos (fun q => b ⟨Int32.not_lt.mpr q.1, by rw [E.1 5 (by omega)]; exact q.2⟩), s2] at m
    exact ⟨_, _, _, c, m, (by first | exact h.2.1.1 | exact hm.1 | exact hi.2.1.1 | exact hi1.2.1.1 | exact (hi1.2.1.of fν.2.2.1 fν.2.2.2.1).1 | (rw [hs.2.2.1]; exact h.2.1.1)), h⟩
  rw [if_neg b] at c
  have b := Classical.not_not.mp b
  have bm : ¬ ¬ (0 ≤ n ∧ n ≤ τ 5) := Classical.not_not.mpr ⟨Int32.not_lt.mp b.1, by rw [← E.1 5 (by omega)]; exact b.2⟩
  have hN := (hnk ⟨Int32.not_lt.mp b.1, e5s ▸ b.2⟩).2
  by_cases bp : p = N
  · rw [if_pos bp] at c
    have m := m μ h.2.1 (fun _ => rfl)
    rw [if_neg bm, if_pos bp, lim_id I2, upd_same (bp ▸ e5), s2] at m
    exact ⟨_, _, _, c, m, (by first | exact h.2.1.1 | exact hm.1 | exact hi.2.1.1 | exact hi1.2.1.1 | exact (hi1.2.1.of fν.2.2.1 fν.2.2.2.1).1 | (rw [hs.2.2.1]; exact h.2.1.1)), h⟩
  rw [if_neg bp] at c
  obtain ⟨a1, a2, a3, a4, a5, a6, a7, a8, a9, a10⟩ := pN (by omega)
  obtain ⟨σ', hσ⟩ : ∃ σ', σ' = limU (gbF (ps_i μ 8) (11 * N) N σ) g := ⟨_, rfl⟩
  rw [← hσ] at c
  obtain ⟨ν, hν⟩ : ∃ ν, ν = SM μ 4 σ' := ⟨_, rfl⟩
  have hv : ∀ a i, ¬ (4 ≤ a ∧ a ≤ 7) → ps_i ν a i = ps_i μ a i := fun a i z => by rw [hν, SM_off (by omega)]
  have hv4 : ∀ b i, 4 ≤ b ∧ b ≤ 7 → ps_i ν b i = ps_i (SM μ 4 σ') b i := fun b i _ => by rw [hν]
  have hA : ps_n ν = ps_n μ ∧ ps_w ν = ps_w μ ∧ ps_s ν = ps_s μ ∧ ps_r ν = ps_r μ ∧ ps_l ν = ps_l μ := by rw [hν]; exact ⟨rfl, rfl, rfl, rfl, rfl⟩
  have hm : isMd ν 83 := h.2.1.of hA.2.2.1 hA.2.2.2.1
  rw [← hν] at c
  have m := m ν hm (fun i => hv 84 i (by omega))
  have q1 : MS ν 83 0 τ = ν := MS_id s4 (fun a i h1 _ _ => hv a i (by omega))
  rw [if_neg bm, if_neg bp, q1, ← lim_5] at m
  have v84 : ∀ i, ps_i ν (83 + 1) i = ps_i μ 84 i := fun i => hv 84 i (by omega)
  have E1 : eqS g (gbF (ps_i μ 8) (11 * N) N σ) (upd (unU ν 83 (18 + 11 * N) τ 11) 5 (nI N)) := by
    refine ⟨fun k hk => ?_, fun i hi => ⟨?_, ?_, ?_⟩⟩
    · rcases (show k = 0 ∨ k = 1 ∨ k = 2 ∨ k = 3 ∨ k = 4 ∨ k = 5 ∨ k = 6 ∨ k = 7 ∨ k = 8 by omega) with rfl | rfl | rfl | rfl | rfl | rfl | rfl | rfl | rfl
      · rw [pk_un (by omega)]; exact a1.trans (v84 _).symm
      · rw [pk_un (by omega), unU_o (by omega), gbF_o (by omega)]; exact E.1 1 (by omega)
      · rw [pk_un (by omega)]; exact a2.trans (v84 _).symm
      · rw [pk_un (by omega)]; exact a3.trans (v84 _).symm
      · rw [pk_un (by omega), unU_o (by omega), gbF_o (by omega)]; exact E.1 4 (by omega)
      · rw [pk_us]; rfl
      · rw [pk_un (by omega)]; exact a4.trans (v84 _).symm
      · rw [pk_un (by omega)]
        refine Eq.trans ?_ (v84 (18 + 11 * N + 3)).symm
        show (if ps_i μ 8 (11 * N + 4) = 0 then (0 : Int32) else 1) = _
        rw [a5]
        rcases a9 with z | z
        · rw [z]; rfl
        · rw [z]; rfl
      · rw [pk_un (by omega), unU_o (by omega), gbF_o (by omega)]; exact E.1 8 (by omega)
    · rw [pk_un (by omega), unU_o (by omega), gbF_o (by omega)]; exact (E.2 i hi).1
    · rw [pk_un (by omega), unU_o (by omega), gbF_o (by omega)]; exact (E.2 i hi).2.1
    · rw [pk_un (by omega), unU_str (by omega), gbF_s (by omega), v84]; exact a6 i hi
  have I' : shI g (limU (upd (unU ν 83 (18 + 11 * N) τ 11) 5 (nI N)) g) := by
    refine shI_lim ⟨hg, ?_, fun i hi => ⟨?_, ?_⟩⟩ (fun i hi => ?_) ?_ ?_ ?_ ⟨N, hh, by omega, hh40, pk_us, ?_⟩
    · rw [pk_un (by omega), unU_o (by omega)]; exact h8
    · rw [pk_un (by omega), unU_o (by omega)]; exact (hst i hi).1
    · rw [pk_un (by omega), unU_str (by omega), v84]; exact a10 i hi
    · rw [pk_un (by omega), unU_o (by omega)]
      obtain ⟨f, a, b, -⟩ := hf i hi
      exact ⟨f, a, b⟩
    · rw [pk_un (by omega), show unU ν 83 (18 + 11 * N) τ 11 7 = ps_i μ 84 (18 + 11 * N + 3) from v84 _]; exact a9
    · rw [pk_un (by omega), show unU ν 83 (18 + 11 * N) τ 11 2 = ps_i μ 84 (18 + 11 * N + 1) from v84 _]; exact a8
    · rw [pk_un (by omega), show unU ν 83 (18 + 11 * N) τ 11 0 = ps_i μ 84 (18 + 11 * N) from v84 _]; exact a7
    · rw [pk_un (by omega), unU_o (by omega)]; exact e4
  refine ⟨_, _, _, c, m, (by first | exact h.2.1.1 | exact hm.1 | exact hi.2.1.1 | exact hi1.2.1.1 | exact (hi1.2.1.of fν.2.2.1 fν.2.2.2.1).1 | (rw [hs.2.2.1]; exact h.2.1.1)), inv_sm (A := μ) (σ' := σ') h hK hA (fun a i z1 z2 => hv a i (by omega)) hv4 ?_ I' (by rw [hσ]; exact E1.lim hg) (fun y hy => ?_)⟩
  · rw [← s4]
    intro k h1 h2
    rw [limU_lo (by omega), pk_un (by omega), unU_o (by omega)]
  · rw [limU_lo (by omega), pk_us, nI_clamp (by omega)] at hy
    exact (hP y (by rw [e5, nI_clamp (by omega)]; omega)).c hg (fun i _ _ => hv _ _ (by omega)) (fun i _ _ => hv _ _ (by omega))
end OPS9
