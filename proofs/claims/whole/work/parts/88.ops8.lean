-- ===== calls answered alike: force, undo =====
section UNDO2
variable {L : Nat} {xs : Nat → Int32} {d : Nat} {μ : ps_M} {m : Nat} {σ : Nat → Int32} {g : Nat}
theorem mq_undo2 (hm : isMd μ m) {p N : Nat} (e5 : σ 5 = nI p) (hp : p ≤ 40) {n : Int32} (hn : 0 ≤ n ∧ n ≤ σ 5 → n = nI N ∧ N ≤ p) (hok : N < p → shOK g (unU μ m (18 + 11 * N) σ 11)) (hf : N < p → ∀ i, i < g → ∃ f, f ≤ 9 ∧ unU μ m (18 + 11 * N) σ 11 (15 + i) = nI f) (hok2 : shI g σ) : evI (ps_XX L xs) (d + 3) j_X8_undo [.ref m, .int n] (MS μ m 0 σ) (if ¬ (0 ≤ n ∧ n ≤ σ 5) then (-1, MS μ m 0 σ) else (nI p - nI N, MS μ m 0 (upd (limU (if p = N then σ else unU μ m (18 + 11 * N) σ 11) g) 5 (nI N)))) := by
  refine ⟨Nat.le_of_ble_eq_true rfl, ?_⟩
  have hf2 : ∀ i, i < g → ∃ f, f ≤ 9 ∧ σ (15 + i) = nI f := fun i hi => by
    obtain ⟨f, a, b, -⟩ := hok2.2.1 i hi
    exact ⟨f, a, b⟩
  refine e_2 rfl rfl ?_
  refine e_25 rfl ?_
  refine e_1 rfl ?_
  refine e_4 rfl rfl ?_
  refine e_gr rfl hm.1 rfl hm.2.2.2.2.2.2.2.2.2.1 ?_
  refine e_0 rfl ?_
  refine m_ald (k := 0) (x := 5) (by exact hm) (by omega) (by first | rfl | (simp only [← nI_add, ← pk_mul, Nat.zero_add]; rfl)) (by omega) (by first | rfl | (rw [mdX_lo (by omega) (by omega)]; omega) | (rw [mdX_hi (by omega)]; omega)) rfl ?_
  refine e_25 rfl ?_
  refine e_s3 rfl rfl rfl (Nat.le_of_ble_eq_true rfl) (sm_in n 0 (σ 5) (by decide) rfl) ?_
  refine e_31b rfl (fun h1 => ?_) (fun h1 => ?_)
  · obtain ⟨rfl, hN⟩ := hn h1
    rw [e5] at h1 ⊢
    refine e_4 rfl rfl ?_
    refine e_gr rfl hm.1 rfl hm.2.2.2.2.2.2.2.2.2.1 ?_
    refine e_0 rfl ?_
    refine m_ald (k := 0) (x := 5) (by exact hm) (by omega) (by first | rfl | (simp only [← nI_add, ← pk_mul, Nat.zero_add]; rfl)) (by omega) (by first | rfl | (rw [mdX_lo (by omega) (by omega)]; omega) | (rw [mdX_hi (by omega)]; omega)) rfl ?_
    refine e_2 rfl rfl ?_
    refine e_10 rfl ?_
    rw [e5]
    refine e_5 rfl rfl ?_
    refine e_0 rfl ?_
    refine e_5 rfl rfl ?_
    by_cases hpN : p = N
    · subst hpN
      rw [if_neg (Classical.not_not.mpr h1), if_pos rfl]
      have h := mt_undo_l2 (L := L) (xs := xs) (d := d + 1) hm hok2.1 hf2 (N := p) (nI p - nI p) g 0 (by omega)
      rw [limU_0] at h
      refine e_2 rfl rfl ?_
      refine e_0 rfl ?_
      refine e_39 rfl (fun z => absurd z (by decide)) (fun _ => ?_)
      refine e_2 rfl rfl ?_
      refine e_35 rfl (fun _ => ?_) (fun z => absurd (show nI p - nI p ≤ 0 by rw [pk_sub (Nat.le_refl p), Nat.sub_self]; decide) z)
      refine e_0 rfl ?_
      refine e_5 rfl rfl ?_
      exact h
    · rw [if_neg (Classical.not_not.mpr h1), if_neg hpN]
      have h := mt_undo_l1 (L := L) (xs := xs) (d := d + 1) hm (N := N) (by omega) (w := nI p - nI N) (by rw [pk_sub hN]; exact nI_nle (by omega) (by omega)) (hok (by omega)) (hf (by omega)) 11 0 (by omega)
      rw [unU_0] at h
      exact h
  · refine e_0 rfl ?_
    exact e_ri rfl rfl (by first | (simp only [eq_false h1, if_true, if_true, if_false, not_true_eq_false, not_false_eq_true, and_true, true_and, and_false, false_and, or_true, true_or, or_false, false_or, reduceIte]; done) | (simp only [eq_false h1, if_true, if_true, if_false, not_true_eq_false, not_false_eq_true, and_true, true_and, and_false, false_and, or_true, true_or, or_false, false_or, reduceIte]; rfl) | rfl) (by first | (simp only [eq_false h1, if_true, if_true, if_false, not_true_eq_false, not_false_eq_true, and_true, true_and, and_false, false_and, or_true, true_or, or_false, false_or, reduceIte]; done) | (simp only [eq_false h1, if_true, if_true, if_false, not_true_eq_false, not_false_eq_true, and_true, true_and, and_false, false_and, or_true, true_or, or_false, false_or, reduceIte]; rfl) | rfl)
end UNDO2
section OPS8
variable {L : Nat} {xs : Nat → Int32} {e W : Nat} {μ : ps_M}
def frU (τ : Nat → Int32) (x : Nat) (v : Int32) : Nat → Int32 := upd (upd τ (15 + x) v) (21 + x) (if τ (21 + x) ≤ v then τ (21 + x) else v)
theorem frU_o {τ : Nat → Int32} {x k : Nat} {v : Int32} (h1 : ¬ k = 15 + x) (h2 : ¬ k = 21 + x) : frU τ x v k = τ k := by unfold frU; rw [pk_un (by omega), pk_un (by omega)]
theorem frU_f {τ : Nat → Int32} {x : Nat} {v : Int32} : frU τ x v (15 + x) = v := by unfold frU; rw [pk_un (by omega), pk_us]
theorem frU_s {τ : Nat → Int32} {x : Nat} {v : Int32} : frU τ x v (21 + x) = if τ (21 + x) ≤ v then τ (21 + x) else v := by unfold frU; rw [pk_us]
theorem shI_fr {g : Nat} {τ : Nat → Int32} (h : shI g τ) {x f : Nat} (hx : x < g) (hf9 : f ≤ 9) : shI g (frU τ x (nI f)) := by
  obtain ⟨⟨hg, h8, hst⟩, hf, h7, ⟨c2, hc2, e2⟩, h0, p, q, hpq, hq, e5, e4⟩ := h
  have es : ∃ s, s ≤ f ∧ s ≤ 9 ∧ frU τ x (nI f) (21 + x) = nI s := by
    obtain ⟨s, hs, es⟩ := (hst x hx).2
    rw [frU_s, es]
    by_cases b : nI s ≤ nI f
    · rw [if_pos b]
      refine ⟨s, Nat.le_of_not_lt fun w => nI_ge (a := f) (b := s) w (by omega) b, hs, rfl⟩
    · rw [if_neg b]; exact ⟨f, Nat.le_refl f, hf9, rfl⟩
  refine ⟨⟨hg, (frU_o (by omega) (by omega)).trans h8, fun i hi => ⟨?_, ?_⟩⟩, fun i hi => ?_, ?_, ⟨c2, hc2, (frU_o (by omega) (by omega)).trans e2⟩, ?_, p, q, hpq, hq, (frU_o (by omega) (by omega)).trans e5, (frU_o (by omega) (by omega)).trans e4⟩
  · rw [frU_o (by omega) (by omega)]; exact (hst i hi).1
  · by_cases z : i = x
    · subst z; obtain ⟨s, h1, h2, h3⟩ := es; exact ⟨s, h2, h3⟩
    · rw [frU_o (by omega) (by omega)]; exact (hst i hi).2
  · by_cases z : i = x
    · subst z; obtain ⟨s, h1, h2, h3⟩ := es; exact ⟨f, hf9, frU_f, s, h1, h3⟩
    · rw [frU_o (by omega) (by omega), frU_o (by omega) (by omega)]; exact hf i hi
  · rw [frU_o (by omega) (by omega)]; exact h7
  · rw [frU_o (by omega) (by omega)]; exact h0
theorem limU_at {σ : Nat → Int32} {g i : Nat} (h : i < g) : limU σ g (21 + i) = if σ (15 + i) < σ (21 + i) then σ (15 + i) else σ (21 + i) := by
  unfold limU
  rw [if_pos ⟨by omega, by omega⟩, show 21 + i - 6 = 15 + i by omega]
theorem eq_fr {g : Nat} {σ τ : Nat → Int32} (h : shI g τ) (E : eqS g σ τ) {x : Nat} {v : Int32} (hx : x < g) : eqS g (limU (upd σ (15 + x) v) g) (frU τ x v) := by
  have hg := h.1.1
  refine ⟨fun k hk => ?_, fun i hi => ⟨?_, ?_, ?_⟩⟩
  · rw [limU_lo (by omega), pk_un (by omega), frU_o (by omega) (by omega)]; exact E.1 k hk
  · rw [limU_lo (by omega), pk_un (by omega), frU_o (by omega) (by omega)]; exact (E.2 i hi).1
  · rw [limU_lo (by omega)]
    by_cases z : i = x
    · subst z; rw [pk_us, frU_f]
    · rw [pk_un (by omega), frU_o (by omega) (by omega)]; exact (E.2 i hi).2.1
  · rw [limU_at hi]
    by_cases z : i = x
    · subst z
      rw [pk_us, pk_un (by omega), frU_s, (E.2 i hi).2.2]
      by_cases b : τ (21 + i) ≤ v
      · rw [if_pos b, if_neg (Int32.not_lt.mpr b)]
      · rw [if_neg b, if_pos (Int32.not_le.mp b)]
    · rw [pk_un (by omega), pk_un (by omega), frU_o (by omega) (by omega), (E.2 i hi).2.1, (E.2 i hi).2.2]
      obtain ⟨f, hf, ef, s, hs, es⟩ := h.2.1 i hi
      rw [ef, es, if_neg (Int32.not_lt.mpr (nI_le hs (by omega)))]
theorem op_force (h : Inv W μ) (i v : Int32) : opI (ps_XX L xs) e j_X7_force j_X8_force [.int i, .int v] W μ := by
  obtain ⟨g, σ, τ, s1, s2, s3, s4, I1, I2, E, hK, hP⟩ := h.shd
  have c := kq_force (L := L) (xs := xs) (d := e + 18) h.1 I1.1 (has_kF I1.1) v (i := i)
  rw [s1] at c
  by_cases b : ¬ (hasF σ i ∧ ¬ v < 1 ∧ v ≤ 9)
  · rw [if_pos b] at c
    have m := mq_force (L := L) (xs := xs) (d := e + 17) h.2.1 I2.1 (i := i) (has_kF I2.1) v
    rw [if_pos (fun q => b ⟨(E.has i).mpr q.1, Int32.not_lt.mpr q.2.1, q.2.2⟩), s2] at m
    exact ⟨_, _, _, c, m, (by first | exact h.2.1.1 | exact hm.1 | exact hi.2.1.1 | exact hi1.2.1.1 | exact (hi1.2.1.of fν.2.2.1 fν.2.2.2.1).1 | (rw [hs.2.2.1]; exact h.2.1.1)), h⟩
  rw [if_neg b] at c
  have b := Classical.not_not.mp b
  have hx := has_kF I1.1 b.1
  generalize i.toNatClampNeg = x at c hx
  obtain ⟨ν, hν⟩ : ∃ ν, ν = SM μ 4 (limU (upd σ (15 + x) v) g) := ⟨_, rfl⟩
  have hv : ∀ a i, ¬ (4 ≤ a ∧ a ≤ 7) → ps_i ν a i = ps_i μ a i := fun a i z => by rw [hν, SM_off (by omega)]
  have hv4 : ∀ b i, 4 ≤ b ∧ b ≤ 7 → ps_i ν b i = ps_i (SM μ 4 (limU (upd σ (15 + x) v) g)) b i := fun b i _ => by rw [hν]
  have hA : ps_n ν = ps_n μ ∧ ps_w ν = ps_w μ ∧ ps_s ν = ps_s μ ∧ ps_r ν = ps_r μ ∧ ps_l ν = ps_l μ := by rw [hν]; exact ⟨rfl, rfl, rfl, rfl, rfl⟩
  have hm : isMd ν 83 := h.2.1.of hA.2.2.1 hA.2.2.2.1
  rw [← hν] at c
  have m := mq_force (L := L) (xs := xs) (d := e + 17) hm I2.1 (i := i) (x := x) (fun _ => hx) v
  have q1 : MS ν 83 0 τ = ν := MS_id s4 (fun a i h1 _ _ => hv a i (by omega))
  rw [if_neg (Classical.not_not.mpr ⟨(E.has i).mp b.1, Int32.not_lt.mp b.2.1, b.2.2⟩), q1, ← (E.2 x hx.2).2.1] at m
  have hvv := n_k (M := 9) (by omega) (Int32.le_trans (show (0 : Int32) ≤ 1 by decide) (Int32.not_lt.mp b.2.1)) b.2.2
  have hg := I1.1.1
  have I' : shI g (frU τ x v) := by rw [hvv.1]; exact shI_fr I2 hx.2 hvv.2
  refine ⟨_, _, _, c, m, (by first | exact h.2.1.1 | exact hm.1 | exact hi.2.1.1 | exact hi1.2.1.1 | exact (hi1.2.1.of fν.2.2.1 fν.2.2.2.1).1 | (rw [hs.2.2.1]; exact h.2.1.1)), inv_sm (τ' := frU τ x v) (A := μ) h hK hA (fun a i z1 z2 => hv a i (by omega)) hv4 ?_ I' (eq_fr I2 E hx.2) (fun y hy => ?_)⟩
  · rw [← s4]; exact fun k h1 h2 => frU_o (by omega) (by omega)
  · rw [frU_o (by omega) (by omega)] at hy
    exact (hP y hy).c hg (fun i _ _ => hv _ _ (by omega)) (fun i _ _ => hv _ _ (by omega))
end OPS8
