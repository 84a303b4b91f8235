-- ===== calls answered alike: searches =====
theorem best_c {k1 k2 : Nat → Int32 × (Nat → Int32)} : ∀ n, (∀ x, x < n → (k1 x).1 = (k2 x).1 ∧ (k1 x).2 0 = (k2 x).2 0) → bestF k1 n = bestF k2 n
  | 0, _ => rfl
  | n + 1, h => by
    have ih := best_c n (fun x hx => h x (by omega))
    show (if ¬ (k1 n).1 = 0 ∧ ((bestF k1 n).1 = -9 ∨ ¬ (bestF k1 n).2 ≤ (k1 n).2 0) then (nI n, (k1 n).2 0) else bestF k1 n) = (if ¬ (k2 n).1 = 0 ∧ ((bestF k2 n).1 = -9 ∨ ¬ (bestF k2 n).2 ≤ (k2 n).2 0) then (nI n, (k2 n).2 0) else bestF k2 n)
    rw [ih, (h n (by omega)).1, (h n (by omega)).2]
theorem cntL_c {k1 k2 : Nat → Int32 × (Nat → Int32)} : ∀ n, (∀ x, x < n → (k1 x).1 = (k2 x).1) → cntL k1 n = cntL k2 n
  | 0, _ => rfl
  | n + 1, h => by
    show cntL k1 n + (if (k1 n).1 = 0 then 0 else 1) = cntL k2 n + (if (k2 n).1 = 0 then 0 else 1)
    rw [cntL_c n (fun x hx => h x (by omega)), h n (by omega)]
theorem frF_c {k1 k2 : Nat → Int32 × (Nat → Int32)} {N : Nat} : ∀ n, (∀ x, x < n → (k1 x).1 = (k2 x).1) → frF k1 N n = frF k2 N n
  | 0, _ => rfl
  | n + 1, h => by
    show frF k1 N n ||| (if (k1 n).1 = 0 then 0 else (1 : Int32) <<< (nI (dig N n 0) &&& 31)) = frF k2 N n ||| (if (k2 n).1 = 0 then 0 else (1 : Int32) <<< (nI (dig N n 0) &&& 31))
    rw [frF_c n (fun x hx => h x (by omega)), h n (by omega)]
theorem kp_c {g N : Nat} {σ τ : Nat → Int32} (hg : g ≤ 6) (E : eqS g σ τ) (h8 : σ 8 = nI g) (x : Nat) : (kpF g N σ x).1 = (kpF g N τ x).1 ∧ (kpF g N σ x).2 0 = (kpF g N τ x).2 0 := by
  unfold kpF
  by_cases z : sunkF σ
  · rw [if_pos z, if_pos (E.sunk.mp z)]; exact ⟨rfl, E.1 0 (by omega)⟩
  · rw [if_neg z, if_neg (fun q => z (E.sunk.mpr q))]
    have := eqS.keep hg N 0 σ τ (p := fun i => nI (dig N x i)) (q := fun i => nI (dig N x i)) (fun _ _ => rfl) E h8
    exact ⟨this.1, this.2.1 0 (by omega)⟩
theorem ld_c {g N : Nat} {σ τ : Nat → Int32} (hg : g ≤ 6) (hN : 0 < N) (E : eqS g σ τ) (h8 : σ 8 = nI g) (x : Nat) : (ldF g N σ x).1 = (ldF g N τ x).1 ∧ (ldF g N σ x).2 0 = (ldF g N τ x).2 0 := by
  have e2 := eqS.rota hg hN (p := fun i => nI (dig N x i)) (q := fun i => nI (dig N x i)) (fun _ _ => rfl) 40 0 σ τ hN E h8
  unfold ldF
  refine ⟨?_, e2.1 0 (by omega)⟩
  by_cases z : sunkF (rotaF g (fun i => nI (dig N x i)) N 40 0 σ)
  · rw [if_pos z, if_pos (e2.sunk.mp z)]
  · rw [if_neg z, if_neg (fun q => z (e2.sunk.mpr q))]
theorem keep_nn {g : Nat} {p : Nat → Int32} : ∀ n i (σ : Nat → Int32), shI g σ → ((keepF g p n i σ).1 = 0 ∨ (keepF g p n i σ).1 = 1) ∧ ¬ (keepF g p n i σ).2 0 < 0
  | 0, i, σ, h => ⟨Or.inr rfl, h.2.2.2.2.1⟩
  | n + 1, i, σ, h => by
    by_cases z : ¬ overF σ ∧ allowsF σ (p i)
    · rw [keep_y z]
      have h2 := shI_pass h z.2 (over_lt z.1)
      by_cases w : sunkF (passF g σ (p i))
      · rw [if_pos w]; exact ⟨Or.inl rfl, h2.2.2.2.2.1⟩
      · rw [if_neg w]; exact keep_nn n (i + 1) _ h2
    · rw [keep_n z]; exact ⟨Or.inl rfl, h.2.2.2.2.1⟩
theorem kp_nn {g N : Nat} {σ : Nat → Int32} (h : shI g σ) (x : Nat) : (kpF g N σ x).1 = 0 ∨ (kpF g N σ x).1 = 1 ∧ ¬ (kpF g N σ x).2 0 < 0 := by
  unfold kpF
  by_cases z : sunkF σ
  · rw [if_pos z]; exact Or.inl rfl
  · rw [if_neg z]
    obtain ⟨h1, h2⟩ := keep_nn (p := fun i => nI (dig N x i)) N 0 σ h
    exact h1.elim Or.inl (fun q => Or.inr ⟨q, h2⟩)
section OPS12
variable {L : Nat} {xs : Nat → Int32} {e W : Nat} {μ : ps_M}
theorem pos8 {g : Nat} {σ : Nat → Int32} (h : shI g σ) (b : ¬ σ 8 = 0) : 0 < σ 8 := by
  have hg := h.1.1
  rw [h.1.2.1] at b ⊢
  rcases (show g = 0 ∨ 0 < g by omega) with rfl | q
  · exact absurd rfl b
  · exact nI_lt (a := 0) q (by omega)
theorem pow4 {N : Nat} (h : N ≤ 4) : 10 ^ N ≤ 10000 := Nat.pow_le_pow_right (n := 10) (by decide) h
theorem op_afloat (h : Inv W μ) (n : Int32) : opI (ps_XX L xs) e j_X7_afloat j_X8_afloat [.int n] W μ := by
  obtain ⟨g, σ, τ, s1, s2, s3, s4, I1, I2, E⟩ := h.sh
  have hn : 0 ≤ n ∧ n ≤ 4 → n = nI n.toNatClampNeg ∧ n.toNatClampNeg ≤ 4 := fun q => n_k (M := 4) (by omega) q.1 q.2
  generalize n.toNatClampNeg = N at hn
  have m := fun (ν : ps_M) (hm : isMd ν 83) (hv : hvP μ ν) => mq_afloat (L := L) (xs := xs) (d := e + 13) hm (md_v s4 (fun a i h1 _ _ => hv a i h1)) (by rw [← md_v s4 (fun a i h1 _ _ => hv a i h1)]; exact same_self ν) I2 (n := n) (N := N) (fun q => ⟨(hn q).1, Nat.le_trans (hn q).2 (by omega)⟩)
  by_cases b1 : ¬ (0 ≤ n ∧ n ≤ 4)
  · have c := kq_afloat_bad (L := L) (xs := xs) (d := e + 18) h.1 (n := n) (by rw [Int32.not_lt]; exact b1)
    have m := m μ h.2.1 (fun _ _ _ => rfl)
    rw [MS_self μ 83 1832, if_pos b1] at m
    exact ⟨_, _, _, c, m, (by first | exact h.2.1.1 | exact hm.1 | exact hi.2.1.1 | exact hi1.2.1.1 | exact (hi1.2.1.of fν.2.2.1 fν.2.2.2.1).1 | (rw [hs.2.2.1]; exact h.2.1.1)), h⟩
  have b1' := Classical.not_not.mp b1
  by_cases b2 : σ 8 = 0
  · have c := kq_afloat_no (L := L) (xs := xs) (d := e + 18) h.1 s3.symm (n := n) (by rw [Int32.not_lt]; exact b1') b2
    have m := m μ h.2.1 (fun _ _ _ => rfl)
    rw [MS_self μ 83 1832, if_neg b1, ← E.1 8 (by omega), if_pos b2] at m
    exact ⟨_, _, _, c, m, (by first | exact h.2.1.1 | exact hm.1 | exact hi.2.1.1 | exact hi1.2.1.1 | exact (hi1.2.1.of fν.2.2.1 fν.2.2.2.1).1 | (rw [hs.2.2.1]; exact h.2.1.1)), h⟩
  obtain ⟨rfl, hN⟩ := hn b1'
  obtain ⟨ν, y1, y2, ρ, y3⟩ := k_start (L := L) (xs := xs) (D := e + 9) h.1 hN s3.symm I1 (pos8 I1 b2)
  obtain ⟨⟨cc, hc, em, el⟩, f2, f3, f4⟩ := fd_model (kp_nn (N := N) I1) (Or.inr trivial) (N := N) (10 ^ N) (pow4 hN)
  have c := kq_afloat_ok (L := L) (xs := xs) (e := e + 17) h.1 s3.symm b2 y1 y2 y3.2.1 y3.2.2.1 y3.2.2.2.1 hN (Nat.le_trans hc (pow4 hN)) em (by rw [Int32.not_lt]; exact b1')
  obtain ⟨ξ, hξ, hm, hv, hi⟩ := longs_xi (μ := μ) (h.sc y2.scr) (fun a i ha => y2.2.2.2.2.2 a i (by omega)) (lN cc) 1
  rw [← hξ] at c
  have m := m ξ hm hv
  rw [MS_self ξ 83 1832, if_neg b1, ← E.1 8 (by omega), if_neg b2, ← cntL_c (10 ^ N) (fun x _ => (kp_c I1.1.1 E I1.1.2.1 x).1), el] at m
  exact ⟨_, _, _, c, m, (by first | exact h.2.1.1 | exact hm.1 | exact hi.2.1.1 | exact hi1.2.1.1 | exact (hi1.2.1.of fν.2.2.1 fν.2.2.2.1).1 | (rw [hs.2.2.1]; exact h.2.1.1)), hi _ (by rw [← s4]; exact last_kp (by rw [← md_v s4 (fun a i h1 _ _ => hv a i h1)]; exact same_self ξ) _)⟩
theorem op_firsts (h : Inv W μ) (n : Int32) : opI (ps_XX L xs) e j_X7_firsts j_X8_firsts [.int n] W μ := by
  obtain ⟨g, σ, τ, s1, s2, s3, s4, I1, I2, E⟩ := h.sh
  have hn : 1 ≤ n ∧ n ≤ 4 → n = nI n.toNatClampNeg ∧ n.toNatClampNeg ≤ 4 ∧ 0 < n.toNatClampNeg := fun q => by
    obtain ⟨k, w1, w2, w3⟩ := rng_nat (lo := 1) (hi := 4) (by omega) q (by omega)
    rw [w3, nI_clamp (by omega)]; exact ⟨rfl, w2, by omega⟩
  generalize n.toNatClampNeg = N at hn
  have m := fun (ν : ps_M) (hm : isMd ν 83) (hv : hvP μ ν) => mq_firsts (L := L) (xs := xs) (d := e + 13) hm (md_v s4 (fun a i h1 _ _ => hv a i h1)) (by rw [← md_v s4 (fun a i h1 _ _ => hv a i h1)]; exact same_self ν) I2 (n := n) (N := N) (fun q => ⟨(hn q).1, Nat.le_trans (hn q).2.1 (by omega), (hn q).2.2⟩)
  by_cases b1 : ¬ (1 ≤ n ∧ n ≤ 4)
  · have c := kq_firsts_bad (L := L) (xs := xs) (d := e + 18) h.1 (n := n) (by rw [Int32.not_lt]; exact b1)
    have m := m μ h.2.1 (fun _ _ _ => rfl)
    rw [MS_self μ 83 1832, if_pos b1] at m
    exact ⟨_, _, _, c, m, (by first | exact h.2.1.1 | exact hm.1 | exact hi.2.1.1 | exact hi1.2.1.1 | exact (hi1.2.1.of fν.2.2.1 fν.2.2.2.1).1 | (rw [hs.2.2.1]; exact h.2.1.1)), h⟩
  have b1' := Classical.not_not.mp b1
  by_cases b2 : σ 8 = 0
  · have c := kq_firsts_no (L := L) (xs := xs) (d := e + 18) h.1 s3.symm (n := n) (by rw [Int32.not_lt]; exact b1') b2
    have m := m μ h.2.1 (fun _ _ _ => rfl)
    rw [MS_self μ 83 1832, if_neg b1, ← E.1 8 (by omega), if_pos b2] at m
    exact ⟨_, _, _, c, m, (by first | exact h.2.1.1 | exact hm.1 | exact hi.2.1.1 | exact hi1.2.1.1 | exact (hi1.2.1.of fν.2.2.1 fν.2.2.2.1).1 | (rw [hs.2.2.1]; exact h.2.1.1)), h⟩
  obtain ⟨rfl, hN, hN0⟩ := hn b1'
  obtain ⟨ν, y1, y2, ρ, y3⟩ := k_start (L := L) (xs := xs) (D := e + 9) h.1 hN s3.symm I1 (pos8 I1 b2)
  obtain ⟨-, f2, f3, f4⟩ := fd_model (kp_nn (N := N) I1) (Or.inr trivial) (N := N) (10 ^ N) (pow4 hN)
  have c := kq_firsts_ok (L := L) (xs := xs) (e := e + 19) h.1 s3.symm b2 y1 y2 y3.2.1 y3.2.2.1 y3.2.2.2.1 hN (by rw [Int32.not_lt]; exact b1')
  have hi := h.sc y2.scr
  have hv : hvP μ ν := fun a i ha => y2.2.2.2.2.2 a i (by omega)
  have m := m ν hi.2.1 hv
  rw [MS_self ν 83 1832, if_neg b1, ← E.1 8 (by omega), if_neg b2, ← frF_c (10 ^ N) (fun x _ => (kp_c I1.1.1 E I1.1.2.1 x).1), ← f2 hN0] at m
  refine ⟨_, _, _, c, m, (by first | exact h.2.1.1 | exact hm.1 | exact hi.2.1.1 | exact hi1.2.1.1 | exact (hi1.2.1.of fν.2.2.1 fν.2.2.2.1).1 | (rw [hs.2.2.1]; exact h.2.1.1)), hi.sc (MS_scr ?_)⟩
  rw [md_v s4 (fun a i h1 _ _ => hv a i h1)]
  exact last_kp (by rw [← md_v s4 (fun a i h1 _ _ => hv a i h1)]; exact same_self ν) _
end OPS12
