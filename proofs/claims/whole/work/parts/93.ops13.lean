-- ===== calls answered alike: best, watch =====
theorem fd_nil {kp : Nat → Int32 × (Nat → Int32)} {N : Nat} : ∀ n, n ≤ 10000 → ∃ c, c ≤ n ∧ (fdA kp N n 0 A0t).1 = nI c ∧ (c = 0 ↔ (bestF kp n).1 = -9)
  | 0, _ => ⟨0, Nat.le_refl _, rfl, ⟨fun _ => rfl, fun _ => rfl⟩⟩
  | n + 1, hn => by
    obtain ⟨c, hc, e1, e2⟩ := fd_nil (kp := kp) (N := N) n (by omega)
    rw [fd_last, Nat.zero_add]
    by_cases h : (kp n).1 = 0
    · have es : stepA kp N (fdA kp N n 0 A0t) n = fdA kp N n 0 A0t := if_pos h
      have eb : bestF kp (n + 1) = bestF kp n := if_neg (fun z => z.1 h)
      rw [es, eb]
      exact ⟨c, by omega, e1, e2⟩
    · have es : (stepA kp N (fdA kp N n 0 A0t) n).1 = (fdA kp N n 0 A0t).1 + 1 := by unfold stepA; rw [if_neg h]
      refine ⟨c + 1, by omega, by rw [es, e1, nI_1], ⟨fun q => absurd q (by omega), fun q => ?_⟩⟩
      exfalso
      revert q
      show ¬ (if ¬ (kp n).1 = 0 ∧ ((bestF kp n).1 = -9 ∨ ¬ (bestF kp n).2 ≤ (kp n).2 0) then (nI n, (kp n).2 0) else bestF kp n).1 = -9
      by_cases z : (bestF kp n).1 = -9 ∨ ¬ (bestF kp n).2 ≤ (kp n).2 0
      · rw [if_pos ⟨h, z⟩]; exact nI_n9 (by omega)
      · rw [if_neg (fun q => z q.2)]; exact fun q => z (Or.inl q)
theorem rota_nn {g : Nat} {p : Nat → Int32} {m : Nat} : ∀ n x (σ : Nat → Int32), shI g σ → ¬ (rotaF g p m n x σ) 0 < 0
  | 0, _, σ, h => h.2.2.2.2.1
  | n + 1, x, σ, h => by
    unfold rotaF
    by_cases z : overF σ
    · rw [if_pos z]; exact h.2.2.2.2.1
    · rw [if_neg z]; exact rota_nn n _ _ (shI_rest h (over_lt z))
section OPS13
variable {L : Nat} {xs : Nat → Int32} {e W : Nat} {μ : ps_M}
theorem ScE.tk {μ ν : ps_M} (h : ScE μ ν) (k N X : Nat) : ScE (TR μ 83 k N X N) (TR ν 83 k N X N) := by
  refine ⟨h.1, h.2.1, h.2.2.1, h.2.2.2.1, h.2.2.2.2.1, fun a i z => ?_⟩
  rw [TR_at, TR_at]
  by_cases z1 : a = 83 + 4 ∧ 40 * k ≤ i ∧ i < 40 * k + N
  · rw [if_pos z1, if_pos z1]
  rw [if_neg z1, if_neg z1, MR_at, MR_at]
  by_cases z2 : a = 83 + 4 ∧ 40 * k ≤ i ∧ i < 40 * k + 40
  · rw [if_pos z2, if_pos z2]
  rw [if_neg z2, if_neg z2]
  by_cases z3 : a = 83 + 3 ∧ i = k
  · rw [if_pos z3, if_pos z3]
  rw [if_neg z3, if_neg z3]; exact h.2.2.2.2.2 a i z
theorem inv_take (h : Inv W μ) {k N X : Nat} {f : Nat → Int32} (hk : k < 6) (hN : N ≤ 40) (hf : ∀ j, j < N → f j = nI (dig N X j)) : Inv W (TR (TK μ (45 + 2 * k) N f) 83 k N X N) := by
  obtain ⟨g, h1, h2, h3, h4, h5⟩ := h.2.2.2.2.1
  have q : ∀ a i, ¬ (a = 45 + 2 * k ∧ i = 0 ∨ a = 45 + 2 * k + 1 ∨ a = 86 ∧ i = k ∨ a = 87 ∧ 40 * k ≤ i ∧ i < 40 * k + 40) → ps_i (TR (TK μ (45 + 2 * k) N f) 83 k N X N) a i = ps_i μ a i := fun a i z => by
    rw [TR_at, if_neg (by omega), MR_at, if_neg (by omega), if_neg (by omega), TK_at, if_neg (by omega), if_neg (by omega)]
  refine Inv.mk (g := g) h rfl rfl rfl rfl ⟨?_, h2.c (fun a i _ _ => q _ _ (by omega)) (fun a i _ _ => q _ _ (by omega)), h3.c (fun a i _ _ => q _ _ (by omega)) (fun i => q _ _ (by omega)) (fun i hi => q _ _ (by omega)) (fun i _ _ => q _ _ (by omega)) (fun i => q _ _ (by omega)), h4.c (fun a i _ _ => q _ _ (by omega)) (fun i hi => q _ _ (by omega)) (fun i _ _ => q _ _ (by omega)) (fun i => q _ _ (by omega)), h5.c (fun i _ => q _ _ (by omega)) (fun i => q _ _ (by omega)) (fun i _ => q _ _ (by omega)) (fun i => q _ _ (by omega))⟩ h.2.2.2.2.2.1 h.2.2.2.2.2.2
  · intro x hx
    have hh := h1 x hx
    by_cases z : x = k
    · subst z
      have e1 : ps_i (TR (TK μ (45 + 2 * x) N f) 83 x N X N) (45 + 2 * x) 0 = nI N := by rw [TR_at, if_neg (by omega), MR_at, if_neg (by omega), if_neg (by omega), TK_at, if_neg (by omega), if_pos ⟨rfl, rfl⟩]
      have e2 : ps_i (TR (TK μ (45 + 2 * x) N f) 83 x N X N) 86 x = nI N := by rw [TR_at, if_neg (by omega), MR_at, if_neg (by omega), if_pos ⟨rfl, rfl⟩]
      rw [e1, e2, nI_clamp (by omega)]
      refine ⟨rfl, Or.inr ⟨N, hN, rfl⟩, fun i hi => ?_⟩
      rw [TR_at, if_neg (by omega), MR_at, if_neg (by omega), if_neg (by omega), TK_at, if_pos ⟨rfl, hi⟩, TR_at, if_pos ⟨rfl, by omega, by omega⟩, show 40 * x + i - 40 * x = i by omega]
      exact hf i hi
    · rw [q _ _ (by omega), q _ _ (by omega)]
      refine ⟨hh.1, hh.2.1, fun i hi => ?_⟩
      have hb := sz_bd (by omega) hh.2.1
      rw [q _ _ (by omega), q _ _ (by omega)]
      exact hh.2.2 i hi
theorem take_nu {ν : ps_M} (h : Inv W ν) (hx : hvP μ ν) {k N X : Nat} {f : Nat → Int32} (hk : k < 6) (hN : N ≤ 40) (hf : ∀ j, j < N → f j = nI (dig N X j)) : ∃ ξ, ξ = TK ν (45 + 2 * k) N f ∧ isMd ξ 83 ∧ hvP μ ξ ∧ ∀ Y, sameF Y (mdG (ps_i μ) 83 0) → Inv W (TR (MS ξ 83 1832 Y) 83 k N X N) := by
  have hi := inv_take h hk hN hf
  obtain ⟨ξ, hξ⟩ : ∃ ξ, ξ = TK ν (45 + 2 * k) N f := ⟨_, rfl⟩
  have hv : hvP μ ξ := fun a i ha => by rw [hξ, TK_at, if_neg (by omega), if_neg (by omega)]; exact hx a i ha
  have hm : isMd ξ 83 := by rw [hξ]; exact h.2.1.of rfl rfl
  rw [← hξ] at hi
  refine ⟨ξ, hξ, hm, hv, fun Y hY => hi.sc (ScE.tk (MS_scr ?_) k N X)⟩
  rw [md_v (μ := μ) rfl (fun a i h1 _ _ => hv a i h1)]
  exact hY
theorem op_best (h : Inv W μ) (n r : Int32) : opI (ps_XX L xs) e j_X7_best j_X8_best [.int n, .int r] W μ := by
  obtain ⟨g, σ, τ, s1, s2, s3, s4, I1, I2, E⟩ := h.sh
  obtain ⟨k, hk, hr⟩ := row_any r
  have hn : 0 ≤ n ∧ n ≤ 4 → n = nI n.toNatClampNeg ∧ n.toNatClampNeg ≤ 4 := fun q => n_k (M := 4) (by omega) q.1 q.2
  generalize n.toNatClampNeg = N at hn
  have m := fun (ν : ps_M) (hm : isMd ν 83) (hv : hvP μ ν) => mq_best (L := L) (xs := xs) (d := e + 13) hm (md_v s4 (fun a i h1 _ _ => hv a i h1)) (by rw [← md_v s4 (fun a i h1 _ _ => hv a i h1)]; exact same_self ν) I2 (n := n) (N := N) (fun q => ⟨(hn q).1, Nat.le_trans (hn q).2 (by omega)⟩) hr
  by_cases b1 : ¬ ((0 ≤ n ∧ n ≤ 4) ∧ rowP r)
  · have c := kq_best_bad (L := L) (xs := xs) (d := e + 18) h.1 (n := n) (r := r) (by rw [Int32.not_lt, Int32.not_lt]; exact b1)
    have m := m μ h.2.1 (fun _ _ _ => rfl)
    rw [MS_self μ 83 1832, if_pos b1] at m
    exact ⟨_, _, _, c, m, (by first | exact h.2.1.1 | exact hm.1 | exact hi.2.1.1 | exact hi1.2.1.1 | exact (hi1.2.1.of fν.2.2.1 fν.2.2.2.1).1 | (rw [hs.2.2.1]; exact h.2.1.1)), h⟩
  have b1' := Classical.not_not.mp b1
  by_cases b2 : σ 8 = 0
  · have c := kq_best_no (L := L) (xs := xs) (d := e + 18) h.1 s3.symm (n := n) (r := r) (by rw [Int32.not_lt, Int32.not_lt]; exact b1') b2
    have m := m μ h.2.1 (fun _ _ _ => rfl)
    rw [MS_self μ 83 1832, if_neg b1, ← E.1 8 (by omega), if_pos b2] at m
    exact ⟨_, _, _, c, m, (by first | exact h.2.1.1 | exact hm.1 | exact hi.2.1.1 | exact hi1.2.1.1 | exact (hi1.2.1.of fν.2.2.1 fν.2.2.2.1).1 | (rw [hs.2.2.1]; exact h.2.1.1)), h⟩
  obtain ⟨rfl, hN⟩ := hn b1'.1
  obtain ⟨rfl, -⟩ := hr b1'.2
  obtain ⟨ν, y1, y2, ρ, y3⟩ := k_start (L := L) (xs := xs) (D := e + 9) h.1 hN s3.symm I1 (pos8 I1 b2)
  obtain ⟨-, f2, f3, f4⟩ := fd_model (kp_nn (N := N) I1) (Or.inr trivial) (N := N) (10 ^ N) (pow4 hN)
  obtain ⟨cc, hc, ec, hc0⟩ := fd_nil (kp := kpF g N σ) (N := N) (10 ^ N) (pow4 hN)
  have hi := h.sc y2.scr
  have hv : hvP μ ν := fun a i ha => y2.2.2.2.2.2 a i (by omega)
  have eb : bestF (kpF g N σ) (10 ^ N) = bestF (kpF g N τ) (10 ^ N) := best_c (10 ^ N) (fun x _ => kp_c I1.1.1 E I1.1.2.1 x)
  have hc1 := Nat.le_trans hc (pow4 hN)
  by_cases b3 : (bestF (kpF g N σ) (10 ^ N)).1 = -9
  · have z : (fdA (kpF g N σ) N (10 ^ N) 0 A0t).1 = 0 := by rw [ec, hc0.mpr b3]; rfl
    have c := kq_best0_ok (L := L) (xs := xs) (e := e + 15) h.1 s3.symm b2 y1 y2 y3.2.1 y3.2.2.1 y3.2.2.2.1 hN z (by rw [Int32.not_lt, Int32.not_lt]; exact b1')
    have m := m ν hi.2.1 hv
    rw [MS_self ν 83 1832, if_neg b1, ← E.1 8 (by omega), if_neg b2, ← eb, if_pos b3] at m
    refine ⟨_, _, _, c, m, (by first | exact h.2.1.1 | exact hm.1 | exact hi.2.1.1 | exact hi1.2.1.1 | exact (hi1.2.1.of fν.2.2.1 fν.2.2.2.1).1 | (rw [hs.2.2.1]; exact h.2.1.1)), hi.sc (MS_scr ?_)⟩
    rw [md_v s4 (fun a i h1 _ _ => hv a i h1)]
    exact last_kp (by rw [← md_v s4 (fun a i h1 _ _ => hv a i h1)]; exact same_self ν) _
  · have z : ¬ (fdA (kpF g N σ) N (10 ^ N) 0 A0t).1 = 0 := fun q => b3 (hc0.mp (by
      rw [ec] at q
      have := congrArg Int32.toNatClampNeg q
      rw [nI_clamp (by omega)] at this
      exact this))
    have c := kq_best1_ok (L := L) (xs := xs) (e := e + 15) h.1 s3.symm b2 y1 y2 y3.2.1 y3.2.2.1 y3.2.2.2.1 hN hk z (by rw [Int32.not_lt, Int32.not_lt]; exact b1')
    rw [if_neg b3] at f3
    obtain ⟨w1, w2, w3⟩ := f4 b3
    have w4 : ¬ (fdA (kpF g N σ) N (10 ^ N) 0 A0t).2.2.1 = -9 := by rw [f3]; exact fun q => w3 (by rw [q]; decide)
    obtain ⟨ξ, hξ, hm, hvξ, hiξ⟩ := take_nu hi hv hk (X := (fdA (kpF g N σ) N (10 ^ N) 0 A0t).2.2.2) (show N ≤ 40 by omega) (y3.2.2.2.2.1 w4)
    have w5 : (bestF (kpF g N σ) (10 ^ N)).1.toNatClampNeg = (fdA (kpF g N σ) N (10 ^ N) 0 A0t).2.2.2 := by
      have := pow4 hN
      rw [w1, nI_clamp (by omega)]
    rw [← hξ, f3] at c
    have m := m ξ hm hvξ
    rw [MS_self ξ 83 1832, if_neg b1, ← E.1 8 (by omega), if_neg b2, ← eb, if_neg b3, w5] at m
    exact ⟨_, _, _, c, m, (by first | exact h.2.1.1 | exact hm.1 | exact hi.2.1.1 | exact hi1.2.1.1 | exact (hi1.2.1.of fν.2.2.1 fν.2.2.2.1).1 | (rw [hs.2.2.1]; exact h.2.1.1)), hiξ _ (by rw [← s4]; exact last_kp (by rw [← md_v s4 (fun a i h1 _ _ => hvξ a i h1)]; exact same_self ξ) _)⟩
theorem op_watch (h : Inv W μ) (n r : Int32) : opI (ps_XX L xs) e j_X7_watch j_X8_watch [.int n, .int r] W μ := by
  obtain ⟨g, σ, τ, s1, s2, s3, s4, I1, I2, E⟩ := h.sh
  obtain ⟨k, hk, hr⟩ := row_any r
  have hn : 1 ≤ n ∧ n ≤ 3 → n = nI n.toNatClampNeg ∧ n.toNatClampNeg ≤ 3 ∧ 0 < n.toNatClampNeg := fun q => by
    obtain ⟨k, w1, w2, w3⟩ := rng_nat (lo := 1) (hi := 3) (by omega) q (by omega)
    rw [w3, nI_clamp (by omega)]; exact ⟨rfl, w2, by omega⟩
  generalize n.toNatClampNeg = N at hn
  have m := fun (ν : ps_M) (hm : isMd ν 83) (hv : hvP μ ν) => mq_watch (L := L) (xs := xs) (d := e + 12) hm (md_v s4 (fun a i h1 _ _ => hv a i h1)) (by rw [← md_v s4 (fun a i h1 _ _ => hv a i h1)]; exact same_self ν) I2 (n := n) (N := N) (fun q => ⟨(hn q).1, Nat.le_trans (hn q).2.1 (by omega), (hn q).2.2⟩) hr
  by_cases b1 : ¬ ((1 ≤ n ∧ n ≤ 3) ∧ rowP r)
  · have c := kq_watch_bad (L := L) (xs := xs) (d := e + 18) h.1 (n := n) (r := r) (by rw [Int32.not_lt, Int32.not_lt]; exact b1)
    have m := m μ h.2.1 (fun _ _ _ => rfl)
    rw [MS_self μ 83 1832, if_pos b1] at m
    exact ⟨_, _, _, c, m, (by first | exact h.2.1.1 | exact hm.1 | exact hi.2.1.1 | exact hi1.2.1.1 | exact (hi1.2.1.of fν.2.2.1 fν.2.2.2.1).1 | (rw [hs.2.2.1]; exact h.2.1.1)), h⟩
  have b1' := Classical.not_not.mp b1
  by_cases b2 : σ 8 = 0
  · have c := kq_watch_no (L := L) (xs := xs) (d := e + 18) h.1 s3.symm (n := n) (r := r) (by rw [Int32.not_lt, Int32.not_lt]; exact b1') b2
    have m := m μ h.2.1 (fun _ _ _ => rfl)
    rw [MS_self μ 83 1832, if_neg b1, ← E.1 8 (by omega), if_pos b2] at m
    exact ⟨_, _, _, c, m, (by first | exact h.2.1.1 | exact hm.1 | exact hi.2.1.1 | exact hi1.2.1.1 | exact (hi1.2.1.of fν.2.2.1 fν.2.2.2.1).1 | (rw [hs.2.2.1]; exact h.2.1.1)), h⟩
  obtain ⟨rfl, hN, hN0⟩ := hn b1'.1
  obtain ⟨rfl, -⟩ := hr b1'.2
  have hkp : ∀ x, ¬ (ldF g N σ x).1 = 0 → ¬ (ldF g N σ x).2 0 < 0 := fun x _ => rota_nn 40 0 σ I1
  obtain ⟨ν, c, y2⟩ := kq_watch_ok (L := L) (xs := xs) (d := e + 13) h.1 s3.symm b2 hN hN0 hk I1 hkp (by rw [Int32.not_lt, Int32.not_lt]; exact b1')
  have hi := h.sc y2.scr
  have hv : hvP μ ν := fun a i ha => y2.2.2.2.2.2 a i (by omega)
  have eb : bestF (ldF g N σ) (10 ^ N) = bestF (ldF g N τ) (10 ^ N) := best_c (10 ^ N) (fun x _ => ld_c I1.1.1 hN0 E I1.1.2.1 x)
  by_cases b3 : (bestF (ldF g N σ) (10 ^ N)).1 = -9
  · have z : lsF (ldF g N σ) (10 ^ N) = -9 := if_pos b3
    rw [z, if_pos rfl] at c
    have m := m ν hi.2.1 hv
    rw [MS_self ν 83 1832, if_neg b1, ← E.1 8 (by omega), if_neg b2, ← eb, if_pos b3] at m
    refine ⟨_, _, _, c, m, (by first | exact h.2.1.1 | exact hm.1 | exact hi.2.1.1 | exact hi1.2.1.1 | exact (hi1.2.1.of fν.2.2.1 fν.2.2.2.1).1 | (rw [hs.2.2.1]; exact h.2.1.1)), hi.sc (MS_scr ?_)⟩
    rw [md_v s4 (fun a i h1 _ _ => hv a i h1)]
    exact last_ld (by rw [← md_v s4 (fun a i h1 _ _ => hv a i h1)]; exact same_self ν) _
  · have z : lsF (ldF g N σ) (10 ^ N) = (bestF (ldF g N σ) (10 ^ N)).2 := if_neg b3
    have z2 : fnF (ldF g N σ) (10 ^ N) = (bestF (ldF g N σ) (10 ^ N)).1.toNatClampNeg := if_neg b3
    have w3 := best_2 hkp (10 ^ N) b3
    have w4 : ¬ (bestF (ldF g N σ) (10 ^ N)).2 = -9 := fun q => w3 (by rw [q]; decide)
    rw [z, if_neg w4, z2] at c
    obtain ⟨ξ, hξ, hm, hvξ, hiξ⟩ := take_nu hi hv hk (X := (bestF (ldF g N σ) (10 ^ N)).1.toNatClampNeg) (show N ≤ 40 by omega) (f := fun j => nI (dig N (bestF (ldF g N σ) (10 ^ N)).1.toNatClampNeg j)) (fun _ _ => rfl)
    rw [← hξ] at c
    have m := m ξ hm hvξ
    rw [MS_self ξ 83 1832, if_neg b1, ← E.1 8 (by omega), if_neg b2, ← eb, if_neg b3] at m
    exact ⟨_, _, _, c, m, (by first | exact h.2.1.1 | exact hm.1 | exact hi.2.1.1 | exact hi1.2.1.1 | exact (hi1.2.1.of fν.2.2.1 fν.2.2.2.1).1 | (rw [hs.2.2.1]; exact h.2.1.1)), hiξ _ (by rw [← s4]; exact last_ld (by rw [← md_v s4 (fun a i h1 _ _ => hvξ a i h1)]; exact same_self ξ) _)⟩
end OPS13
