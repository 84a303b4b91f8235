-- ===== plans of the model =====
/-- the act of a number at a place -/
def dig (N x K : Nat) : Nat := x / 10 ^ (N - 1 - K) % 10
/-- whether a plan keeps afloat, and the ship then -/
def keepF (g : Nat) (p : Nat → Int32) : Nat → Nat → (Nat → Int32) → Int32 × (Nat → Int32)
  | 0, _, σ => (1, σ)
  | n + 1, i, σ => if ¬ (¬ overF σ ∧ allowsF σ (p i)) then (0, σ) else if sunkF (passF g σ (p i)) then (0, passF g σ (p i)) else keepF g p n (i + 1) (passF g σ (p i))
def kpF (g N : Nat) (σ : Nat → Int32) (x : Nat) : Int32 × (Nat → Int32) := if sunkF σ then (0, σ) else keepF g (fun i => nI (dig N x i)) N 0 σ
theorem pow8 {n : Nat} (h : n ≤ 8) : 10 ^ n < 2 ^ 31 := Nat.lt_of_le_of_lt (Nat.pow_le_pow_right (by decide) h) (by decide)
def TR (μ : ps_M) (m k N x : Nat) (c : Nat) : ps_M := ps_wI μ (fun a i => if a = m + 4 ∧ 40 * k ≤ i ∧ i < 40 * k + c then nI (dig N x (i - 40 * k)) else ps_i (MR μ m k (nI N)) a i)
theorem TR_0 {μ : ps_M} {m k N x : Nat} : MR μ m k (nI N) = TR μ m k N x 0 := by
  refine ps_M_ext rfl rfl rfl ?_ rfl rfl
  funext a i
  exact (if_neg (by omega)).symm
theorem TR_s {μ : ps_M} {m k N x c : Nat} : ps_sI (TR μ m k N x c) (m + 4) (40 * k + c) (nI (dig N x c)) = TR μ m k N x (c + 1) := by
  refine ps_M_ext rfl rfl rfl ?_ rfl rfl
  funext a i
  show ps_up (fun a i => if a = m + 4 ∧ 40 * k ≤ i ∧ i < 40 * k + c then nI (dig N x (i - 40 * k)) else ps_i (MR μ m k (nI N)) a i) (m + 4) (40 * k + c) (nI (dig N x c)) a i = (if a = m + 4 ∧ 40 * k ≤ i ∧ i < 40 * k + (c + 1) then nI (dig N x (i - 40 * k)) else ps_i (MR μ m k (nI N)) a i)
  unfold ps_up
  grind
section MQ6
variable {L : Nat} {xs : Nat → Int32} {d : Nat} {μ : ps_M} {m : Nat} {σ : Nat → Int32} {g : Nat}
theorem mq_power_loop {N : Nat} (hN : N ≤ 8) : ∀ (n i : Nat), i + n = N → ps_To (ps_XX L xs) (ps_Ev (ps_XX L xs) (d + 0)) j_X8_power (ps_rt j_X8_power (some (.int (nI (10 ^ N)))) μ) (4, [(2, .int (nI i)), (1, .int (nI (10 ^ i))), (0, .int (nI N))], [], μ) := by
  intro n
  induction n with
  | zero =>
    intro i hi
    obtain rfl : i = N := by omega
    refine e_2 rfl rfl ?_
    refine e_2 rfl rfl ?_
    refine e_39 rfl (fun h1 => ?_) (fun h1 => ?_)
    · refine e_2 rfl rfl ?_
      exact e_ri rfl rfl (by rfl) (rfl)
    · exact absurd (nI_le (Nat.le_refl _) (by omega)) h1
  | succ n ih =>
    intro i hi
    refine e_2 rfl rfl ?_
    refine e_2 rfl rfl ?_
    refine e_39 rfl (fun h1 => ?_) (fun h1 => ?_)
    · exact absurd h1 (nI_ge (by omega) (by omega))
    · refine e_2 rfl rfl ?_
      refine e_0 rfl ?_
      refine e_11 rfl ?_
      refine e_5 rfl rfl ?_
      refine e_8 rfl rfl rfl ?_
      refine e_42 rfl ?_
      refine e_lv [0, 1, 2] rfl rfl ?_
      show ps_To _ _ _ _ (4, [(2, .int _), (1, .int _), (0, .int _)], [], _)
      rw [nI_1, show (10 : Int32) = nI 10 from rfl, pk_mul, ← Nat.pow_succ]
      exact ih (i + 1) (by omega)
theorem mq_power {N : Nat} (hN : N ≤ 8) : ps_Ev (ps_XX L xs) (d + 1) j_X8_power [.int (nI N)] μ (some (.int (nI (10 ^ N)))) μ := by
  refine ⟨Nat.le_of_ble_eq_true rfl, ?_⟩
  refine e_0 rfl ?_
  refine e_5 rfl rfl ?_
  refine e_0 rfl ?_
  refine e_5 rfl rfl ?_
  exact mq_power_loop hN N 0 (by omega)
theorem mq_actOf {N x K : Nat} (hN : N ≤ 8) (hK : K < N) (hx : x < 2 ^ 31) : ps_Ev (ps_XX L xs) (d + 2) j_X8_actOf [.int (nI x), .int (nI N), .int (nI K)] μ (some (.int (nI (dig N x K)))) μ := by
  refine ⟨Nat.le_of_ble_eq_true rfl, ?_⟩
  refine e_2 rfl rfl ?_
  refine e_2 rfl rfl ?_
  refine e_0 rfl ?_
  refine e_10 rfl ?_
  refine e_2 rfl rfl ?_
  refine e_10 rfl ?_
  rw [show nI N - 1 - nI K = nI (N - 1 - K) from (by rw [show (1 : Int32) = nI 1 from rfl, pk_sub (by omega), pk_sub (by omega)])]
  refine e_s1 rfl rfl rfl (Nat.le_of_ble_eq_true rfl) (mq_power (N := N - 1 - K) (by omega)) ?_
  refine e_17 rfl (by first | decide | exact nI_ne0 (Nat.pow_pos (by decide)) (pow8 (by omega))) ?_
  refine e_0 rfl ?_
  refine e_18 rfl (by first | decide | exact nI_ne0 (Nat.pow_pos (by decide)) (pow8 (by omega))) ?_
  exact e_ri rfl rfl (by rw [pk_div hx (Nat.pow_pos (by decide)) (pow8 (by omega)), show (10 : Int32) = nI 10 from rfl, pk_rem (Nat.lt_of_le_of_lt (Nat.div_le_self _ _) hx) (by decide) (by decide)]; rfl) (rfl)
theorem mt_run_loop (hm : isMd μ m) {k S : Nat} (hk : k < 6) (eS : ps_i μ (m + 3) k = nI S) (hS40 : S ≤ 40) : ∀ (n i : Nat) (σ : Nat → Int32), i + n = S → shI g σ → 0 < σ 8 → ps_To (ps_XX L xs) (ps_Ev (ps_XX L xs) (d + 4)) j_X8_run (ps_rt j_X8_run (some (.int (planF g (fun x => ps_i μ (m + 4) (40 * k + x)) n i σ).1)) (MS (ps_sI μ m 9 ((planF g (fun x => ps_i μ (m + 4) (40 * k + x)) n i σ).2 0)) m 1832 (planF g (fun x => ps_i μ (m + 4) (40 * k + x)) n i σ).2)) (56, [(3, .int (1)), (2, .int (nI i)), (0, .ref (m)), (1, .int (nI k))], [], MS μ m 1832 σ) := by
  intro n
  induction n with
  | zero =>
    intro i σ hi hI h0
    obtain rfl : i = S := by omega
    refine e_2 rfl rfl ?_
    refine e_30 rfl (fun h1 => ?_) (fun h1 => ?_)
    · exact absurd h1 (by decide)
    · refine e_2 rfl rfl ?_
      refine e_4 rfl rfl ?_
      refine e_gr rfl hm.1 rfl hm.2.2.2.2.2.2.2.2.2.2.2.1 ?_
      refine e_2 rfl rfl ?_
      refine m_a_ld (i := k) (c := 3) (n := 6) (by first | rfl | (simp only [← nI_add, ← pk_mul]; rfl) | (simp only [nI_add, pk_mul, nI_1]; done)) (by omega) (by decide) rfl hm.2.2.2.1 (by decide) ?_
      rw [eS]
      refine e_39 rfl (fun h2 => ?_) (fun h2 => ?_)
      · refine e_4 rfl rfl ?_
        refine e_4 rfl rfl ?_
        refine e_gr rfl hm.1 rfl hm.2.2.2.2.2.2.2.2.2.1 ?_
        refine e_0 rfl ?_
        refine m_ald (k := 1) (x := 0) (by exact hm) (by omega) (by first | rfl | (simp only [nI_add, nI_1, Nat.zero_add]; first | done | exact congrArg nI (by omega))) (by omega) (by first | rfl | (rw [mdX_lo (by omega) (by omega)]; omega) | (rw [mdX_hi (by omega)]; omega)) rfl ?_
        refine m_pi (by exact hm) rfl rfl (by decide) (by decide) (by decide) ?_
        refine e_2 rfl rfl ?_
        exact e_ri rfl rfl (by first | (simp only [planF, canF, Int32.add_zero, eq_true h0, eq_false h1, eq_true h2, if_true, if_true, if_false, not_true_eq_false, not_false_eq_true, and_true, true_and, and_false, false_and, or_true, true_or, or_false, false_or]; done) | (simp only [planF, canF, Int32.add_zero, eq_true h0, eq_false h1, eq_true h2, if_true, if_true, if_false, not_true_eq_false, not_false_eq_true, and_true, true_and, and_false, false_and, or_true, true_or, or_false, false_or]; rfl) | rfl) (by first | (simp only [planF, canF, Int32.add_zero, eq_true h0, eq_false h1, eq_true h2, if_true, if_true, if_false, not_true_eq_false, not_false_eq_true, and_true, true_and, and_false, false_and, or_true, true_or, or_false, false_or]; done) | (simp only [planF, canF, Int32.add_zero, eq_true h0, eq_false h1, eq_true h2, if_true, if_true, if_false, not_true_eq_false, not_false_eq_true, and_true, true_and, and_false, false_and, or_true, true_or, or_false, false_or]; rfl) | rfl)
      · exact absurd (nI_le (Nat.le_refl _) (by omega)) h2
  | succ n ih =>
    intro i σ hi hI h0
    refine e_2 rfl rfl ?_
    refine e_30 rfl (fun h1 => ?_) (fun h1 => ?_)
    · exact absurd h1 (by decide)
    · refine e_2 rfl rfl ?_
      refine e_4 rfl rfl ?_
      refine e_gr rfl hm.1 rfl hm.2.2.2.2.2.2.2.2.2.2.2.1 ?_
      refine e_2 rfl rfl ?_
      refine m_a_ld (i := k) (c := 3) (n := 6) (by first | rfl | (simp only [← nI_add, ← pk_mul]; rfl) | (simp only [nI_add, pk_mul, nI_1]; done)) (by omega) (by decide) rfl hm.2.2.2.1 (by decide) ?_
      rw [eS]
      refine e_39 rfl (fun h2 => ?_) (fun h2 => ?_)
      · exact absurd h2 (nI_ge (by omega) (by omega))
      · refine e_4 rfl rfl ?_
        refine e_gr rfl hm.1 rfl hm.2.2.2.2.2.2.2.2.2.2.2.2.1 ?_
        refine e_0 rfl ?_
        refine e_2 rfl rfl ?_
        refine e_11 rfl ?_
        refine e_2 rfl rfl ?_
        refine e_9 rfl ?_
        refine m_a_ld (i := ((40 * k) + i)) (c := 4) (n := 240) (by first | rfl | (simp only [← nI_add, ← pk_mul]; rfl) | (simp only [nI_add, pk_mul, nI_1]; done)) (by omega) (by decide) rfl hm.2.2.2.2.1 (by decide) ?_
        refine e_5 rfl rfl ?_
        refine e_4 rfl rfl ?_
        refine e_0 rfl ?_
        refine e_v1 rfl (by first | exact hm.1 | assumption | rfl) rfl (by decide) rfl (Nat.le_of_ble_eq_true rfl) (mm_over (B := 1832) hm (by decide) hI) ?_
        refine e_31b rfl (fun h3 => ?_) (fun h3 => ?_)
        · refine e_0 rfl ?_
          refine e_5 rfl rfl ?_
          refine e_2 rfl rfl ?_
          refine e_30 rfl (fun h4 => ?_) (fun h4 => ?_)
          · refine e_42 rfl ?_
            refine e_2 rfl rfl ?_
            refine e_30 rfl (fun h5 => ?_) (fun h5 => ?_)
            · refine e_4 rfl rfl ?_
              refine e_4 rfl rfl ?_
              refine e_gr rfl hm.1 rfl hm.2.2.2.2.2.2.2.2.2.1 ?_
              refine e_0 rfl ?_
              refine m_ald (k := 1) (x := 0) (by exact hm) (by omega) (by first | rfl | (simp only [nI_add, nI_1, Nat.zero_add]; first | done | exact congrArg nI (by omega))) (by omega) (by first | rfl | (rw [mdX_lo (by omega) (by omega)]; omega) | (rw [mdX_hi (by omega)]; omega)) rfl ?_
              refine m_pi (by exact hm) rfl rfl (by decide) (by decide) (by decide) ?_
              refine e_2 rfl rfl ?_
              exact e_ri rfl rfl (by first | (simp only [planF, canF, Int32.add_zero, eq_true h0, eq_false h1, eq_false h2, eq_true h3, eq_true h4, eq_true h5, if_true, if_true, if_false, not_true_eq_false, not_false_eq_true, and_true, true_and, and_false, false_and, or_true, true_or, or_false, false_or]; done) | (simp only [planF, canF, Int32.add_zero, eq_true h0, eq_false h1, eq_false h2, eq_true h3, eq_true h4, eq_true h5, if_true, if_true, if_false, not_true_eq_false, not_false_eq_true, and_true, true_and, and_false, false_and, or_true, true_or, or_false, false_or]; rfl) | rfl) (by first | (simp only [planF, canF, Int32.add_zero, eq_true h0, eq_false h1, eq_false h2, eq_true h3, eq_true h4, eq_true h5, if_true, if_true, if_false, not_true_eq_false, not_false_eq_true, and_true, true_and, and_false, false_and, or_true, true_or, or_false, false_or]; done) | (simp only [planF, canF, Int32.add_zero, eq_true h0, eq_false h1, eq_false h2, eq_true h3, eq_true h4, eq_true h5, if_true, if_true, if_false, not_true_eq_false, not_false_eq_true, and_true, true_and, and_false, false_and, or_true, true_or, or_false, false_or]; rfl) | rfl)
            · exact absurd rfl h5
          · exact absurd rfl h4
        · refine e_4 rfl rfl ?_
          refine e_0 rfl ?_
          refine e_2 rfl rfl ?_
          refine e_v2 rfl (by first | exact hm.1 | assumption | rfl) rfl (by decide) rfl (Nat.le_of_ble_eq_true rfl) (mm_mayF (B := 1832) hm (by decide) hI _) ?_
          refine e_30b rfl (fun h6 => ?_) (fun h6 => ?_)
          · refine e_0 rfl ?_
            refine e_5 rfl rfl ?_
            refine e_2 rfl rfl ?_
            refine e_30 rfl (fun h7 => ?_) (fun h7 => ?_)
            · refine e_42 rfl ?_
              refine e_2 rfl rfl ?_
              refine e_30 rfl (fun h8 => ?_) (fun h8 => ?_)
              · refine e_4 rfl rfl ?_
                refine e_4 rfl rfl ?_
                refine e_gr rfl hm.1 rfl hm.2.2.2.2.2.2.2.2.2.1 ?_
                refine e_0 rfl ?_
                refine m_ald (k := 1) (x := 0) (by exact hm) (by omega) (by first | rfl | (simp only [nI_add, nI_1, Nat.zero_add]; first | done | exact congrArg nI (by omega))) (by omega) (by first | rfl | (rw [mdX_lo (by omega) (by omega)]; omega) | (rw [mdX_hi (by omega)]; omega)) rfl ?_
                refine m_pi (by exact hm) rfl rfl (by decide) (by decide) (by decide) ?_
                refine e_2 rfl rfl ?_
                exact e_ri rfl rfl (by first | (simp only [planF, canF, Int32.add_zero, eq_true h0, eq_false h1, eq_false h2, eq_false h3, eq_false h6, eq_true h7, eq_true h8, if_true, if_true, if_false, not_true_eq_false, not_false_eq_true, and_true, true_and, and_false, false_and, or_true, true_or, or_false, false_or]; done) | (simp only [planF, canF, Int32.add_zero, eq_true h0, eq_false h1, eq_false h2, eq_false h3, eq_false h6, eq_true h7, eq_true h8, if_true, if_true, if_false, not_true_eq_false, not_false_eq_true, and_true, true_and, and_false, false_and, or_true, true_or, or_false, false_or]; rfl) | rfl) (by first | (simp only [planF, canF, Int32.add_zero, eq_true h0, eq_false h1, eq_false h2, eq_false h3, eq_false h6, eq_true h7, eq_true h8, if_true, if_true, if_false, not_true_eq_false, not_false_eq_true, and_true, true_and, and_false, false_and, or_true, true_or, or_false, false_or]; done) | (simp only [planF, canF, Int32.add_zero, eq_true h0, eq_false h1, eq_false h2, eq_false h3, eq_false h6, eq_true h7, eq_true h8, if_true, if_true, if_false, not_true_eq_false, not_false_eq_true, and_true, true_and, and_false, false_and, or_true, true_or, or_false, false_or]; rfl) | rfl)
              · exact absurd rfl h8
            · exact absurd rfl h7
          · refine e_0 rfl ?_
            refine e_42 rfl ?_
            refine e_5 rfl rfl ?_
            refine e_2 rfl rfl ?_
            refine e_30 rfl (fun h9 => ?_) (fun h9 => ?_)
            · exact absurd h9 (by decide)
            · refine e_4 rfl rfl ?_
              refine e_0 rfl ?_
              refine e_2 rfl rfl ?_
              refine e_v2v rfl (by first | exact hm.1 | assumption | rfl) rfl (by decide) rfl (Nat.le_of_ble_eq_true rfl) (mm_passA (B := 1832) hm (by decide) hI (by assumption)) ?_
              refine e_4 rfl rfl ?_
              refine e_0 rfl ?_
              refine e_v1 rfl (by first | exact hm.1 | assumption | rfl) rfl (by decide) rfl (Nat.le_of_ble_eq_true rfl) (mm_isSunk (B := 1832) hm (by decide)) ?_
              refine e_31b rfl (fun h10 => ?_) (fun h10 => ?_)
              · refine e_0 rfl ?_
                refine e_5 rfl rfl ?_
                refine e_2 rfl rfl ?_
                refine e_2 rfl rfl ?_
                refine e_30 rfl (fun h11 => ?_) (fun h11 => ?_)
                · refine e_0 rfl ?_
                  refine e_9 rfl ?_
                  refine e_5 rfl rfl ?_
                  refine e_42 rfl ?_
                  refine e_2 rfl rfl ?_
                  refine e_30 rfl (fun h12 => ?_) (fun h12 => ?_)
                  · refine e_4 rfl rfl ?_
                    refine e_4 rfl rfl ?_
                    refine e_gr rfl hm.1 rfl hm.2.2.2.2.2.2.2.2.2.1 ?_
                    refine e_0 rfl ?_
                    refine m_ald (k := 1) (x := 0) (by exact hm) (by omega) (by first | rfl | (simp only [nI_add, nI_1, Nat.zero_add]; first | done | exact congrArg nI (by omega))) (by omega) (by first | rfl | (rw [mdX_lo (by omega) (by omega)]; omega) | (rw [mdX_hi (by omega)]; omega)) rfl ?_
                    refine m_pi (by exact hm) rfl rfl (by decide) (by decide) (by decide) ?_
                    refine e_2 rfl rfl ?_
                    exact e_ri rfl rfl (by first | (simp only [planF, canF, Int32.add_zero, eq_true h0, eq_false h1, eq_false h2, eq_false h3, eq_true h6, eq_false h9, eq_true h10, eq_true h11, eq_true h12, if_true, if_true, if_false, not_true_eq_false, not_false_eq_true, and_true, true_and, and_false, false_and, or_true, true_or, or_false, false_or]; done) | (simp only [planF, canF, Int32.add_zero, eq_true h0, eq_false h1, eq_false h2, eq_false h3, eq_true h6, eq_false h9, eq_true h10, eq_true h11, eq_true h12, if_true, if_true, if_false, not_true_eq_false, not_false_eq_true, and_true, true_and, and_false, false_and, or_true, true_or, or_false, false_or]; rfl) | rfl) (by first | (simp only [planF, canF, Int32.add_zero, eq_true h0, eq_false h1, eq_false h2, eq_false h3, eq_true h6, eq_false h9, eq_true h10, eq_true h11, eq_true h12, if_true, if_true, if_false, not_true_eq_false, not_false_eq_true, and_true, true_and, and_false, false_and, or_true, true_or, or_false, false_or]; done) | (simp only [planF, canF, Int32.add_zero, eq_true h0, eq_false h1, eq_false h2, eq_false h3, eq_true h6, eq_false h9, eq_true h10, eq_true h11, eq_true h12, if_true, if_true, if_false, not_true_eq_false, not_false_eq_true, and_true, true_and, and_false, false_and, or_true, true_or, or_false, false_or]; rfl) | rfl)
                  · exact absurd rfl h12
                · exact absurd rfl h11
              · refine e_0 rfl ?_
                refine e_42 rfl ?_
                refine e_5 rfl rfl ?_
                refine e_2 rfl rfl ?_
                refine e_2 rfl rfl ?_
                refine e_30 rfl (fun h13 => ?_) (fun h13 => ?_)
                · exact absurd h13 (by decide)
                · refine e_0 rfl ?_
                  refine e_42 rfl ?_
                  refine e_9 rfl ?_
                  refine e_5 rfl rfl ?_
                  refine e_42 rfl ?_
                  refine e_lv [1, 0, 3, 4] rfl rfl ?_
                  show ps_To _ _ _ _ (56, [(3, .int _), (2, .int _), (0, .ref _), (1, .int _)], [], _)
                  rw [nI_1]
                  have h := ih (i + 1) (passF g σ (ps_i μ (m + 4) (40 * k + i))) (by omega) (shI_pass hI (by assumption) (over_lt (by assumption))) (by rw [passF_8]; exact h0)
                  simp only [planF, canF, Int32.add_zero, eq_true h0, eq_false h1, eq_false h2, eq_false h3, eq_true h6, eq_false h9, eq_false h10, eq_false h13, if_true, if_true, if_false, not_true_eq_false, not_false_eq_true, and_true, true_and, and_false, false_and, or_true, true_or, or_false, false_or]
                  exact h
theorem mt_lay {τ σ0 : Nat → Int32} (hm : isMd μ m) (e0 : mdG (ps_i μ) m 0 = σ0) (hs : sameF τ σ0) : ps_Ev (ps_XX L xs) (d + 2) j_X8_layTried [.ref m] (MS μ m 1832 τ) none (MS μ m 1832 σ0) := by
  subst e0
  exact mm_layTried hm hs
theorem mt_areActs {τ : Nat → Int32} (hm : isMd μ m) {k S : Nat} (hk : k < 6) (eS : ps_i μ (m + 3) k = nI S) (hS40 : S ≤ 40) : ps_Ev (ps_XX L xs) (d + 3) j_X8_areActs [.ref m, .int (nI k)] (MS μ m 1832 τ) (some (.int (b2i (actsB (fun x => ps_i μ (m + 4) (40 * k + x)) S = true)))) (MS μ m 1832 τ) := by
  have h := mq_areActs (L := L) (xs := xs) (d := d) (μ := MS μ m 1832 τ) (m := m) hm hk (by rw [MS_off (by omega)]; exact eS) hS40
  have e : (fun x => ps_i (MS μ m 1832 τ) (m + 4) (40 * k + x)) = (fun x => ps_i μ (m + 4) (40 * k + x)) := funext fun x => MS_off (by omega)
  rw [e] at h
  exact h
theorem mq_run (hm : isMd μ m) {τ σ0 : Nat → Int32} (e0 : mdG (ps_i μ) m 0 = σ0) (hs : sameF τ σ0) (hI : shI g σ0) {r : Int32} {k : Nat} (hr : rowP r → r = nI k ∧ k < 6) {S : Nat} (hS : 0 ≤ ps_i μ (m + 3) k → ps_i μ (m + 3) k = nI S ∧ S ≤ 40) : evI (ps_XX L xs) (d + 6) j_X8_run [.ref m, .int r] (MS μ m 1832 τ) (if ¬ rowP r then (-1, MS μ m 1832 τ) else if σ0 8 = 0 then (-4, MS μ m 1832 τ) else if ¬ 0 ≤ ps_i μ (m + 3) k then (-3, FM (MS μ m 1832 τ) m 1) else if ¬ actsB (fun x => ps_i μ (m + 4) (40 * k + x)) S = true then (-3, FM (MS μ m 1832 τ) m 3) else ((planF g (fun x => ps_i μ (m + 4) (40 * k + x)) S 0 σ0).1, MS (ps_sI μ m 9 ((planF g (fun x => ps_i μ (m + 4) (40 * k + x)) S 0 σ0).2 0)) m 1832 (planF g (fun x => ps_i μ (m + 4) (40 * k + x)) S 0 σ0).2)) := by
  refine ⟨Nat.le_of_ble_eq_true rfl, ?_⟩
  refine e_2 rfl rfl ?_
  refine e_s1 rfl rfl rfl (Nat.le_of_ble_eq_true rfl) (sm_isRow _) ?_
  refine e_31b rfl (fun h1 => ?_) (fun h1 => ?_)
  · obtain ⟨rfl, hk⟩ := hr h1
    refine e_4 rfl rfl ?_
    refine m_gangs (by exact hm) rfl rfl ?_
    rw [hs 8 (by omega) (by omega)]
    refine e_31 rfl (fun h2 => ?_) (fun h2 => ?_)
    · refine e_4 rfl rfl ?_
      refine e_gr rfl hm.1 rfl hm.2.2.2.2.2.2.2.2.2.2.2.1 ?_
      refine e_2 rfl rfl ?_
      refine m_a_ld (i := k) (c := 3) (n := 6) (by first | rfl | (simp only [← nI_add, ← pk_mul]; rfl) | (simp only [nI_add, pk_mul, nI_1]; done)) (by omega) (by decide) rfl hm.2.2.2.1 (by decide) ?_
      refine e_33 rfl (fun h3 => ?_) (fun h3 => ?_)
      · obtain ⟨eS, hS40⟩ := hS h3
        rw [eS] at h3 ⊢
        refine e_4 rfl rfl ?_
        refine e_2 rfl rfl ?_
        refine e_v1 rfl (by first | exact hm.1 | assumption | rfl) rfl (by decide) rfl (Nat.le_of_ble_eq_true rfl) (mt_areActs hm hk eS hS40) ?_
        refine e_31b rfl (fun h4 => ?_) (fun h4 => ?_)
        · refine e_4 rfl rfl ?_
          refine e_v0v rfl (by first | exact hm.1 | assumption | rfl) rfl (by decide) rfl (Nat.le_of_ble_eq_true rfl) (mt_lay hm e0 hs) ?_
          refine e_0 rfl ?_
          refine e_5 rfl rfl ?_
          refine e_0 rfl ?_
          refine e_5 rfl rfl ?_
          simp only [eq_true h1, eq_false h2, eq_true h3, eq_true h4, if_true, if_true, if_false, not_true_eq_false, not_false_eq_true, and_true, true_and, and_false, false_and, or_true, true_or, or_false, false_or, reduceIte]
          exact mt_run_loop (L := L) (xs := xs) (d := d + 1) hm hk eS hS40 S 0 σ0 (by omega) hI (g_pos hI.1 h2)
        · refine e_4 rfl rfl ?_
          refine e_0 rfl ?_
          refine e_v1 rfl (by first | exact hm.1 | assumption | rfl) rfl (by decide) rfl (Nat.le_of_ble_eq_true rfl) (evo (mq_find (μ := MS μ m 1832 τ) hm (by decide))) ?_
          exact e_ri rfl rfl (by first | (simp only [eq_true h1, eq_false h2, eq_true h3, eq_false h4, if_true, if_true, if_false, not_true_eq_false, not_false_eq_true, and_true, true_and, and_false, false_and, or_true, true_or, or_false, false_or, reduceIte]; done) | (simp only [eq_true h1, eq_false h2, eq_true h3, eq_false h4, if_true, if_true, if_false, not_true_eq_false, not_false_eq_true, and_true, true_and, and_false, false_and, or_true, true_or, or_false, false_or, reduceIte]; rfl) | rfl) (by first | (simp only [eq_true h1, eq_false h2, eq_true h3, eq_false h4, if_true, if_true, if_false, not_true_eq_false, not_false_eq_true, and_true, true_and, and_false, false_and, or_true, true_or, or_false, false_or, reduceIte]; done) | (simp only [eq_true h1, eq_false h2, eq_true h3, eq_false h4, if_true, if_true, if_false, not_true_eq_false, not_false_eq_true, and_true, true_and, and_false, false_and, or_true, true_or, or_false, false_or, reduceIte]; rfl) | rfl)
      · refine e_4 rfl rfl ?_
        refine e_0 rfl ?_
        refine e_v1 rfl (by first | exact hm.1 | assumption | rfl) rfl (by decide) rfl (Nat.le_of_ble_eq_true rfl) (evo (mq_find (μ := MS μ m 1832 τ) hm (by decide))) ?_
        exact e_ri rfl rfl (by first | (simp only [eq_true h1, eq_false h2, eq_false h3, if_true, if_true, if_false, not_true_eq_false, not_false_eq_true, and_true, true_and, and_false, false_and, or_true, true_or, or_false, false_or, reduceIte]; done) | (simp only [eq_true h1, eq_false h2, eq_false h3, if_true, if_true, if_false, not_true_eq_false, not_false_eq_true, and_true, true_and, and_false, false_and, or_true, true_or, or_false, false_or, reduceIte]; rfl) | rfl) (by first | (simp only [eq_true h1, eq_false h2, eq_false h3, if_true, if_true, if_false, not_true_eq_false, not_false_eq_true, and_true, true_and, and_false, false_and, or_true, true_or, or_false, false_or, reduceIte]; done) | (simp only [eq_true h1, eq_false h2, eq_false h3, if_true, if_true, if_false, not_true_eq_false, not_false_eq_true, and_true, true_and, and_false, false_and, or_true, true_or, or_false, false_or, reduceIte]; rfl) | rfl)
    · refine e_0 rfl ?_
      exact e_ri rfl rfl (by first | (simp only [eq_true h1, eq_true h2, if_true, if_true, if_false, not_true_eq_false, not_false_eq_true, and_true, true_and, and_false, false_and, or_true, true_or, or_false, false_or, reduceIte]; done) | (simp only [eq_true h1, eq_true h2, if_true, if_true, if_false, not_true_eq_false, not_false_eq_true, and_true, true_and, and_false, false_and, or_true, true_or, or_false, false_or, reduceIte]; rfl) | rfl) (by first | (simp only [eq_true h1, eq_true h2, if_true, if_true, if_false, not_true_eq_false, not_false_eq_true, and_true, true_and, and_false, false_and, or_true, true_or, or_false, false_or, reduceIte]; done) | (simp only [eq_true h1, eq_true h2, if_true, if_true, if_false, not_true_eq_false, not_false_eq_true, and_true, true_and, and_false, false_and, or_true, true_or, or_false, false_or, reduceIte]; rfl) | rfl)
  · refine e_0 rfl ?_
    exact e_ri rfl rfl (by first | (simp only [eq_false h1, if_true, if_true, if_false, not_true_eq_false, not_false_eq_true, and_true, true_and, and_false, false_and, or_true, true_or, or_false, false_or, reduceIte]; done) | (simp only [eq_false h1, if_true, if_true, if_false, not_true_eq_false, not_false_eq_true, and_true, true_and, and_false, false_and, or_true, true_or, or_false, false_or, reduceIte]; rfl) | rfl) (by first | (simp only [eq_false h1, if_true, if_true, if_false, not_true_eq_false, not_false_eq_true, and_true, true_and, and_false, false_and, or_true, true_or, or_false, false_or, reduceIte]; done) | (simp only [eq_false h1, if_true, if_true, if_false, not_true_eq_false, not_false_eq_true, and_true, true_and, and_false, false_and, or_true, true_or, or_false, false_or, reduceIte]; rfl) | rfl)
end MQ6
