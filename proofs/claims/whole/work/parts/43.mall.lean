-- ===== all plans, all watches of the model =====
def tlF (σ : Nat → Int32) : Nat := (σ 4).toNatClampNeg - (σ 5).toNatClampNeg
theorem tl_0 {g : Nat} {σ : Nat → Int32} (h : shI g σ) (ht : tlF σ ≤ 0) : overF σ := by
  obtain ⟨-, -, -, -, -, p, q, hpq, hq, e5, e4⟩ := h
  unfold tlF at ht
  rw [e5, e4, nI_clamp (by omega), nI_clamp (by omega)] at ht
  exact Or.inr (fun z => by
    rw [e5, e4] at z
    have := (nI_ltI (by omega) (by omega)).mp z
    omega)
theorem tl_40 {g : Nat} {σ : Nat → Int32} (h : shI g σ) : tlF σ ≤ 40 := by
  obtain ⟨-, -, -, -, -, p, q, hpq, hq, e5, e4⟩ := h
  unfold tlF
  rw [e5, e4, nI_clamp (by omega), nI_clamp (by omega)]
  omega
theorem tl_pass {g n : Nat} {σ : Nat → Int32} {a : Int32} (h : shI g σ) (ho : ¬ overF σ) (ht : tlF σ ≤ n + 1) : tlF (passF g σ a) ≤ n := by
  have h5 : passF g σ a 5 = σ 5 + 1 := by rw [passF_pt, if_pos rfl]
  have h4 : passF g σ a 4 = σ 4 := passF_lo (by omega) (by omega)
  have hl := over_lt ho
  obtain ⟨-, -, -, -, -, p, q, hpq, hq, e5, e4⟩ := h
  unfold tlF at ht ⊢
  rw [h5, h4]
  rw [e5, e4] at hl ht ⊢
  have := (nI_ltI (by omega) (by omega)).mp hl
  rw [nI_clamp (by omega), nI_clamp (by omega)] at ht
  rw [nI_1, nI_clamp (by omega), nI_clamp (by omega)]
  omega
theorem mod_step {i N : Nat} (h : 0 < N) : (if i % N + 1 < N then i % N + 1 else 0) = (i + 1) % N := by
  have := Nat.mod_lt i h
  split
  · rename_i h1
    rw [Nat.add_mod, Nat.mod_eq_of_lt (show 1 < N by omega), Nat.mod_eq_of_lt h1]
  · rename_i h1
    rw [Nat.add_mod]
    rcases (show N = 1 ∨ 1 < N by omega) with rfl | h2
    · rw [Nat.mod_one]
    · rw [Nat.mod_eq_of_lt h2, show i % N + 1 = N by omega, Nat.mod_self]
def ldF (g N : Nat) (σ : Nat → Int32) (x : Nat) : Int32 × (Nat → Int32) := (if sunkF (rotaF g (fun i => nI (dig N x i)) N 40 0 σ) then 0 else 1, rotaF g (fun i => nI (dig N x i)) N 40 0 σ)
def bestF (kp : Nat → Int32 × (Nat → Int32)) : Nat → Int32 × Int32
  | 0 => (-9, 0)
  | n + 1 => if ¬ (kp n).1 = 0 ∧ ((bestF kp n).1 = -9 ∨ ¬ (bestF kp n).2 ≤ (kp n).2 0) then (nI n, (kp n).2 0) else bestF kp n
def lastT (kp : Nat → Int32 × (Nat → Int32)) (τ : Nat → Int32) : Nat → (Nat → Int32)
  | 0 => τ
  | n + 1 => (kp n).2
def cntL (kp : Nat → Int32 × (Nat → Int32)) : Nat → Int64
  | 0 => 0
  | n + 1 => cntL kp n + (if (kp n).1 = 0 then 0 else 1)
def frF (kp : Nat → Int32 × (Nat → Int32)) (N : Nat) : Nat → Int32
  | 0 => 0
  | n + 1 => frF kp N n ||| (if (kp n).1 = 0 then 0 else (1 : Int32) <<< (nI (dig N n 0) &&& 31))
theorem best_x (kp : Nat → Int32 × (Nat → Int32)) : ∀ n, ¬ (bestF kp n).1 = -9 → ∃ x, x < n ∧ (bestF kp n).1 = nI x
  | 0, h => absurd rfl h
  | n + 1, h => by
    unfold bestF at h ⊢
    split at h
    · rename_i z; rw [if_pos z]; exact ⟨n, by omega, rfl⟩
    · rename_i z
      rw [if_neg z]
      obtain ⟨x, hx, e⟩ := best_x kp n h
      exact ⟨x, by omega, e⟩
theorem keep_same {g : Nat} {p : Nat → Int32} {σ0 : Nat → Int32} : ∀ n i σ, sameF σ σ0 → sameF (keepF g p n i σ).2 σ0
  | 0, _, _, h => h
  | n + 1, i, σ, h => by
    unfold keepF
    split
    · exact h
    · split
      · exact h.pass
      · exact keep_same n (i + 1) _ h.pass
theorem rota_same {g N : Nat} {p : Nat → Int32} {σ0 : Nat → Int32} : ∀ n i σ, sameF σ σ0 → sameF (rotaF g p N n i σ) σ0
  | 0, _, _, h => h
  | n + 1, i, σ, h => by
    unfold rotaF
    split
    · exact h
    · exact rota_same n _ _ h.rest
theorem kp_same {g N x : Nat} {σ : Nat → Int32} : sameF (kpF g N σ x).2 σ := by
  unfold kpF
  split
  · exact sameF.rf
  · exact keep_same _ _ _ sameF.rf
theorem ld_same {g N x : Nat} {σ : Nat → Int32} : sameF (ldF g N σ x).2 σ := rota_same _ _ _ sameF.rf
theorem last_kp {g N : Nat} {τ σ : Nat → Int32} (h : sameF τ σ) : ∀ n, sameF (lastT (kpF g N σ) τ n) σ
  | 0 => h
  | _ + 1 => kp_same
theorem last_ld {g N : Nat} {τ σ : Nat → Int32} (h : sameF τ σ) : ∀ n, sameF (lastT (ldF g N σ) τ n) σ
  | 0 => h
  | _ + 1 => ld_same
section MQ7
variable {L : Nat} {xs : Nat → Int32} {d : Nat} {μ : ps_M} {m : Nat} {σ : Nat → Int32} {g : Nat} {τ σ0 : Nat → Int32}
theorem mt_keeps_loop (hm : isMd μ m) {N x : Nat} (hN : N ≤ 8) (hx : x < 2 ^ 31) : ∀ (n i : Nat) (σ : Nat → Int32), i + n = N → shI g σ → ps_To (ps_XX L xs) (ps_Ev (ps_XX L xs) (d + 4)) j_X8_keeps (ps_rt j_X8_keeps (some (.int (keepF g (fun i => nI (dig N x i)) n i σ).1)) (MS μ m 1832 (keepF g (fun i => nI (dig N x i)) n i σ).2)) (23, [(4, .int (nI i)), (3, .int (1)), (0, .ref (m)), (1, .int (nI x)), (2, .int (nI N))], [], MS μ m 1832 σ) := by
  intro n
  induction n with
  | zero =>
    intro i σ hi hI
    obtain rfl : i = N := by omega
    refine e_2 rfl rfl ?_
    refine e_2 rfl rfl ?_
    refine e_39 rfl (fun h1 => ?_) (fun h1 => ?_)
    · refine e_2 rfl rfl ?_
      exact e_rz rfl rfl (by first | decide | assumption) (by first | (simp only [kpF, keepF, eq_true h1, if_true, if_true, if_false, not_true_eq_false, not_false_eq_true, and_true, true_and, and_false, false_and, or_true, true_or, or_false, false_or, Int32.add_zero]; done) | (simp only [kpF, keepF, eq_true h1, if_true, if_true, if_false, not_true_eq_false, not_false_eq_true, and_true, true_and, and_false, false_and, or_true, true_or, or_false, false_or, Int32.add_zero]; rfl) | rfl) (by first | (simp only [kpF, keepF, eq_true h1, if_true, if_true, if_false, not_true_eq_false, not_false_eq_true, and_true, true_and, and_false, false_and, or_true, true_or, or_false, false_or, Int32.add_zero]; done) | (simp only [kpF, keepF, eq_true h1, if_true, if_true, if_false, not_true_eq_false, not_false_eq_true, and_true, true_and, and_false, false_and, or_true, true_or, or_false, false_or, Int32.add_zero]; rfl) | rfl)
    · exact absurd (nI_le (Nat.le_refl _) (by omega)) h1
  | succ n ih =>
    intro i σ hi hI
    refine e_2 rfl rfl ?_
    refine e_2 rfl rfl ?_
    refine e_39 rfl (fun h1 => ?_) (fun h1 => ?_)
    · exact absurd h1 (nI_ge (by omega) (by omega))
    · refine e_2 rfl rfl ?_
      refine e_30 rfl (fun h2 => ?_) (fun h2 => ?_)
      · exact absurd h2 (by decide)
      · refine e_2 rfl rfl ?_
        refine e_2 rfl rfl ?_
        refine e_2 rfl rfl ?_
        refine e_s3 rfl rfl rfl (Nat.le_of_ble_eq_true rfl) (mq_actOf hN (by omega) hx) ?_
        refine e_5 rfl rfl ?_
        refine e_4 rfl rfl ?_
        refine e_0 rfl ?_
        refine e_v1 rfl (by first | exact hm.1 | assumption | rfl) rfl (by decide) rfl (Nat.le_of_ble_eq_true rfl) (mm_over (B := 1832) hm (by decide) hI) ?_
        refine e_31b rfl (fun h3 => ?_) (fun h3 => ?_)
        · refine e_0 rfl ?_
          refine e_5 rfl rfl ?_
          refine e_2 rfl rfl ?_
          refine e_30 rfl (fun h4 => ?_) (fun h4 => ?_)
          · refine e_8 rfl rfl rfl ?_
            refine e_42 rfl ?_
            refine e_2 rfl rfl ?_
            refine e_2 rfl rfl ?_
            refine e_39 rfl (fun h5 => ?_) (fun h5 => ?_)
            · refine e_2 rfl rfl ?_
              exact e_rz rfl rfl (by first | decide | assumption) (by first | (simp only [kpF, keepF, eq_false h1, eq_false h2, eq_true h3, eq_true h4, eq_true h5, if_true, if_true, if_false, not_true_eq_false, not_false_eq_true, and_true, true_and, and_false, false_and, or_true, true_or, or_false, false_or, Int32.add_zero]; done) | (simp only [kpF, keepF, eq_false h1, eq_false h2, eq_true h3, eq_true h4, eq_true h5, if_true, if_true, if_false, not_true_eq_false, not_false_eq_true, and_true, true_and, and_false, false_and, or_true, true_or, or_false, false_or, Int32.add_zero]; rfl) | rfl) (by first | (simp only [kpF, keepF, eq_false h1, eq_false h2, eq_true h3, eq_true h4, eq_true h5, if_true, if_true, if_false, not_true_eq_false, not_false_eq_true, and_true, true_and, and_false, false_and, or_true, true_or, or_false, false_or, Int32.add_zero]; done) | (simp only [kpF, keepF, eq_false h1, eq_false h2, eq_true h3, eq_true h4, eq_true h5, if_true, if_true, if_false, not_true_eq_false, not_false_eq_true, and_true, true_and, and_false, false_and, or_true, true_or, or_false, false_or, Int32.add_zero]; rfl) | rfl)
            · refine e_2 rfl rfl ?_
              refine e_30 rfl (fun h6 => ?_) (fun h6 => ?_)
              · refine e_2 rfl rfl ?_
                exact e_rz rfl rfl (by first | decide | assumption) (by first | (simp only [kpF, keepF, eq_false h1, eq_false h2, eq_true h3, eq_true h4, eq_false h5, eq_true h6, if_true, if_true, if_false, not_true_eq_false, not_false_eq_true, and_true, true_and, and_false, false_and, or_true, true_or, or_false, false_or, Int32.add_zero]; done) | (simp only [kpF, keepF, eq_false h1, eq_false h2, eq_true h3, eq_true h4, eq_false h5, eq_true h6, if_true, if_true, if_false, not_true_eq_false, not_false_eq_true, and_true, true_and, and_false, false_and, or_true, true_or, or_false, false_or, Int32.add_zero]; rfl) | rfl) (by first | (simp only [kpF, keepF, eq_false h1, eq_false h2, eq_true h3, eq_true h4, eq_false h5, eq_true h6, if_true, if_true, if_false, not_true_eq_false, not_false_eq_true, and_true, true_and, and_false, false_and, or_true, true_or, or_false, false_or, Int32.add_zero]; done) | (simp only [kpF, keepF, eq_false h1, eq_false h2, eq_true h3, eq_true h4, eq_false h5, eq_true h6, if_true, if_true, if_false, not_true_eq_false, not_false_eq_true, and_true, true_and, and_false, false_and, or_true, true_or, or_false, false_or, Int32.add_zero]; rfl) | rfl)
              · exact absurd rfl h6
          · exact absurd rfl h4
        · refine e_4 rfl rfl ?_
          refine e_0 rfl ?_
          refine e_2 rfl rfl ?_
          refine e_v2 rfl (by first | exact hm.1 | assumption | rfl) rfl (by decide) rfl (Nat.le_of_ble_eq_true rfl) (mm_mayF (B := 1832) hm (by decide) hI _) ?_
          refine e_30b rfl (fun h7 => ?_) (fun h7 => ?_)
          · refine e_0 rfl ?_
            refine e_5 rfl rfl ?_
            refine e_2 rfl rfl ?_
            refine e_30 rfl (fun h8 => ?_) (fun h8 => ?_)
            · refine e_8 rfl rfl rfl ?_
              refine e_42 rfl ?_
              refine e_2 rfl rfl ?_
              refine e_2 rfl rfl ?_
              refine e_39 rfl (fun h9 => ?_) (fun h9 => ?_)
              · refine e_2 rfl rfl ?_
                exact e_rz rfl rfl (by first | decide | assumption) (by first | (simp only [kpF, keepF, eq_false h1, eq_false h2, eq_false h3, eq_false h7, eq_true h8, eq_true h9, if_true, if_true, if_false, not_true_eq_false, not_false_eq_true, and_true, true_and, and_false, false_and, or_true, true_or, or_false, false_or, Int32.add_zero]; done) | (simp only [kpF, keepF, eq_false h1, eq_false h2, eq_false h3, eq_false h7, eq_true h8, eq_true h9, if_true, if_true, if_false, not_true_eq_false, not_false_eq_true, and_true, true_and, and_false, false_and, or_true, true_or, or_false, false_or, Int32.add_zero]; rfl) | rfl) (by first | (simp only [kpF, keepF, eq_false h1, eq_false h2, eq_false h3, eq_false h7, eq_true h8, eq_true h9, if_true, if_true, if_false, not_true_eq_false, not_false_eq_true, and_true, true_and, and_false, false_and, or_true, true_or, or_false, false_or, Int32.add_zero]; done) | (simp only [kpF, keepF, eq_false h1, eq_false h2, eq_false h3, eq_false h7, eq_true h8, eq_true h9, if_true, if_true, if_false, not_true_eq_false, not_false_eq_true, and_true, true_and, and_false, false_and, or_true, true_or, or_false, false_or, Int32.add_zero]; rfl) | rfl)
              · refine e_2 rfl rfl ?_
                refine e_30 rfl (fun h10 => ?_) (fun h10 => ?_)
                · refine e_2 rfl rfl ?_
                  exact e_rz rfl rfl (by first | decide | assumption) (by first | (simp only [kpF, keepF, eq_false h1, eq_false h2, eq_false h3, eq_false h7, eq_true h8, eq_false h9, eq_true h10, if_true, if_true, if_false, not_true_eq_false, not_false_eq_true, and_true, true_and, and_false, false_and, or_true, true_or, or_false, false_or, Int32.add_zero]; done) | (simp only [kpF, keepF, eq_false h1, eq_false h2, eq_false h3, eq_false h7, eq_true h8, eq_false h9, eq_true h10, if_true, if_true, if_false, not_true_eq_false, not_false_eq_true, and_true, true_and, and_false, false_and, or_true, true_or, or_false, false_or, Int32.add_zero]; rfl) | rfl) (by first | (simp only [kpF, keepF, eq_false h1, eq_false h2, eq_false h3, eq_false h7, eq_true h8, eq_false h9, eq_true h10, if_true, if_true, if_false, not_true_eq_false, not_false_eq_true, and_true, true_and, and_false, false_and, or_true, true_or, or_false, false_or, Int32.add_zero]; done) | (simp only [kpF, keepF, eq_false h1, eq_false h2, eq_false h3, eq_false h7, eq_true h8, eq_false h9, eq_true h10, if_true, if_true, if_false, not_true_eq_false, not_false_eq_true, and_true, true_and, and_false, false_and, or_true, true_or, or_false, false_or, Int32.add_zero]; rfl) | rfl)
                · exact absurd rfl h10
            · exact absurd rfl h8
          · refine e_0 rfl ?_
            refine e_42 rfl ?_
            refine e_5 rfl rfl ?_
            refine e_2 rfl rfl ?_
            refine e_30 rfl (fun h11 => ?_) (fun h11 => ?_)
            · exact absurd h11 (by decide)
            · refine e_4 rfl rfl ?_
              refine e_0 rfl ?_
              refine e_2 rfl rfl ?_
              refine e_v2v rfl (by first | exact hm.1 | assumption | rfl) rfl (by decide) rfl (Nat.le_of_ble_eq_true rfl) (mm_passA (B := 1832) hm (by decide) hI (by assumption)) ?_
              refine e_4 rfl rfl ?_
              refine e_0 rfl ?_
              refine e_v1 rfl (by first | exact hm.1 | assumption | rfl) rfl (by decide) rfl (Nat.le_of_ble_eq_true rfl) (mm_isSunk (B := 1832) hm (by decide)) ?_
              refine e_31b rfl (fun h12 => ?_) (fun h12 => ?_)
              · refine e_0 rfl ?_
                refine e_5 rfl rfl ?_
                refine e_8 rfl rfl rfl ?_
                refine e_42 rfl ?_
                refine e_2 rfl rfl ?_
                refine e_2 rfl rfl ?_
                refine e_39 rfl (fun h13 => ?_) (fun h13 => ?_)
                · refine e_2 rfl rfl ?_
                  exact e_rz rfl rfl (by first | decide | assumption) (by first | (simp only [kpF, keepF, eq_false h1, eq_false h2, eq_false h3, eq_true h7, eq_false h11, eq_true h12, eq_true h13, if_true, if_true, if_false, not_true_eq_false, not_false_eq_true, and_true, true_and, and_false, false_and, or_true, true_or, or_false, false_or, Int32.add_zero]; done) | (simp only [kpF, keepF, eq_false h1, eq_false h2, eq_false h3, eq_true h7, eq_false h11, eq_true h12, eq_true h13, if_true, if_true, if_false, not_true_eq_false, not_false_eq_true, and_true, true_and, and_false, false_and, or_true, true_or, or_false, false_or, Int32.add_zero]; rfl) | rfl) (by first | (simp only [kpF, keepF, eq_false h1, eq_false h2, eq_false h3, eq_true h7, eq_false h11, eq_true h12, eq_true h13, if_true, if_true, if_false, not_true_eq_false, not_false_eq_true, and_true, true_and, and_false, false_and, or_true, true_or, or_false, false_or, Int32.add_zero]; done) | (simp only [kpF, keepF, eq_false h1, eq_false h2, eq_false h3, eq_true h7, eq_false h11, eq_true h12, eq_true h13, if_true, if_true, if_false, not_true_eq_false, not_false_eq_true, and_true, true_and, and_false, false_and, or_true, true_or, or_false, false_or, Int32.add_zero]; rfl) | rfl)
                · refine e_2 rfl rfl ?_
                  refine e_30 rfl (fun h14 => ?_) (fun h14 => ?_)
                  · refine e_2 rfl rfl ?_
                    exact e_rz rfl rfl (by first | decide | assumption) (by first | (simp only [kpF, keepF, eq_false h1, eq_false h2, eq_false h3, eq_true h7, eq_false h11, eq_true h12, eq_false h13, eq_true h14, if_true, if_true, if_false, not_true_eq_false, not_false_eq_true, and_true, true_and, and_false, false_and, or_true, true_or, or_false, false_or, Int32.add_zero]; done) | (simp only [kpF, keepF, eq_false h1, eq_false h2, eq_false h3, eq_true h7, eq_false h11, eq_true h12, eq_false h13, eq_true h14, if_true, if_true, if_false, not_true_eq_false, not_false_eq_true, and_true, true_and, and_false, false_and, or_true, true_or, or_false, false_or, Int32.add_zero]; rfl) | rfl) (by first | (simp only [kpF, keepF, eq_false h1, eq_false h2, eq_false h3, eq_true h7, eq_false h11, eq_true h12, eq_false h13, eq_true h14, if_true, if_true, if_false, not_true_eq_false, not_false_eq_true, and_true, true_and, and_false, false_and, or_true, true_or, or_false, false_or, Int32.add_zero]; done) | (simp only [kpF, keepF, eq_false h1, eq_false h2, eq_false h3, eq_true h7, eq_false h11, eq_true h12, eq_false h13, eq_true h14, if_true, if_true, if_false, not_true_eq_false, not_false_eq_true, and_true, true_and, and_false, false_and, or_true, true_or, or_false, false_or, Int32.add_zero]; rfl) | rfl)
                  · exact absurd rfl h14
              · refine e_0 rfl ?_
                refine e_42 rfl ?_
                refine e_5 rfl rfl ?_
                refine e_8 rfl rfl rfl ?_
                refine e_42 rfl ?_
                refine e_lv [0, 1, 3, 4, 5] rfl rfl ?_
                show ps_To _ _ _ _ (23, [(4, .int _), (3, .int _), (0, .ref _), (1, .int _), (2, .int _)], [], _)
                rw [nI_1]
                have h := ih (i + 1) (passF g σ (nI (dig N x i))) (by omega) (shI_pass hI (by assumption) (over_lt (by assumption)))
                simp only [kpF, keepF, eq_false h1, eq_false h2, eq_false h3, eq_true h7, eq_false h11, eq_false h12, if_true, if_true, if_false, not_true_eq_false, not_false_eq_true, and_true, true_and, and_false, false_and, or_true, true_or, or_false, false_or, Int32.add_zero]
                exact h
theorem mt_keeps (hm : isMd μ m) (e0 : mdG (ps_i μ) m 0 = σ0) (hs : sameF τ σ0) (hI : shI g σ0) {N x : Nat} (hN : N ≤ 8) (hx : x < 2 ^ 31) : ps_Ev (ps_XX L xs) (d + 5) j_X8_keeps [.ref m, .int (nI x), .int (nI N)] (MS μ m 1832 τ) (some (.int (kpF g N σ0 x).1)) (MS μ m 1832 (kpF g N σ0 x).2) := by
  refine ⟨Nat.le_of_ble_eq_true rfl, ?_⟩
  refine e_4 rfl rfl ?_
  refine e_v0v rfl (by first | exact hm.1 | assumption | rfl) rfl (by decide) rfl (Nat.le_of_ble_eq_true rfl) (mt_lay hm e0 hs) ?_
  refine e_4 rfl rfl ?_
  refine e_0 rfl ?_
  refine e_v1 rfl (by first | exact hm.1 | assumption | rfl) rfl (by decide) rfl (Nat.le_of_ble_eq_true rfl) (mm_isSunk (B := 1832) hm (by decide)) ?_
  refine e_31b rfl (fun h1 => ?_) (fun h1 => ?_)
  · refine e_0 rfl ?_
    refine e_5 rfl rfl ?_
    refine e_0 rfl ?_
    refine e_5 rfl rfl ?_
    refine e_2 rfl rfl ?_
    refine e_2 rfl rfl ?_
    refine e_39 rfl (fun h2 => ?_) (fun h2 => ?_)
    · refine e_2 rfl rfl ?_
      exact e_rz rfl rfl (by first | decide | exact b2i_01 | assumption) (by first | (simp only [kpF, keepF, eq_true h1, eq_true h2, if_true, if_true, if_false, not_true_eq_false, not_false_eq_true, and_true, true_and, and_false, false_and, or_true, true_or, or_false, false_or, Int32.add_zero]; done) | (simp only [kpF, keepF, eq_true h1, eq_true h2, if_true, if_true, if_false, not_true_eq_false, not_false_eq_true, and_true, true_and, and_false, false_and, or_true, true_or, or_false, false_or, Int32.add_zero]; rfl) | rfl) (by first | (simp only [kpF, keepF, eq_true h1, eq_true h2, if_true, if_true, if_false, not_true_eq_false, not_false_eq_true, and_true, true_and, and_false, false_and, or_true, true_or, or_false, false_or, Int32.add_zero]; done) | (simp only [kpF, keepF, eq_true h1, eq_true h2, if_true, if_true, if_false, not_true_eq_false, not_false_eq_true, and_true, true_and, and_false, false_and, or_true, true_or, or_false, false_or, Int32.add_zero]; rfl) | rfl)
    · refine e_2 rfl rfl ?_
      refine e_30 rfl (fun h3 => ?_) (fun h3 => ?_)
      · refine e_2 rfl rfl ?_
        exact e_rz rfl rfl (by first | decide | exact b2i_01 | assumption) (by first | (simp only [kpF, keepF, eq_true h1, eq_false h2, eq_true h3, if_true, if_true, if_false, not_true_eq_false, not_false_eq_true, and_true, true_and, and_false, false_and, or_true, true_or, or_false, false_or, Int32.add_zero]; done) | (simp only [kpF, keepF, eq_true h1, eq_false h2, eq_true h3, if_true, if_true, if_false, not_true_eq_false, not_false_eq_true, and_true, true_and, and_false, false_and, or_true, true_or, or_false, false_or, Int32.add_zero]; rfl) | rfl) (by first | (simp only [kpF, keepF, eq_true h1, eq_false h2, eq_true h3, if_true, if_true, if_false, not_true_eq_false, not_false_eq_true, and_true, true_and, and_false, false_and, or_true, true_or, or_false, false_or, Int32.add_zero]; done) | (simp only [kpF, keepF, eq_true h1, eq_false h2, eq_true h3, if_true, if_true, if_false, not_true_eq_false, not_false_eq_true, and_true, true_and, and_false, false_and, or_true, true_or, or_false, false_or, Int32.add_zero]; rfl) | rfl)
      · exact absurd rfl h3
  · refine e_0 rfl ?_
    refine e_42 rfl ?_
    refine e_5 rfl rfl ?_
    refine e_0 rfl ?_
    refine e_5 rfl rfl ?_
    simp only [kpF, eq_false h1, if_true, if_true, if_false, not_true_eq_false, not_false_eq_true, and_true, true_and, and_false, false_and, or_true, true_or, or_false, false_or, Int32.add_zero]
    exact mt_keeps_loop hm hN hx N 0 σ0 (by omega) hI
theorem mq_toRow_loop (hm : isMd μ m) {N x k : Nat} (hN : N ≤ 8) (hx : x < 2 ^ 31) (hk : k < 6) : ∀ (n i : Nat), i + n = N → ps_To (ps_XX L xs) (ps_Ev (ps_XX L xs) (d + 2)) j_X8_toRow (ps_rt j_X8_toRow none (TR μ m k N x N)) (9, [(4, .int (nI i)), (0, .ref (m)), (1, .int (nI k)), (2, .int (nI x)), (3, .int (nI N))], [], TR μ m k N x i) := by
  intro n
  induction n with
  | zero =>
    intro i hi
    obtain rfl : i = N := by omega
    refine e_2 rfl rfl ?_
    refine e_2 rfl rfl ?_
    refine e_39 rfl (fun h1 => ?_) (fun h1 => ?_)
    · exact e_rv rfl (rfl)
    · exact absurd (nI_le (Nat.le_refl _) (by omega)) h1
  | succ n ih =>
    intro i hi
    refine e_2 rfl rfl ?_
    refine e_2 rfl rfl ?_
    refine e_39 rfl (fun h1 => ?_) (fun h1 => ?_)
    · exact absurd h1 (nI_ge (by omega) (by omega))
    · refine e_4 rfl rfl ?_
      refine e_gr rfl hm.1 rfl hm.2.2.2.2.2.2.2.2.2.2.2.2.1 ?_
      refine e_0 rfl ?_
      refine e_2 rfl rfl ?_
      refine e_11 rfl ?_
      refine e_2 rfl rfl ?_
      refine e_9 rfl ?_
      refine e_2 rfl rfl ?_
      refine e_2 rfl rfl ?_
      refine e_2 rfl rfl ?_
      refine e_s3 rfl rfl rfl (Nat.le_of_ble_eq_true rfl) (mq_actOf hN (by omega) hx) ?_
      refine e_49q (i := ((40 * k) + i)) rfl hm.2.2.2.2.1 (by first | rfl | (simp only [← nI_add, ← pk_mul]; rfl) | (simp only [nI_add, pk_mul, nI_1]; done)) (by omega) (by decide) ?_
      refine e_8 rfl rfl rfl ?_
      refine e_42 rfl ?_
      refine e_lv [0, 1, 2, 3, 4] rfl rfl ?_
      show ps_To _ _ _ _ (9, [(4, .int _), (0, .ref _), (1, .int _), (2, .int _), (3, .int _)], [], _)
      have h := ih (i + 1) (by omega)
      rw [← TR_s] at h
      rw [nI_1]
      exact h
theorem mq_toRow (hm : isMd μ m) {N x k : Nat} (hN : N ≤ 8) (hx : x < 2 ^ 31) (hk : k < 6) : ps_Ev (ps_XX L xs) (d + 3) j_X8_toRow [.ref m, .int (nI k), .int (nI x), .int (nI N)] μ none (TR μ m k N x N) := by
  refine ⟨Nat.le_of_ble_eq_true rfl, ?_⟩
  refine e_4 rfl rfl ?_
  refine e_2 rfl rfl ?_
  refine e_2 rfl rfl ?_
  refine e_v2v rfl (by first | exact hm.1 | assumption | rfl) rfl (by decide) rfl (Nat.le_of_ble_eq_true rfl) (mq_makeRow hm hk (nI N)) ?_
  refine e_0 rfl ?_
  refine e_5 rfl rfl ?_
  have h := mq_toRow_loop (L := L) (xs := xs) (d := d) hm hN hx hk N 0 (by omega)
  rw [← TR_0] at h
  exact h
theorem mt_lands_loop (hm : isMd μ m) {N x : Nat} (hN : N ≤ 8) (hN0 : 0 < N) (hx : x < 2 ^ 31) : ∀ (n i : Nat) (σ : Nat → Int32), i + n = 40 → shI g σ → tlF σ ≤ n → ps_To (ps_XX L xs) (ps_Ev (ps_XX L xs) (d + 5)) j_X8_lands (ps_rt j_X8_lands (some (.int (if sunkF (rotaF g (fun i => nI (dig N x i)) N n (i % N) σ) then 0 else 1))) (MS μ m 1832 (rotaF g (fun i => nI (dig N x i)) N n (i % N) σ))) (6, [(3, .int (nI i)), (0, .ref (m)), (1, .int (nI x)), (2, .int (nI N))], [], MS μ m 1832 σ) := by
  intro n
  induction n with
  | zero =>
    intro i σ hi hI ht
    obtain rfl : i = 40 := by omega
    refine e_4 rfl rfl ?_
    refine e_0 rfl ?_
    refine e_v1 rfl (by first | exact hm.1 | assumption | rfl) rfl (by decide) rfl (Nat.le_of_ble_eq_true rfl) (mm_over (B := 1832) hm (by decide) hI) ?_
    refine e_31b rfl (fun h1 => ?_) (fun h1 => ?_)
    · refine e_4 rfl rfl ?_
      refine e_0 rfl ?_
      refine e_v1 rfl (by first | exact hm.1 | assumption | rfl) rfl (by decide) rfl (Nat.le_of_ble_eq_true rfl) (mm_isSunk (B := 1832) hm (by decide)) ?_
      refine e_31b rfl (fun h2 => ?_) (fun h2 => ?_)
      · refine e_0 rfl ?_
        exact e_rz rfl rfl (by first | decide | exact b2i_01 | assumption) (by first | (simp only [rotaF, eq_true h1, eq_true h2, if_true, if_true, if_false, not_true_eq_false, not_false_eq_true, and_true, true_and, and_false, false_and, or_true, true_or, or_false, false_or, Int32.add_zero]; done) | (simp only [rotaF, eq_true h1, eq_true h2, if_true, if_true, if_false, not_true_eq_false, not_false_eq_true, and_true, true_and, and_false, false_and, or_true, true_or, or_false, false_or, Int32.add_zero]; rfl) | rfl) (by first | (simp only [rotaF, eq_true h1, eq_true h2, if_true, if_true, if_false, not_true_eq_false, not_false_eq_true, and_true, true_and, and_false, false_and, or_true, true_or, or_false, false_or, Int32.add_zero]; done) | (simp only [rotaF, eq_true h1, eq_true h2, if_true, if_true, if_false, not_true_eq_false, not_false_eq_true, and_true, true_and, and_false, false_and, or_true, true_or, or_false, false_or, Int32.add_zero]; rfl) | rfl)
      · refine e_0 rfl ?_
        refine e_42 rfl ?_
        exact e_rz rfl rfl (by first | decide | exact b2i_01 | assumption) (by first | (simp only [rotaF, eq_true h1, eq_false h2, if_true, if_true, if_false, not_true_eq_false, not_false_eq_true, and_true, true_and, and_false, false_and, or_true, true_or, or_false, false_or, Int32.add_zero]; done) | (simp only [rotaF, eq_true h1, eq_false h2, if_true, if_true, if_false, not_true_eq_false, not_false_eq_true, and_true, true_and, and_false, false_and, or_true, true_or, or_false, false_or, Int32.add_zero]; rfl) | rfl) (by first | (simp only [rotaF, eq_true h1, eq_false h2, if_true, if_true, if_false, not_true_eq_false, not_false_eq_true, and_true, true_and, and_false, false_and, or_true, true_or, or_false, false_or, Int32.add_zero]; done) | (simp only [rotaF, eq_true h1, eq_false h2, if_true, if_true, if_false, not_true_eq_false, not_false_eq_true, and_true, true_and, and_false, false_and, or_true, true_or, or_false, false_or, Int32.add_zero]; rfl) | rfl)
    · exact absurd (tl_0 hI (by omega)) h1
  | succ n ih =>
    intro i σ hi hI ht
    refine e_4 rfl rfl ?_
    refine e_0 rfl ?_
    refine e_v1 rfl (by first | exact hm.1 | assumption | rfl) rfl (by decide) rfl (Nat.le_of_ble_eq_true rfl) (mm_over (B := 1832) hm (by decide) hI) ?_
    refine e_31b rfl (fun h1 => ?_) (fun h1 => ?_)
    · refine e_4 rfl rfl ?_
      refine e_0 rfl ?_
      refine e_v1 rfl (by first | exact hm.1 | assumption | rfl) rfl (by decide) rfl (Nat.le_of_ble_eq_true rfl) (mm_isSunk (B := 1832) hm (by decide)) ?_
      refine e_31b rfl (fun h2 => ?_) (fun h2 => ?_)
      · refine e_0 rfl ?_
        exact e_rz rfl rfl (by first | decide | exact b2i_01 | assumption) (by first | (simp only [rotaF, eq_true h1, eq_true h2, if_true, if_true, if_false, not_true_eq_false, not_false_eq_true, and_true, true_and, and_false, false_and, or_true, true_or, or_false, false_or, Int32.add_zero]; done) | (simp only [rotaF, eq_true h1, eq_true h2, if_true, if_true, if_false, not_true_eq_false, not_false_eq_true, and_true, true_and, and_false, false_and, or_true, true_or, or_false, false_or, Int32.add_zero]; rfl) | rfl) (by first | (simp only [rotaF, eq_true h1, eq_true h2, if_true, if_true, if_false, not_true_eq_false, not_false_eq_true, and_true, true_and, and_false, false_and, or_true, true_or, or_false, false_or, Int32.add_zero]; done) | (simp only [rotaF, eq_true h1, eq_true h2, if_true, if_true, if_false, not_true_eq_false, not_false_eq_true, and_true, true_and, and_false, false_and, or_true, true_or, or_false, false_or, Int32.add_zero]; rfl) | rfl)
      · refine e_0 rfl ?_
        refine e_42 rfl ?_
        exact e_rz rfl rfl (by first | decide | exact b2i_01 | assumption) (by first | (simp only [rotaF, eq_true h1, eq_false h2, if_true, if_true, if_false, not_true_eq_false, not_false_eq_true, and_true, true_and, and_false, false_and, or_true, true_or, or_false, false_or, Int32.add_zero]; done) | (simp only [rotaF, eq_true h1, eq_false h2, if_true, if_true, if_false, not_true_eq_false, not_false_eq_true, and_true, true_and, and_false, false_and, or_true, true_or, or_false, false_or, Int32.add_zero]; rfl) | rfl) (by first | (simp only [rotaF, eq_true h1, eq_false h2, if_true, if_true, if_false, not_true_eq_false, not_false_eq_true, and_true, true_and, and_false, false_and, or_true, true_or, or_false, false_or, Int32.add_zero]; done) | (simp only [rotaF, eq_true h1, eq_false h2, if_true, if_true, if_false, not_true_eq_false, not_false_eq_true, and_true, true_and, and_false, false_and, or_true, true_or, or_false, false_or, Int32.add_zero]; rfl) | rfl)
    · refine e_4 rfl rfl ?_
      refine e_2 rfl rfl ?_
      refine e_2 rfl rfl ?_
      refine e_2 rfl rfl ?_
      refine e_2 rfl rfl ?_
      refine e_18 rfl (by exact nI_ne0 hN0 (by omega)) ?_
      rw [pk_rem (by omega) (by omega) (by omega)]
      refine e_s3 rfl rfl rfl (Nat.le_of_ble_eq_true rfl) (mq_actOf hN (Nat.mod_lt i hN0) hx) ?_
      refine e_v1v rfl (by first | exact hm.1 | assumption | rfl) rfl (by decide) rfl (Nat.le_of_ble_eq_true rfl) (mm_turn hm hI _) ?_
      refine e_8 rfl rfl rfl ?_
      refine e_42 rfl ?_
      refine e_lv [0, 1, 2, 3] rfl rfl ?_
      show ps_To _ _ _ _ (6, [(3, .int _), (0, .ref _), (1, .int _), (2, .int _)], [], _)
      rw [nI_1]
      have h := ih (i + 1) (restF g σ (nI (dig N x (i % N)))) (by omega) (shI_rest hI (over_lt (by assumption))) (tl_pass hI (by assumption) (by omega))
      rw [← mod_step hN0] at h
      simp only [rotaF, eq_false h1, if_true, if_true, if_false, not_true_eq_false, not_false_eq_true, and_true, true_and, and_false, false_and, or_true, true_or, or_false, false_or, Int32.add_zero]
      exact h
theorem mt_lands (hm : isMd μ m) (e0 : mdG (ps_i μ) m 0 = σ0) (hs : sameF τ σ0) (hI : shI g σ0) {N x : Nat} (hN : N ≤ 8) (hN0 : 0 < N) (hx : x < 2 ^ 31) : ps_Ev (ps_XX L xs) (d + 6) j_X8_lands [.ref m, .int (nI x), .int (nI N)] (MS μ m 1832 τ) (some (.int (ldF g N σ0 x).1)) (MS μ m 1832 (ldF g N σ0 x).2) := by
  refine ⟨Nat.le_of_ble_eq_true rfl, ?_⟩
  refine e_4 rfl rfl ?_
  refine e_v0v rfl (by first | exact hm.1 | assumption | rfl) rfl (by decide) rfl (Nat.le_of_ble_eq_true rfl) (mt_lay hm e0 hs) ?_
  refine e_0 rfl ?_
  refine e_5 rfl rfl ?_
  have h := mt_lands_loop (L := L) (xs := xs) (d := d) hm hN hN0 hx 40 0 σ0 (by omega) hI (tl_40 hI)
  rw [Nat.zero_mod] at h
  exact h
theorem mt_best_loop (hm : isMd μ m) (e0 : mdG (ps_i μ) m 0 = σ0) (hs : sameF τ σ0) (hI : shI g σ0) {N P k : Nat} (hN : N ≤ 8)  (eP : P = 10 ^ N) (hk : k < 6) : ∀ (n i : Nat), i + n = P → ps_To (ps_XX L xs) (ps_Ev (ps_XX L xs) (d + 5)) j_X8_best (ps_rt j_X8_best (some (.int (if (bestF (kpF g N σ0) P).1 = -9 then (-9, MS μ m 1832 (lastT (kpF g N σ0) τ P)) else ((bestF (kpF g N σ0) P).2, TR (MS μ m 1832 (lastT (kpF g N σ0) τ P)) m k N (bestF (kpF g N σ0) P).1.toNatClampNeg N)).1)) ((if (bestF (kpF g N σ0) P).1 = -9 then (-9, MS μ m 1832 (lastT (kpF g N σ0) τ P)) else ((bestF (kpF g N σ0) P).2, TR (MS μ m 1832 (lastT (kpF g N σ0) τ P)) m k N (bestF (kpF g N σ0) P).1.toNatClampNeg N)).2)) (40, [(5, .int (nI i)), (4, .int ((bestF (kpF g N σ0) i).2)), (3, .int ((bestF (kpF g N σ0) i).1)), (0, .ref (m)), (1, .int (nI N)), (2, .int (nI k))], [], MS μ m 1832 (lastT (kpF g N σ0) τ i)) := by
  intro n
  induction n with
  | zero =>
    intro i hi
    obtain rfl : i = P := by omega
    have hP31 : i < 2 ^ 31 := by rw [eP]; exact pow8 hN
    refine e_2 rfl rfl ?_
    refine e_2 rfl rfl ?_
    refine e_s1 rfl rfl rfl (Nat.le_of_ble_eq_true rfl) (mq_power hN) ?_
    rw [← eP]
    refine e_39 rfl (fun h1 => ?_) (fun h1 => ?_)
    · refine e_2 rfl rfl ?_
      refine e_0 rfl ?_
      refine e_37 rfl (fun h2 => ?_) (fun h2 => ?_)
      · obtain ⟨x, hx, ex⟩ := best_x (kpF g N σ0) _ h2
        rw [ex] at h2 ⊢
        refine e_4 rfl rfl ?_
        refine e_2 rfl rfl ?_
        refine e_2 rfl rfl ?_
        refine e_2 rfl rfl ?_
        refine e_v3v rfl (by first | exact hm.1 | assumption | rfl) rfl (by decide) rfl (Nat.le_of_ble_eq_true rfl) (mq_toRow (μ := MS μ m 1832 _) hm hN (by omega) hk) ?_
        refine e_2 rfl rfl ?_
        exact e_ri rfl rfl (by first | (simp only [eq_true h1, eq_false h2, if_true, if_true, if_false, not_true_eq_false, not_false_eq_true, and_true, true_and, and_false, false_and, or_true, true_or, or_false, false_or, Int32.add_zero]; done) | (rw [if_neg h2]) | rfl) (by first | (simp only [eq_true h1, eq_false h2, if_true, if_true, if_false, not_true_eq_false, not_false_eq_true, and_true, true_and, and_false, false_and, or_true, true_or, or_false, false_or, Int32.add_zero]; done) | (rw [if_neg h2, nI_clamp (by omega)]) | rfl)
      · refine e_0 rfl ?_
        exact e_ri rfl rfl (by first | (simp only [eq_true h1, eq_true h2, if_true, if_true, if_false, not_true_eq_false, not_false_eq_true, and_true, true_and, and_false, false_and, or_true, true_or, or_false, false_or, Int32.add_zero]; done) | (rw [if_neg h2]) | rfl) (by first | (simp only [eq_true h1, eq_true h2, if_true, if_true, if_false, not_true_eq_false, not_false_eq_true, and_true, true_and, and_false, false_and, or_true, true_or, or_false, false_or, Int32.add_zero]; done) | (rw [if_neg h2, nI_clamp (by omega)]) | rfl)
    · exact absurd (nI_le (Nat.le_refl _) (by omega)) h1
  | succ n ih =>
    intro i hi
    have hP31 : P < 2 ^ 31 := by rw [eP]; exact pow8 hN
    refine e_2 rfl rfl ?_
    refine e_2 rfl rfl ?_
    refine e_s1 rfl rfl rfl (Nat.le_of_ble_eq_true rfl) (mq_power hN) ?_
    rw [← eP]
    refine e_39 rfl (fun h1 => ?_) (fun h1 => ?_)
    · exact absurd h1 (nI_ge (by omega) (by omega))
    · refine e_4 rfl rfl ?_
      refine e_2 rfl rfl ?_
      refine e_2 rfl rfl ?_
      refine e_v2 rfl (by first | exact hm.1 | assumption | rfl) rfl (by decide) rfl (Nat.le_of_ble_eq_true rfl) (mt_keeps hm e0 (last_kp hs i) hI hN (by omega)) ?_
      refine e_30 rfl (fun h2 => ?_) (fun h2 => ?_)
      · refine e_0 rfl ?_
        refine e_5 rfl rfl ?_
        refine e_2 rfl rfl ?_
        refine e_30 rfl (fun h3 => ?_) (fun h3 => ?_)
        · refine e_2 rfl rfl ?_
          refine e_5 rfl rfl ?_
          refine e_2 rfl rfl ?_
          refine e_30 rfl (fun h4 => ?_) (fun h4 => ?_)
          · refine e_2 rfl rfl ?_
            refine e_5 rfl rfl ?_
            refine e_8 rfl rfl rfl ?_
            refine e_42 rfl ?_
            refine e_lv [0, 1, 2, 4, 5, 6] rfl rfl ?_
            show ps_To _ _ _ _ (40, [(5, .int _), (4, .int _), (3, .int _), (0, .ref _), (1, .int _), (2, .int _)], [], _)
            have e : bestF (kpF g N σ0) (i + 1) = bestF (kpF g N σ0) i := if_neg (fun z => z.1 h2)
            have h := ih (i + 1) (by omega)
            rw [e] at h
            rw [nI_1]
            exact h
          · exact absurd rfl h4
        · exact absurd rfl h3
      · refine e_2 rfl rfl ?_
        refine e_0 rfl ?_
        refine e_36 rfl (fun h5 => ?_) (fun h5 => ?_)
        · refine e_0 rfl ?_
          refine e_42 rfl ?_
          refine e_5 rfl rfl ?_
          refine e_2 rfl rfl ?_
          refine e_30 rfl (fun h6 => ?_) (fun h6 => ?_)
          · exact absurd h6 (by decide)
          · refine e_2 rfl rfl ?_
            refine e_42 rfl ?_
            refine e_5 rfl rfl ?_
            refine e_2 rfl rfl ?_
            refine e_30 rfl (fun h7 => ?_) (fun h7 => ?_)
            · exact absurd h7 (by decide)
            · refine e_4 rfl rfl ?_
              refine e_gr rfl hm.1 rfl hm.2.2.2.2.2.2.2.2.2.1 ?_
              refine e_0 rfl ?_
              refine m_ald (k := 1) (x := 0) (by exact hm) (by omega) (by first | rfl | (simp only [nI_add, nI_1, Nat.zero_add]; first | done | exact congrArg nI (by omega))) (by omega) (by first | rfl | (rw [mdX_lo (by omega) (by omega)]; omega) | (rw [mdX_hi (by omega)]; omega)) rfl ?_
              refine e_42 rfl ?_
              refine e_5 rfl rfl ?_
              refine e_8 rfl rfl rfl ?_
              refine e_42 rfl ?_
              refine e_lv [0, 1, 2, 4, 5, 6] rfl rfl ?_
              show ps_To _ _ _ _ (40, [(5, .int _), (4, .int _), (3, .int _), (0, .ref _), (1, .int _), (2, .int _)], [], _)
              have e : bestF (kpF g N σ0) (i + 1) = (nI i, (kpF g N σ0 i).2 0) := if_pos ⟨h2, Or.inl h5⟩
              have h := ih (i + 1) (by omega)
              rw [e] at h
              rw [nI_1]
              exact h
        · refine e_4 rfl rfl ?_
          refine e_gr rfl hm.1 rfl hm.2.2.2.2.2.2.2.2.2.1 ?_
          refine e_0 rfl ?_
          refine m_ald (k := 1) (x := 0) (by exact hm) (by omega) (by first | rfl | (simp only [nI_add, nI_1, Nat.zero_add]; first | done | exact congrArg nI (by omega))) (by omega) (by first | rfl | (rw [mdX_lo (by omega) (by omega)]; omega) | (rw [mdX_hi (by omega)]; omega)) rfl ?_
          refine e_2 rfl rfl ?_
          refine e_39 rfl (fun h8 => ?_) (fun h8 => ?_)
          · refine e_0 rfl ?_
            refine e_5 rfl rfl ?_
            refine e_2 rfl rfl ?_
            refine e_30 rfl (fun h9 => ?_) (fun h9 => ?_)
            · refine e_2 rfl rfl ?_
              refine e_5 rfl rfl ?_
              refine e_2 rfl rfl ?_
              refine e_30 rfl (fun h10 => ?_) (fun h10 => ?_)
              · refine e_2 rfl rfl ?_
                refine e_5 rfl rfl ?_
                refine e_8 rfl rfl rfl ?_
                refine e_42 rfl ?_
                refine e_lv [0, 1, 2, 4, 5, 6] rfl rfl ?_
                show ps_To _ _ _ _ (40, [(5, .int _), (4, .int _), (3, .int _), (0, .ref _), (1, .int _), (2, .int _)], [], _)
                have e : bestF (kpF g N σ0) (i + 1) = bestF (kpF g N σ0) i := if_neg (fun z => z.2.elim h5 (fun q => q h8))
                have h := ih (i + 1) (by omega)
                rw [e] at h
                rw [nI_1]
                exact h
              · exact absurd rfl h10
            · exact absurd rfl h9
          · refine e_0 rfl ?_
            refine e_42 rfl ?_
            refine e_5 rfl rfl ?_
            refine e_2 rfl rfl ?_
            refine e_30 rfl (fun h11 => ?_) (fun h11 => ?_)
            · exact absurd h11 (by decide)
            · refine e_2 rfl rfl ?_
              refine e_42 rfl ?_
              refine e_5 rfl rfl ?_
              refine e_2 rfl rfl ?_
              refine e_30 rfl (fun h12 => ?_) (fun h12 => ?_)
              · exact absurd h12 (by decide)
              · refine e_4 rfl rfl ?_
                refine e_gr rfl hm.1 rfl hm.2.2.2.2.2.2.2.2.2.1 ?_
                refine e_0 rfl ?_
                refine m_ald (k := 1) (x := 0) (by exact hm) (by omega) (by first | rfl | (simp only [nI_add, nI_1, Nat.zero_add]; first | done | exact congrArg nI (by omega))) (by omega) (by first | rfl | (rw [mdX_lo (by omega) (by omega)]; omega) | (rw [mdX_hi (by omega)]; omega)) rfl ?_
                refine e_42 rfl ?_
                refine e_5 rfl rfl ?_
                refine e_8 rfl rfl rfl ?_
                refine e_42 rfl ?_
                refine e_lv [0, 1, 2, 4, 5, 6] rfl rfl ?_
                show ps_To _ _ _ _ (40, [(5, .int _), (4, .int _), (3, .int _), (0, .ref _), (1, .int _), (2, .int _)], [], _)
                have e : bestF (kpF g N σ0) (i + 1) = (nI i, (kpF g N σ0 i).2 0) := if_pos ⟨h2, Or.inr h8⟩
                have h := ih (i + 1) (by omega)
                rw [e] at h
                rw [nI_1]
                exact h
theorem mt_watch_loop (hm : isMd μ m) (e0 : mdG (ps_i μ) m 0 = σ0) (hs : sameF τ σ0) (hI : shI g σ0) {N P k : Nat} (hN : N ≤ 8) (hN0 : 0 < N) (eP : P = 10 ^ N) (hk : k < 6) : ∀ (n i : Nat), i + n = P → ps_To (ps_XX L xs) (ps_Ev (ps_XX L xs) (d + 6)) j_X8_watch (ps_rt j_X8_watch (some (.int (if (bestF (ldF g N σ0) P).1 = -9 then (-9, MS μ m 1832 (lastT (ldF g N σ0) τ P)) else ((bestF (ldF g N σ0) P).2, TR (MS μ m 1832 (lastT (ldF g N σ0) τ P)) m k N (bestF (ldF g N σ0) P).1.toNatClampNeg N)).1)) ((if (bestF (ldF g N σ0) P).1 = -9 then (-9, MS μ m 1832 (lastT (ldF g N σ0) τ P)) else ((bestF (ldF g N σ0) P).2, TR (MS μ m 1832 (lastT (ldF g N σ0) τ P)) m k N (bestF (ldF g N σ0) P).1.toNatClampNeg N)).2)) (40, [(5, .int (nI i)), (4, .int ((bestF (ldF g N σ0) i).2)), (3, .int ((bestF (ldF g N σ0) i).1)), (0, .ref (m)), (1, .int (nI N)), (2, .int (nI k))], [], MS μ m 1832 (lastT (ldF g N σ0) τ i)) := by
  intro n
  induction n with
  | zero =>
    intro i hi
    obtain rfl : i = P := by omega
    have hP31 : i < 2 ^ 31 := by rw [eP]; exact pow8 hN
    refine e_2 rfl rfl ?_
    refine e_2 rfl rfl ?_
    refine e_s1 rfl rfl rfl (Nat.le_of_ble_eq_true rfl) (mq_power hN) ?_
    rw [← eP]
    refine e_39 rfl (fun h1 => ?_) (fun h1 => ?_)
    · refine e_2 rfl rfl ?_
      refine e_0 rfl ?_
      refine e_37 rfl (fun h2 => ?_) (fun h2 => ?_)
      · obtain ⟨x, hx, ex⟩ := best_x (ldF g N σ0) _ h2
        rw [ex] at h2 ⊢
        refine e_4 rfl rfl ?_
        refine e_2 rfl rfl ?_
        refine e_2 rfl rfl ?_
        refine e_2 rfl rfl ?_
        refine e_v3v rfl (by first | exact hm.1 | assumption | rfl) rfl (by decide) rfl (Nat.le_of_ble_eq_true rfl) (mq_toRow (μ := MS μ m 1832 _) hm hN (by omega) hk) ?_
        refine e_2 rfl rfl ?_
        exact e_ri rfl rfl (by first | (simp only [eq_true h1, eq_false h2, if_true, if_true, if_false, not_true_eq_false, not_false_eq_true, and_true, true_and, and_false, false_and, or_true, true_or, or_false, false_or, Int32.add_zero]; done) | (rw [if_neg h2]) | rfl) (by first | (simp only [eq_true h1, eq_false h2, if_true, if_true, if_false, not_true_eq_false, not_false_eq_true, and_true, true_and, and_false, false_and, or_true, true_or, or_false, false_or, Int32.add_zero]; done) | (rw [if_neg h2, nI_clamp (by omega)]) | rfl)
      · refine e_0 rfl ?_
        exact e_ri rfl rfl (by first | (simp only [eq_true h1, eq_true h2, if_true, if_true, if_false, not_true_eq_false, not_false_eq_true, and_true, true_and, and_false, false_and, or_true, true_or, or_false, false_or, Int32.add_zero]; done) | (rw [if_neg h2]) | rfl) (by first | (simp only [eq_true h1, eq_true h2, if_true, if_true, if_false, not_true_eq_false, not_false_eq_true, and_true, true_and, and_false, false_and, or_true, true_or, or_false, false_or, Int32.add_zero]; done) | (rw [if_neg h2, nI_clamp (by omega)]) | rfl)
    · exact absurd (nI_le (Nat.le_refl _) (by omega)) h1
  | succ n ih =>
    intro i hi
    have hP31 : P < 2 ^ 31 := by rw [eP]; exact pow8 hN
    refine e_2 rfl rfl ?_
    refine e_2 rfl rfl ?_
    refine e_s1 rfl rfl rfl (Nat.le_of_ble_eq_true rfl) (mq_power hN) ?_
    rw [← eP]
    refine e_39 rfl (fun h1 => ?_) (fun h1 => ?_)
    · exact absurd h1 (nI_ge (by omega) (by omega))
    · refine e_4 rfl rfl ?_
      refine e_2 rfl rfl ?_
      refine e_2 rfl rfl ?_
      refine e_v2 rfl (by first | exact hm.1 | assumption | rfl) rfl (by decide) rfl (Nat.le_of_ble_eq_true rfl) (mt_lands hm e0 (last_ld hs i) hI hN hN0 (by omega)) ?_
      refine e_30 rfl (fun h2 => ?_) (fun h2 => ?_)
      · refine e_0 rfl ?_
        refine e_5 rfl rfl ?_
        refine e_2 rfl rfl ?_
        refine e_30 rfl (fun h3 => ?_) (fun h3 => ?_)
        · refine e_2 rfl rfl ?_
          refine e_5 rfl rfl ?_
          refine e_2 rfl rfl ?_
          refine e_30 rfl (fun h4 => ?_) (fun h4 => ?_)
          · refine e_2 rfl rfl ?_
            refine e_5 rfl rfl ?_
            refine e_8 rfl rfl rfl ?_
            refine e_42 rfl ?_
            refine e_lv [0, 1, 2, 4, 5, 6] rfl rfl ?_
            show ps_To _ _ _ _ (40, [(5, .int _), (4, .int _), (3, .int _), (0, .ref _), (1, .int _), (2, .int _)], [], _)
            have e : bestF (ldF g N σ0) (i + 1) = bestF (ldF g N σ0) i := if_neg (fun z => z.1 h2)
            have h := ih (i + 1) (by omega)
            rw [e] at h
            rw [nI_1]
            exact h
          · exact absurd rfl h4
        · exact absurd rfl h3
      · refine e_2 rfl rfl ?_
        refine e_0 rfl ?_
        refine e_36 rfl (fun h5 => ?_) (fun h5 => ?_)
        · refine e_0 rfl ?_
          refine e_42 rfl ?_
          refine e_5 rfl rfl ?_
          refine e_2 rfl rfl ?_
          refine e_30 rfl (fun h6 => ?_) (fun h6 => ?_)
          · exact absurd h6 (by decide)
          · refine e_2 rfl rfl ?_
            refine e_42 rfl ?_
            refine e_5 rfl rfl ?_
            refine e_2 rfl rfl ?_
            refine e_30 rfl (fun h7 => ?_) (fun h7 => ?_)
            · exact absurd h7 (by decide)
            · refine e_4 rfl rfl ?_
              refine e_gr rfl hm.1 rfl hm.2.2.2.2.2.2.2.2.2.1 ?_
              refine e_0 rfl ?_
              refine m_ald (k := 1) (x := 0) (by exact hm) (by omega) (by first | rfl | (simp only [nI_add, nI_1, Nat.zero_add]; first | done | exact congrArg nI (by omega))) (by omega) (by first | rfl | (rw [mdX_lo (by omega) (by omega)]; omega) | (rw [mdX_hi (by omega)]; omega)) rfl ?_
              refine e_42 rfl ?_
              refine e_5 rfl rfl ?_
              refine e_8 rfl rfl rfl ?_
              refine e_42 rfl ?_
              refine e_lv [0, 1, 2, 4, 5, 6] rfl rfl ?_
              show ps_To _ _ _ _ (40, [(5, .int _), (4, .int _), (3, .int _), (0, .ref _), (1, .int _), (2, .int _)], [], _)
              have e : bestF (ldF g N σ0) (i + 1) = (nI i, (ldF g N σ0 i).2 0) := if_pos ⟨h2, Or.inl h5⟩
              have h := ih (i + 1) (by omega)
              rw [e] at h
              rw [nI_1]
              exact h
        · refine e_4 rfl rfl ?_
          refine e_gr rfl hm.1 rfl hm.2.2.2.2.2.2.2.2.2.1 ?_
          refine e_0 rfl ?_
          refine m_ald (k := 1) (x := 0) (by exact hm) (by omega) (by first | rfl | (simp only [nI_add, nI_1, Nat.zero_add]; first | done | exact congrArg nI (by omega))) (by omega) (by first | rfl | (rw [mdX_lo (by omega) (by omega)]; omega) | (rw [mdX_hi (by omega)]; omega)) rfl ?_
          refine e_2 rfl rfl ?_
          refine e_39 rfl (fun h8 => ?_) (fun h8 => ?_)
          · refine e_0 rfl ?_
            refine e_5 rfl rfl ?_
            refine e_2 rfl rfl ?_
            refine e_30 rfl (fun h9 => ?_) (fun h9 => ?_)
            · refine e_2 rfl rfl ?_
              refine e_5 rfl rfl ?_
              refine e_2 rfl rfl ?_
              refine e_30 rfl (fun h10 => ?_) (fun h10 => ?_)
              · refine e_2 rfl rfl ?_
                refine e_5 rfl rfl ?_
                refine e_8 rfl rfl rfl ?_
                refine e_42 rfl ?_
                refine e_lv [0, 1, 2, 4, 5, 6] rfl rfl ?_
                show ps_To _ _ _ _ (40, [(5, .int _), (4, .int _), (3, .int _), (0, .ref _), (1, .int _), (2, .int _)], [], _)
                have e : bestF (ldF g N σ0) (i + 1) = bestF (ldF g N σ0) i := if_neg (fun z => z.2.elim h5 (fun q => q h8))
                have h := ih (i + 1) (by omega)
                rw [e] at h
                rw [nI_1]
                exact h
              · exact absurd rfl h10
            · exact absurd rfl h9
          · refine e_0 rfl ?_
            refine e_42 rfl ?_
            refine e_5 rfl rfl ?_
            refine e_2 rfl rfl ?_
            refine e_30 rfl (fun h11 => ?_) (fun h11 => ?_)
            · exact absurd h11 (by decide)
            · refine e_2 rfl rfl ?_
              refine e_42 rfl ?_
              refine e_5 rfl rfl ?_
              refine e_2 rfl rfl ?_
              refine e_30 rfl (fun h12 => ?_) (fun h12 => ?_)
              · exact absurd h12 (by decide)
              · refine e_4 rfl rfl ?_
                refine e_gr rfl hm.1 rfl hm.2.2.2.2.2.2.2.2.2.1 ?_
                refine e_0 rfl ?_
                refine m_ald (k := 1) (x := 0) (by exact hm) (by omega) (by first | rfl | (simp only [nI_add, nI_1, Nat.zero_add]; first | done | exact congrArg nI (by omega))) (by omega) (by first | rfl | (rw [mdX_lo (by omega) (by omega)]; omega) | (rw [mdX_hi (by omega)]; omega)) rfl ?_
                refine e_42 rfl ?_
                refine e_5 rfl rfl ?_
                refine e_8 rfl rfl rfl ?_
                refine e_42 rfl ?_
                refine e_lv [0, 1, 2, 4, 5, 6] rfl rfl ?_
                show ps_To _ _ _ _ (40, [(5, .int _), (4, .int _), (3, .int _), (0, .ref _), (1, .int _), (2, .int _)], [], _)
                have e : bestF (ldF g N σ0) (i + 1) = (nI i, (ldF g N σ0 i).2 0) := if_pos ⟨h2, Or.inr h8⟩
                have h := ih (i + 1) (by omega)
                rw [e] at h
                rw [nI_1]
                exact h
theorem mq_best (hm : isMd μ m) (e0 : mdG (ps_i μ) m 0 = σ0) (hs : sameF τ σ0) (hI : shI g σ0) {n : Int32} {N : Nat} (hn : 0 ≤ n ∧ n ≤ 4 → n = nI N ∧ N ≤ 8) {r : Int32} {k : Nat} (hr : rowP r → r = nI k ∧ k < 6) : evI (ps_XX L xs) (d + 7) j_X8_best [.ref m, .int n, .int r] (MS μ m 1832 τ) (if ¬ ((0 ≤ n ∧ n ≤ 4) ∧ rowP r) then (-1, MS μ m 1832 τ) else if σ0 8 = 0 then (-4, MS μ m 1832 τ) else if (bestF (kpF g N σ0) (10 ^ N)).1 = -9 then (-9, MS μ m 1832 (lastT (kpF g N σ0) τ (10 ^ N))) else ((bestF (kpF g N σ0) (10 ^ N)).2, TR (MS μ m 1832 (lastT (kpF g N σ0) τ (10 ^ N))) m k N (bestF (kpF g N σ0) (10 ^ N)).1.toNatClampNeg N)) := by
  refine ⟨Nat.le_of_ble_eq_true rfl, ?_⟩
  refine e_2 rfl rfl ?_
  refine e_25 rfl ?_
  refine e_1 rfl ?_
  refine e_1 rfl ?_
  refine e_s3 rfl rfl rfl (Nat.le_of_ble_eq_true rfl) (sm_in n 0 4 (by decide) (by decide)) ?_
  refine e_30b rfl (fun h1 => ?_) (fun h1 => ?_)
  · refine e_0 rfl ?_
    exact e_ri rfl rfl (by first | (simp only [eq_false h1, if_true, if_true, if_false, not_true_eq_false, not_false_eq_true, and_true, true_and, and_false, false_and, or_true, true_or, or_false, false_or, reduceIte]; done) | (simp only [eq_false h1, if_true, if_true, if_false, not_true_eq_false, not_false_eq_true, and_true, true_and, and_false, false_and, or_true, true_or, or_false, false_or, reduceIte]; rfl) | rfl) (by first | (simp only [eq_false h1, if_true, if_true, if_false, not_true_eq_false, not_false_eq_true, and_true, true_and, and_false, false_and, or_true, true_or, or_false, false_or, reduceIte]; done) | (simp only [eq_false h1, if_true, if_true, if_false, not_true_eq_false, not_false_eq_true, and_true, true_and, and_false, false_and, or_true, true_or, or_false, false_or, reduceIte]; rfl) | rfl)
  · refine e_2 rfl rfl ?_
    refine e_s1 rfl rfl rfl (Nat.le_of_ble_eq_true rfl) (sm_isRow _) ?_
    refine e_31b rfl (fun h2 => ?_) (fun h2 => ?_)
    · obtain ⟨rfl, hN⟩ := hn h1
      obtain ⟨rfl, hk⟩ := hr h2
      refine e_4 rfl rfl ?_
      refine m_gangs (by exact hm) rfl rfl ?_
      rw [hs 8 (by omega) (by omega)]
      refine e_31 rfl (fun h3 => ?_) (fun h3 => ?_)
      · refine e_0 rfl ?_
        refine e_5 rfl rfl ?_
        refine e_0 rfl ?_
        refine e_5 rfl rfl ?_
        refine e_0 rfl ?_
        refine e_5 rfl rfl ?_
        simp only [eq_true h1, eq_true h2, eq_false h3, if_true, if_true, if_false, not_true_eq_false, not_false_eq_true, and_true, true_and, and_false, false_and, or_true, true_or, or_false, false_or, reduceIte]
        exact mt_best_loop (L := L) (xs := xs) (d := d + 1) hm e0 hs hI hN rfl hk (10 ^ N) 0 (by omega)
      · refine e_0 rfl ?_
        exact e_ri rfl rfl (by first | (simp only [eq_true h1, eq_true h2, eq_true h3, if_true, if_true, if_false, not_true_eq_false, not_false_eq_true, and_true, true_and, and_false, false_and, or_true, true_or, or_false, false_or, reduceIte]; done) | (simp only [eq_true h1, eq_true h2, eq_true h3, if_true, if_true, if_false, not_true_eq_false, not_false_eq_true, and_true, true_and, and_false, false_and, or_true, true_or, or_false, false_or, reduceIte]; rfl) | rfl) (by first | (simp only [eq_true h1, eq_true h2, eq_true h3, if_true, if_true, if_false, not_true_eq_false, not_false_eq_true, and_true, true_and, and_false, false_and, or_true, true_or, or_false, false_or, reduceIte]; done) | (simp only [eq_true h1, eq_true h2, eq_true h3, if_true, if_true, if_false, not_true_eq_false, not_false_eq_true, and_true, true_and, and_false, false_and, or_true, true_or, or_false, false_or, reduceIte]; rfl) | rfl)
    · refine e_0 rfl ?_
      exact e_ri rfl rfl (by first | (simp only [eq_true h1, eq_false h2, if_true, if_true, if_false, not_true_eq_false, not_false_eq_true, and_true, true_and, and_false, false_and, or_true, true_or, or_false, false_or, reduceIte]; done) | (simp only [eq_true h1, eq_false h2, if_true, if_true, if_false, not_true_eq_false, not_false_eq_true, and_true, true_and, and_false, false_and, or_true, true_or, or_false, false_or, reduceIte]; rfl) | rfl) (by first | (simp only [eq_true h1, eq_false h2, if_true, if_true, if_false, not_true_eq_false, not_false_eq_true, and_true, true_and, and_false, false_and, or_true, true_or, or_false, false_or, reduceIte]; done) | (simp only [eq_true h1, eq_false h2, if_true, if_true, if_false, not_true_eq_false, not_false_eq_true, and_true, true_and, and_false, false_and, or_true, true_or, or_false, false_or, reduceIte]; rfl) | rfl)
theorem mq_watch (hm : isMd μ m) (e0 : mdG (ps_i μ) m 0 = σ0) (hs : sameF τ σ0) (hI : shI g σ0) {n : Int32} {N : Nat} (hn : 1 ≤ n ∧ n ≤ 3 → n = nI N ∧ N ≤ 8 ∧ 0 < N) {r : Int32} {k : Nat} (hr : rowP r → r = nI k ∧ k < 6) : evI (ps_XX L xs) (d + 8) j_X8_watch [.ref m, .int n, .int r] (MS μ m 1832 τ) (if ¬ ((1 ≤ n ∧ n ≤ 3) ∧ rowP r) then (-1, MS μ m 1832 τ) else if σ0 8 = 0 then (-4, MS μ m 1832 τ) else if (bestF (ldF g N σ0) (10 ^ N)).1 = -9 then (-9, MS μ m 1832 (lastT (ldF g N σ0) τ (10 ^ N))) else ((bestF (ldF g N σ0) (10 ^ N)).2, TR (MS μ m 1832 (lastT (ldF g N σ0) τ (10 ^ N))) m k N (bestF (ldF g N σ0) (10 ^ N)).1.toNatClampNeg N)) := by
  refine ⟨Nat.le_of_ble_eq_true rfl, ?_⟩
  refine e_2 rfl rfl ?_
  refine e_25 rfl ?_
  refine e_1 rfl ?_
  refine e_1 rfl ?_
  refine e_s3 rfl rfl rfl (Nat.le_of_ble_eq_true rfl) (sm_in n 1 3 (by decide) (by decide)) ?_
  refine e_30b rfl (fun h1 => ?_) (fun h1 => ?_)
  · refine e_0 rfl ?_
    exact e_ri rfl rfl (by first | (simp only [eq_false h1, if_true, if_true, if_false, not_true_eq_false, not_false_eq_true, and_true, true_and, and_false, false_and, or_true, true_or, or_false, false_or, reduceIte]; done) | (simp only [eq_false h1, if_true, if_true, if_false, not_true_eq_false, not_false_eq_true, and_true, true_and, and_false, false_and, or_true, true_or, or_false, false_or, reduceIte]; rfl) | rfl) (by first | (simp only [eq_false h1, if_true, if_true, if_false, not_true_eq_false, not_false_eq_true, and_true, true_and, and_false, false_and, or_true, true_or, or_false, false_or, reduceIte]; done) | (simp only [eq_false h1, if_true, if_true, if_false, not_true_eq_false, not_false_eq_true, and_true, true_and, and_false, false_and, or_true, true_or, or_false, false_or, reduceIte]; rfl) | rfl)
  · refine e_2 rfl rfl ?_
    refine e_s1 rfl rfl rfl (Nat.le_of_ble_eq_true rfl) (sm_isRow _) ?_
    refine e_31b rfl (fun h2 => ?_) (fun h2 => ?_)
    · obtain ⟨rfl, hN, hN0⟩ := hn h1
      obtain ⟨rfl, hk⟩ := hr h2
      refine e_4 rfl rfl ?_
      refine m_gangs (by exact hm) rfl rfl ?_
      rw [hs 8 (by omega) (by omega)]
      refine e_31 rfl (fun h3 => ?_) (fun h3 => ?_)
      · refine e_0 rfl ?_
        refine e_5 rfl rfl ?_
        refine e_0 rfl ?_
        refine e_5 rfl rfl ?_
        refine e_0 rfl ?_
        refine e_5 rfl rfl ?_
        simp only [eq_true h1, eq_true h2, eq_false h3, if_true, if_true, if_false, not_true_eq_false, not_false_eq_true, and_true, true_and, and_false, false_and, or_true, true_or, or_false, false_or, reduceIte]
        exact mt_watch_loop (L := L) (xs := xs) (d := d + 1) hm e0 hs hI hN hN0 rfl hk (10 ^ N) 0 (by omega)
      · refine e_0 rfl ?_
        exact e_ri rfl rfl (by first | (simp only [eq_true h1, eq_true h2, eq_true h3, if_true, if_true, if_false, not_true_eq_false, not_false_eq_true, and_true, true_and, and_false, false_and, or_true, true_or, or_false, false_or, reduceIte]; done) | (simp only [eq_true h1, eq_true h2, eq_true h3, if_true, if_true, if_false, not_true_eq_false, not_false_eq_true, and_true, true_and, and_false, false_and, or_true, true_or, or_false, false_or, reduceIte]; rfl) | rfl) (by first | (simp only [eq_true h1, eq_true h2, eq_true h3, if_true, if_true, if_false, not_true_eq_false, not_false_eq_true, and_true, true_and, and_false, false_and, or_true, true_or, or_false, false_or, reduceIte]; done) | (simp only [eq_true h1, eq_true h2, eq_true h3, if_true, if_true, if_false, not_true_eq_false, not_false_eq_true, and_true, true_and, and_false, false_and, or_true, true_or, or_false, false_or, reduceIte]; rfl) | rfl)
    · refine e_0 rfl ?_
      exact e_ri rfl rfl (by first | (simp only [eq_true h1, eq_false h2, if_true, if_true, if_false, not_true_eq_false, not_false_eq_true, and_true, true_and, and_false, false_and, or_true, true_or, or_false, false_or, reduceIte]; done) | (simp only [eq_true h1, eq_false h2, if_true, if_true, if_false, not_true_eq_false, not_false_eq_true, and_true, true_and, and_false, false_and, or_true, true_or, or_false, false_or, reduceIte]; rfl) | rfl) (by first | (simp only [eq_true h1, eq_false h2, if_true, if_true, if_false, not_true_eq_false, not_false_eq_true, and_true, true_and, and_false, false_and, or_true, true_or, or_false, false_or, reduceIte]; done) | (simp only [eq_true h1, eq_false h2, if_true, if_true, if_false, not_true_eq_false, not_false_eq_true, and_true, true_and, and_false, false_and, or_true, true_or, or_false, false_or, reduceIte]; rfl) | rfl)
theorem mt_afloat_loop (hm : isMd μ m) (e0 : mdG (ps_i μ) m 0 = σ0) (hs : sameF τ σ0) (hI : shI g σ0) {N P : Nat} (hN : N ≤ 8) (eP : P = 10 ^ N) : ∀ (n i : Nat), i + n = P → ps_To (ps_XX L xs) (ps_Ev (ps_XX L xs) (d + 5)) j_X8_afloat (ps_rt j_X8_afloat (some (.int 1)) (MS (ps_sL (ps_sL μ m 10 (cntL (kpF g N σ0) P)) m 11 1) m 1832 (lastT (kpF g N σ0) τ P))) (29, [(4, .int (nI i)), (2, .long (cntL (kpF g N σ0) i)), (0, .ref (m)), (1, .int (nI N))], [], MS μ m 1832 (lastT (kpF g N σ0) τ i)) := by
  intro n
  induction n with
  | zero =>
    intro i hi
    obtain rfl : i = P := by omega
    have hP31 : i < 2 ^ 31 := by rw [eP]; exact pow8 hN
    refine e_2 rfl rfl ?_
    refine e_2 rfl rfl ?_
    refine e_s1 rfl rfl rfl (Nat.le_of_ble_eq_true rfl) (mq_power hN) ?_
    rw [← eP]
    refine e_39 rfl (fun h1 => ?_) (fun h1 => ?_)
    · refine e_4 rfl rfl ?_
      refine e_3 rfl rfl ?_
      refine m_pl (by exact hm) rfl rfl ?_
      refine e_4 rfl rfl ?_
      refine e_1 rfl ?_
      refine m_pl (by exact hm) rfl rfl ?_
      refine e_0 rfl ?_
      exact e_ri rfl rfl (by rfl) (rfl)
    · exact absurd (nI_le (Nat.le_refl _) (by omega)) h1
  | succ n ih =>
    intro i hi
    have hP31 : P < 2 ^ 31 := by rw [eP]; exact pow8 hN
    refine e_2 rfl rfl ?_
    refine e_2 rfl rfl ?_
    refine e_s1 rfl rfl rfl (Nat.le_of_ble_eq_true rfl) (mq_power hN) ?_
    rw [← eP]
    refine e_39 rfl (fun h1 => ?_) (fun h1 => ?_)
    · exact absurd h1 (nI_ge (by omega) (by omega))
    · refine e_3 rfl rfl ?_
      refine e_4 rfl rfl ?_
      refine e_2 rfl rfl ?_
      refine e_2 rfl rfl ?_
      refine e_v2 rfl (by first | exact hm.1 | assumption | rfl) rfl (by decide) rfl (Nat.le_of_ble_eq_true rfl) (mt_keeps hm e0 (last_kp hs i) hI hN (by omega)) ?_
      refine e_30 rfl (fun h2 => ?_) (fun h2 => ?_)
      · refine e_1 rfl ?_
        refine e_19 rfl ?_
        refine e_6 rfl rfl ?_
        refine e_8 rfl rfl rfl ?_
        refine e_42 rfl ?_
        refine e_lv [0, 1, 2, 3] rfl rfl ?_
        show ps_To _ _ _ _ (29, [(4, .int _), (2, .long _), (0, .ref _), (1, .int _)], [], _)
        have e : cntL (kpF g N σ0) (i + 1) = cntL (kpF g N σ0) i + 0 := congrArg (cntL (kpF g N σ0) i + ·) (if_pos h2)
        have h := ih (i + 1) (by omega)
        rw [e] at h
        rw [nI_1]
        exact h
      · refine e_1 rfl ?_
        refine e_42 rfl ?_
        refine e_19 rfl ?_
        refine e_6 rfl rfl ?_
        refine e_8 rfl rfl rfl ?_
        refine e_42 rfl ?_
        refine e_lv [0, 1, 2, 3] rfl rfl ?_
        show ps_To _ _ _ _ (29, [(4, .int _), (2, .long _), (0, .ref _), (1, .int _)], [], _)
        have e : cntL (kpF g N σ0) (i + 1) = cntL (kpF g N σ0) i + 1 := congrArg (cntL (kpF g N σ0) i + ·) (if_neg h2)
        have h := ih (i + 1) (by omega)
        rw [e] at h
        rw [nI_1]
        exact h
theorem mq_afloat (hm : isMd μ m) (e0 : mdG (ps_i μ) m 0 = σ0) (hs : sameF τ σ0) (hI : shI g σ0) {n : Int32} {N : Nat} (hn : 0 ≤ n ∧ n ≤ 4 → n = nI N ∧ N ≤ 8) : evI (ps_XX L xs) (d + 7) j_X8_afloat [.ref m, .int n] (MS μ m 1832 τ) (if ¬ (0 ≤ n ∧ n ≤ 4) then (-1, MS μ m 1832 τ) else if σ0 8 = 0 then (-4, MS μ m 1832 τ) else (1, MS (ps_sL (ps_sL μ m 10 (cntL (kpF g N σ0) (10 ^ N))) m 11 1) m 1832 (lastT (kpF g N σ0) τ (10 ^ N)))) := by
  refine ⟨Nat.le_of_ble_eq_true rfl, ?_⟩
  refine e_2 rfl rfl ?_
  refine e_25 rfl ?_
  refine e_1 rfl ?_
  refine e_1 rfl ?_
  refine e_s3 rfl rfl rfl (Nat.le_of_ble_eq_true rfl) (sm_in n 0 4 (by decide) (by decide)) ?_
  refine e_31b rfl (fun h1 => ?_) (fun h1 => ?_)
  · obtain ⟨rfl, hN⟩ := hn h1
    refine e_4 rfl rfl ?_
    refine m_gangs (by exact hm) rfl rfl ?_
    rw [hs 8 (by omega) (by omega)]
    refine e_31 rfl (fun h2 => ?_) (fun h2 => ?_)
    · refine e_1 rfl ?_
      refine e_6 rfl rfl ?_
      refine e_0 rfl ?_
      refine e_5 rfl rfl ?_
      simp only [eq_true h1, eq_false h2, if_true, if_true, if_false, not_true_eq_false, not_false_eq_true, and_true, true_and, and_false, false_and, or_true, true_or, or_false, false_or, reduceIte]
      exact mt_afloat_loop (L := L) (xs := xs) (d := d + 1) hm e0 hs hI hN rfl (10 ^ N) 0 (by omega)
    · refine e_0 rfl ?_
      exact e_ri rfl rfl (by first | (simp only [eq_true h1, eq_true h2, if_true, if_true, if_false, not_true_eq_false, not_false_eq_true, and_true, true_and, and_false, false_and, or_true, true_or, or_false, false_or, reduceIte]; done) | (simp only [eq_true h1, eq_true h2, if_true, if_true, if_false, not_true_eq_false, not_false_eq_true, and_true, true_and, and_false, false_and, or_true, true_or, or_false, false_or, reduceIte]; rfl) | rfl) (by first | (simp only [eq_true h1, eq_true h2, if_true, if_true, if_false, not_true_eq_false, not_false_eq_true, and_true, true_and, and_false, false_and, or_true, true_or, or_false, false_or, reduceIte]; done) | (simp only [eq_true h1, eq_true h2, if_true, if_true, if_false, not_true_eq_false, not_false_eq_true, and_true, true_and, and_false, false_and, or_true, true_or, or_false, false_or, reduceIte]; rfl) | rfl)
  · refine e_0 rfl ?_
    exact e_ri rfl rfl (by first | (simp only [eq_false h1, if_true, if_true, if_false, not_true_eq_false, not_false_eq_true, and_true, true_and, and_false, false_and, or_true, true_or, or_false, false_or, reduceIte]; done) | (simp only [eq_false h1, if_true, if_true, if_false, not_true_eq_false, not_false_eq_true, and_true, true_and, and_false, false_and, or_true, true_or, or_false, false_or, reduceIte]; rfl) | rfl) (by first | (simp only [eq_false h1, if_true, if_true, if_false, not_true_eq_false, not_false_eq_true, and_true, true_and, and_false, false_and, or_true, true_or, or_false, false_or, reduceIte]; done) | (simp only [eq_false h1, if_true, if_true, if_false, not_true_eq_false, not_false_eq_true, and_true, true_and, and_false, false_and, or_true, true_or, or_false, false_or, reduceIte]; rfl) | rfl)
theorem mt_firsts_loop (hm : isMd μ m) (e0 : mdG (ps_i μ) m 0 = σ0) (hs : sameF τ σ0) (hI : shI g σ0) {N P : Nat} (hN : N ≤ 8) (hN0 : 0 < N) (eP : P = 10 ^ N) : ∀ (n i : Nat), i + n = P → ps_To (ps_XX L xs) (ps_Ev (ps_XX L xs) (d + 5)) j_X8_firsts (ps_rt j_X8_firsts (some (.int (frF (kpF g N σ0) N P))) (MS μ m 1832 (lastT (kpF g N σ0) τ P))) (28, [(3, .int (nI i)), (2, .int (frF (kpF g N σ0) N i)), (0, .ref (m)), (1, .int (nI N))], [], MS μ m 1832 (lastT (kpF g N σ0) τ i)) := by
  intro n
  induction n with
  | zero =>
    intro i hi
    obtain rfl : i = P := by omega
    have hP31 : i < 2 ^ 31 := by rw [eP]; exact pow8 hN
    refine e_2 rfl rfl ?_
    refine e_2 rfl rfl ?_
    refine e_s1 rfl rfl rfl (Nat.le_of_ble_eq_true rfl) (mq_power hN) ?_
    rw [← eP]
    refine e_39 rfl (fun h1 => ?_) (fun h1 => ?_)
    · refine e_2 rfl rfl ?_
      exact e_ri rfl rfl (by rfl) (rfl)
    · exact absurd (nI_le (Nat.le_refl _) (by omega)) h1
  | succ n ih =>
    intro i hi
    have hP31 : P < 2 ^ 31 := by rw [eP]; exact pow8 hN
    refine e_2 rfl rfl ?_
    refine e_2 rfl rfl ?_
    refine e_s1 rfl rfl rfl (Nat.le_of_ble_eq_true rfl) (mq_power hN) ?_
    rw [← eP]
    refine e_39 rfl (fun h1 => ?_) (fun h1 => ?_)
    · exact absurd h1 (nI_ge (by omega) (by omega))
    · refine e_2 rfl rfl ?_
      refine e_4 rfl rfl ?_
      refine e_2 rfl rfl ?_
      refine e_2 rfl rfl ?_
      refine e_v2 rfl (by first | exact hm.1 | assumption | rfl) rfl (by decide) rfl (Nat.le_of_ble_eq_true rfl) (mt_keeps hm e0 (last_kp hs i) hI hN (by omega)) ?_
      refine e_30 rfl (fun h2 => ?_) (fun h2 => ?_)
      · refine e_0 rfl ?_
        refine e_13 rfl ?_
        refine e_5 rfl rfl ?_
        refine e_8 rfl rfl rfl ?_
        refine e_42 rfl ?_
        refine e_lv [0, 1, 2, 3] rfl rfl ?_
        show ps_To _ _ _ _ (28, [(3, .int _), (2, .int _), (0, .ref _), (1, .int _)], [], _)
        have e : frF (kpF g N σ0) N (i + 1) = frF (kpF g N σ0) N i ||| 0 := congrArg (frF (kpF g N σ0) N i ||| ·) (if_pos h2)
        have h := ih (i + 1) (by omega)
        rw [e] at h
        rw [nI_1]
        exact h
      · refine e_0 rfl ?_
        refine e_2 rfl rfl ?_
        refine e_2 rfl rfl ?_
        refine e_0 rfl ?_
        refine e_s3 rfl rfl rfl (Nat.le_of_ble_eq_true rfl) (mq_actOf (K := 0) hN hN0 (by omega)) ?_
        refine e_14 rfl ?_
        refine e_42 rfl ?_
        refine e_13 rfl ?_
        refine e_5 rfl rfl ?_
        refine e_8 rfl rfl rfl ?_
        refine e_42 rfl ?_
        refine e_lv [0, 1, 2, 3] rfl rfl ?_
        show ps_To _ _ _ _ (28, [(3, .int _), (2, .int _), (0, .ref _), (1, .int _)], [], _)
        have e : frF (kpF g N σ0) N (i + 1) = frF (kpF g N σ0) N i ||| (1 : Int32) <<< (nI (dig N i 0) &&& 31) := congrArg (frF (kpF g N σ0) N i ||| ·) (if_neg h2)
        have h := ih (i + 1) (by omega)
        rw [e] at h
        rw [nI_1]
        exact h
theorem mq_firsts (hm : isMd μ m) (e0 : mdG (ps_i μ) m 0 = σ0) (hs : sameF τ σ0) (hI : shI g σ0) {n : Int32} {N : Nat} (hn : 1 ≤ n ∧ n ≤ 4 → n = nI N ∧ N ≤ 8 ∧ 0 < N) : evI (ps_XX L xs) (d + 7) j_X8_firsts [.ref m, .int n] (MS μ m 1832 τ) (if ¬ (1 ≤ n ∧ n ≤ 4) then (-1, MS μ m 1832 τ) else if σ0 8 = 0 then (-4, MS μ m 1832 τ) else (frF (kpF g N σ0) N (10 ^ N), MS μ m 1832 (lastT (kpF g N σ0) τ (10 ^ N)))) := by
  refine ⟨Nat.le_of_ble_eq_true rfl, ?_⟩
  refine e_2 rfl rfl ?_
  refine e_25 rfl ?_
  refine e_1 rfl ?_
  refine e_1 rfl ?_
  refine e_s3 rfl rfl rfl (Nat.le_of_ble_eq_true rfl) (sm_in n 1 4 (by decide) (by decide)) ?_
  refine e_31b rfl (fun h1 => ?_) (fun h1 => ?_)
  · obtain ⟨rfl, hN, hN0⟩ := hn h1
    refine e_4 rfl rfl ?_
    refine m_gangs (by exact hm) rfl rfl ?_
    rw [hs 8 (by omega) (by omega)]
    refine e_31 rfl (fun h2 => ?_) (fun h2 => ?_)
    · refine e_0 rfl ?_
      refine e_5 rfl rfl ?_
      refine e_0 rfl ?_
      refine e_5 rfl rfl ?_
      simp only [eq_true h1, eq_false h2, if_true, if_true, if_false, not_true_eq_false, not_false_eq_true, and_true, true_and, and_false, false_and, or_true, true_or, or_false, false_or, reduceIte]
      exact mt_firsts_loop (L := L) (xs := xs) (d := d + 1) hm e0 hs hI hN hN0 rfl (10 ^ N) 0 (by omega)
    · refine e_0 rfl ?_
      exact e_ri rfl rfl (by first | (simp only [eq_true h1, eq_true h2, if_true, if_true, if_false, not_true_eq_false, not_false_eq_true, and_true, true_and, and_false, false_and, or_true, true_or, or_false, false_or, reduceIte]; done) | (simp only [eq_true h1, eq_true h2, if_true, if_true, if_false, not_true_eq_false, not_false_eq_true, and_true, true_and, and_false, false_and, or_true, true_or, or_false, false_or, reduceIte]; rfl) | rfl) (by first | (simp only [eq_true h1, eq_true h2, if_true, if_true, if_false, not_true_eq_false, not_false_eq_true, and_true, true_and, and_false, false_and, or_true, true_or, or_false, false_or, reduceIte]; done) | (simp only [eq_true h1, eq_true h2, if_true, if_true, if_false, not_true_eq_false, not_false_eq_true, and_true, true_and, and_false, false_and, or_true, true_or, or_false, false_or, reduceIte]; rfl) | rfl)
  · refine e_0 rfl ?_
    exact e_ri rfl rfl (by first | (simp only [eq_false h1, if_true, if_true, if_false, not_true_eq_false, not_false_eq_true, and_true, true_and, and_false, false_and, or_true, true_or, or_false, false_or, reduceIte]; done) | (simp only [eq_false h1, if_true, if_true, if_false, not_true_eq_false, not_false_eq_true, and_true, true_and, and_false, false_and, or_true, true_or, or_false, false_or, reduceIte]; rfl) | rfl) (by first | (simp only [eq_false h1, if_true, if_true, if_false, not_true_eq_false, not_false_eq_true, and_true, true_and, and_false, false_and, or_true, true_or, or_false, false_or, reduceIte]; done) | (simp only [eq_false h1, if_true, if_true, if_false, not_true_eq_false, not_false_eq_true, and_true, true_and, and_false, false_and, or_true, true_or, or_false, false_or, reduceIte]; rfl) | rfl)
end MQ7
