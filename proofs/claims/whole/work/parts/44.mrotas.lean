-- ===== rotas, lasting, inches, lightening of the model =====
theorem sI_sI {μ : ps_M} {k i : Nat} {a b : Int32} : ps_sI (ps_sI μ k i a) k i b = ps_sI μ k i b := by
  refine ps_M_ext rfl rfl rfl ?_ rfl rfl
  funext x y
  show ps_up (ps_up (ps_i μ) k i a) k i b x y = ps_up (ps_i μ) k i b x y
  unfold ps_up
  by_cases h : x = k ∧ y = i
  · rw [if_pos h, if_pos h]
  · rw [if_neg h, if_neg h, if_neg h]
theorem sI_at {μ : ps_M} {k i : Nat} {a : Int32} : ps_i (ps_sI μ k i a) k i = a := if_pos ⟨rfl, rfl⟩
theorem sI_off {μ : ps_M} {k i x y : Nat} {a : Int32} (h : ¬ (x = k ∧ y = i)) : ps_i (ps_sI μ k i a) x y = ps_i μ x y := if_neg h
theorem rest_5 {g : Nat} {σ : Nat → Int32} {a : Int32} : restF g σ a 5 = σ 5 + 1 := by
  unfold restF
  rw [passF_pt, if_pos rfl]
theorem again_over {g : Nat} {σ : Nat → Int32} {a : Int32} (h : overF σ) : ∀ n, againF g a n σ = σ
  | 0 => rfl
  | n + 1 => by
    unfold againF
    rw [if_pos h]
theorem again_same {g : Nat} {a : Int32} {σ0 : Nat → Int32} : ∀ n σ, sameF σ σ0 → sameF (againF g a n σ) σ0
  | 0, _, h => h
  | n + 1, σ, h => by
    unfold againF
    split
    · exact h
    · exact again_same n _ h.rest
def litS (σ : Nat → Int32) (i : Nat) : Nat → Int32 := upd (upd σ 2 (σ 2 - nI i)) 3 (σ 3 + nI i)
theorem lit_same {σ : Nat → Int32} {i : Nat} : sameF (litS σ i) σ := fun k h1 h2 => by
  unfold litS
  rw [pk_un (by omega), pk_un (by omega)]
theorem shI_lit {g : Nat} {σ : Nat → Int32} (h : shI g σ) {c i : Nat} (hc : c ≤ 9) (ec : σ 2 = nI c) (hi : i ≤ c) : shI g (litS σ i) := by
  have u : ∀ k, k ≠ 2 → k ≠ 3 → litS σ i k = σ k := fun k h2 h3 => by
    unfold litS
    rw [pk_un h3, pk_un h2]
  obtain ⟨⟨hg, h8, hst⟩, hf, h7, -, h0, p, q, hpq, hq, e5, e4⟩ := h
  refine ⟨⟨hg, (u 8 (by decide) (by decide)).trans h8, fun x hx => ?_⟩, fun x hx => ?_, ?_, ⟨c - i, by omega, ?_⟩, ?_, p, q, hpq, hq, (u 5 (by decide) (by decide)).trans e5, (u 4 (by decide) (by decide)).trans e4⟩
  · rw [u _ (by omega) (by omega), u _ (by omega) (by omega)]; exact hst x hx
  · rw [u _ (by omega) (by omega), u _ (by omega) (by omega)]; exact hf x hx
  · rw [u 7 (by decide) (by decide)]; exact h7
  · show upd (upd σ 2 (σ 2 - nI i)) 3 (σ 3 + nI i) 2 = _
    rw [pk_un (by decide), pk_us, ec, pk_sub hi]
  · rw [u 0 (by decide) (by decide)]; exact h0
def lightF (g : Nat) (a : Int32) (σ : Nat → Int32) : Nat → Nat → (Nat → Int32) → Int32 × (Nat → Int32)
  | 0, _, τ => (-9, τ)
  | n + 1, i, _ => if sunkF (againF g a 40 (litS σ i)) then lightF g a σ n (i + 1) (againF g a 40 (litS σ i)) else (nI i, againF g a 40 (litS σ i))
section MQ8
variable {L : Nat} {xs : Nat → Int32} {d : Nat} {μ : ps_M} {m : Nat} {σ : Nat → Int32} {g : Nat} {τ σ0 : Nat → Int32}
theorem mt_water_loop (hm : isMd μ m) (a : Int32) {N : Nat} (hN : N < 2 ^ 31) : ∀ (n i : Nat) (σ : Nat → Int32), i + n = N → shI g σ → ps_To (ps_XX L xs) (ps_Ev (ps_XX L xs) (d + 5)) j_X8_waterBy (ps_rt j_X8_waterBy (some (.int (againF g a n σ 0))) (MS μ m 1832 (againF g a n σ))) (6, [(3, .int (nI i)), (0, .ref (m)), (1, .int (a)), (2, .int (nI N))], [], MS μ m 1832 σ) := by
  intro n
  induction n with
  | zero =>
    intro i σ hi hI
    obtain rfl : i = N := by omega
    refine e_2 rfl rfl ?_
    refine e_2 rfl rfl ?_
    refine e_39 rfl (fun h1 => ?_) (fun h1 => ?_)
    · refine e_4 rfl rfl ?_
      refine e_gr rfl hm.1 rfl hm.2.2.2.2.2.2.2.2.2.1 ?_
      refine e_0 rfl ?_
      refine m_ald (k := 1) (x := 0) (by exact hm) (by omega) (by first | rfl | (simp only [nI_add, nI_1, Nat.zero_add]; first | done | exact congrArg nI (by omega))) (by omega) (by first | rfl | (rw [mdX_lo (by omega) (by omega)]; omega) | (rw [mdX_hi (by omega)]; omega)) rfl ?_
      exact e_ri rfl rfl (by first | (simp only [againF, eq_true h1, if_true, if_true, if_false, not_true_eq_false, not_false_eq_true, and_true, true_and, and_false, false_and, or_true, true_or, or_false, false_or, Int32.add_zero]; done) | (simp only [againF, eq_true h1, if_true, if_true, if_false, not_true_eq_false, not_false_eq_true, and_true, true_and, and_false, false_and, or_true, true_or, or_false, false_or, Int32.add_zero]; rfl) | rfl) (by first | (simp only [againF, eq_true h1, if_true, if_true, if_false, not_true_eq_false, not_false_eq_true, and_true, true_and, and_false, false_and, or_true, true_or, or_false, false_or, Int32.add_zero]; done) | (simp only [againF, eq_true h1, if_true, if_true, if_false, not_true_eq_false, not_false_eq_true, and_true, true_and, and_false, false_and, or_true, true_or, or_false, false_or, Int32.add_zero]; rfl) | rfl)
    · exact absurd (nI_le (Nat.le_refl _) (by omega)) h1
  | succ n ih =>
    intro i σ hi hI
    refine e_2 rfl rfl ?_
    refine e_2 rfl rfl ?_
    refine e_39 rfl (fun h1 => ?_) (fun h1 => ?_)
    · exact absurd h1 (nI_ge (by omega) (by omega))
    · refine e_4 rfl rfl ?_
      refine e_0 rfl ?_
      refine e_v1 rfl (by first | exact hm.1 | assumption | rfl) rfl (by decide) rfl (Nat.le_of_ble_eq_true rfl) (mm_over (B := 1832) (by exact hm) (by decide) hI) ?_
      refine e_31b rfl (fun h2 => ?_) (fun h2 => ?_)
      · refine e_4 rfl rfl ?_
        refine e_gr rfl hm.1 rfl hm.2.2.2.2.2.2.2.2.2.1 ?_
        refine e_0 rfl ?_
        refine m_ald (k := 1) (x := 0) (by exact hm) (by omega) (by first | rfl | (simp only [nI_add, nI_1, Nat.zero_add]; first | done | exact congrArg nI (by omega))) (by omega) (by first | rfl | (rw [mdX_lo (by omega) (by omega)]; omega) | (rw [mdX_hi (by omega)]; omega)) rfl ?_
        exact e_ri rfl rfl (by first | (simp only [againF, eq_false h1, eq_true h2, if_true, if_true, if_false, not_true_eq_false, not_false_eq_true, and_true, true_and, and_false, false_and, or_true, true_or, or_false, false_or, Int32.add_zero]; done) | (simp only [againF, eq_false h1, eq_true h2, if_true, if_true, if_false, not_true_eq_false, not_false_eq_true, and_true, true_and, and_false, false_and, or_true, true_or, or_false, false_or, Int32.add_zero]; rfl) | rfl) (by first | (simp only [againF, eq_false h1, eq_true h2, if_true, if_true, if_false, not_true_eq_false, not_false_eq_true, and_true, true_and, and_false, false_and, or_true, true_or, or_false, false_or, Int32.add_zero]; done) | (simp only [againF, eq_false h1, eq_true h2, if_true, if_true, if_false, not_true_eq_false, not_false_eq_true, and_true, true_and, and_false, false_and, or_true, true_or, or_false, false_or, Int32.add_zero]; rfl) | rfl)
      · refine e_4 rfl rfl ?_
        refine e_2 rfl rfl ?_
        refine e_v1v rfl (by first | exact hm.1 | assumption | rfl) rfl (by decide) rfl (Nat.le_of_ble_eq_true rfl) (mm_turn (by exact hm) hI _) ?_
        refine e_8 rfl rfl rfl ?_
        refine e_42 rfl ?_
        refine e_lv [0, 1, 2, 3] rfl rfl ?_
        show ps_To _ _ _ _ (6, [(3, .int _), (0, .ref _), (1, .int _), (2, .int _)], [], _)
        rw [nI_1]
        have h := ih (i + 1) (restF g σ a) (by omega) (shI_rest hI (over_lt (by assumption)))
        simp only [againF, eq_false h1, eq_false h2, if_true, if_true, if_false, not_true_eq_false, not_false_eq_true, and_true, true_and, and_false, false_and, or_true, true_or, or_false, false_or, Int32.add_zero]
        exact h
theorem mt_waterBy (hm : isMd μ m) (e0 : mdG (ps_i μ) m 0 = σ0) (hs : sameF τ σ0) (hI : shI g σ0) (a : Int32) {N : Nat} (hN : N < 2 ^ 31) : ps_Ev (ps_XX L xs) (d + 6) j_X8_waterBy [.ref m, .int a, .int (nI N)] (MS μ m 1832 τ) (some (.int (againF g a N σ0 0))) (MS μ m 1832 (againF g a N σ0)) := by
  refine ⟨Nat.le_of_ble_eq_true rfl, ?_⟩
  refine e_4 rfl rfl ?_
  refine e_v0v rfl (by first | exact hm.1 | assumption | rfl) rfl (by decide) rfl (Nat.le_of_ble_eq_true rfl) (mt_lay hm e0 hs) ?_
  refine e_0 rfl ?_
  refine e_5 rfl rfl ?_
  exact mt_water_loop hm a hN N 0 σ0 (by omega) hI
theorem mq_inches (hm : isMd μ m) (e0 : mdG (ps_i μ) m 0 = σ0) (hs : sameF τ σ0) (hI : shI g σ0) (a b : Int32) {n : Int32} {N : Nat} (hn : 0 ≤ n ∧ n ≤ 20 → n = nI N ∧ N ≤ 20) : evI (ps_XX L xs) (d + 8) j_X8_inches [.ref m, .int a, .int b, .int n] (MS μ m 1832 τ) (if ¬ (actP a ∧ actP b ∧ 0 ≤ n ∧ n ≤ 20) then (-1, MS μ m 1832 τ) else if σ0 8 = 0 then (-4, MS μ m 1832 τ) else (1, MS (ps_sI μ m 9 (againF g b N σ0 0 - againF g a N σ0 0)) m 1832 (againF g a N σ0))) := by
  refine ⟨Nat.le_of_ble_eq_true rfl, ?_⟩
  refine e_2 rfl rfl ?_
  refine e_s1 rfl rfl rfl (Nat.le_of_ble_eq_true rfl) (sm_isAct _) ?_
  refine e_30b rfl (fun h1 => ?_) (fun h1 => ?_)
  · refine e_0 rfl ?_
    exact e_ri rfl rfl (by first | (simp only [eq_false h1, if_true, if_true, if_false, not_true_eq_false, not_false_eq_true, and_true, true_and, and_false, false_and, or_true, true_or, or_false, false_or, reduceIte]; done) | (simp only [eq_false h1, if_true, if_true, if_false, not_true_eq_false, not_false_eq_true, and_true, true_and, and_false, false_and, or_true, true_or, or_false, false_or, reduceIte]; rfl) | rfl) (by simp only [eq_false h1, if_true, if_true, if_false, not_true_eq_false, not_false_eq_true, and_true, true_and, and_false, false_and, or_true, true_or, or_false, false_or, reduceIte]; first | done | rfl | exact MS_sIm (by decide) (by decide) (by decide))
  · refine e_2 rfl rfl ?_
    refine e_s1 rfl rfl rfl (Nat.le_of_ble_eq_true rfl) (sm_isAct _) ?_
    refine e_30b rfl (fun h2 => ?_) (fun h2 => ?_)
    · refine e_0 rfl ?_
      exact e_ri rfl rfl (by first | (simp only [eq_true h1, eq_false h2, if_true, if_true, if_false, not_true_eq_false, not_false_eq_true, and_true, true_and, and_false, false_and, or_true, true_or, or_false, false_or, reduceIte]; done) | (simp only [eq_true h1, eq_false h2, if_true, if_true, if_false, not_true_eq_false, not_false_eq_true, and_true, true_and, and_false, false_and, or_true, true_or, or_false, false_or, reduceIte]; rfl) | rfl) (by simp only [eq_true h1, eq_false h2, if_true, if_true, if_false, not_true_eq_false, not_false_eq_true, and_true, true_and, and_false, false_and, or_true, true_or, or_false, false_or, reduceIte]; first | done | rfl | exact MS_sIm (by decide) (by decide) (by decide))
    · refine e_2 rfl rfl ?_
      refine e_25 rfl ?_
      refine e_1 rfl ?_
      refine e_1 rfl ?_
      refine e_s3 rfl rfl rfl (Nat.le_of_ble_eq_true rfl) (sm_in n 0 20 (by decide) (by decide)) ?_
      refine e_31b rfl (fun h3 => ?_) (fun h3 => ?_)
      · obtain ⟨rfl, hN⟩ := hn h3
        refine e_4 rfl rfl ?_
        refine m_gangs (by exact hm) rfl rfl ?_
        rw [hs 8 (by omega) (by omega)]
        refine e_31 rfl (fun h4 => ?_) (fun h4 => ?_)
        · refine e_4 rfl rfl ?_
          refine e_4 rfl rfl ?_
          refine e_2 rfl rfl ?_
          refine e_2 rfl rfl ?_
          refine e_v2 rfl (by first | exact hm.1 | assumption | rfl) rfl (by decide) rfl (Nat.le_of_ble_eq_true rfl) (mt_waterBy hm e0 hs hI b (by omega)) ?_
          refine e_4 rfl rfl ?_
          refine e_2 rfl rfl ?_
          refine e_2 rfl rfl ?_
          refine e_v2 rfl (by first | exact hm.1 | assumption | rfl) rfl (by decide) rfl (Nat.le_of_ble_eq_true rfl) (mt_waterBy hm e0 (again_same N σ0 sameF.rf) hI a (by omega)) ?_
          refine e_10 rfl ?_
          refine e_v1 rfl (by first | exact hm.1 | assumption | rfl) rfl (by decide) rfl (Nat.le_of_ble_eq_true rfl) (evo (mq_told (μ := MS μ m 1832 _) hm _)) ?_
          exact e_ri rfl rfl (by first | (simp only [eq_true h1, eq_true h2, eq_true h3, eq_false h4, if_true, if_true, if_false, not_true_eq_false, not_false_eq_true, and_true, true_and, and_false, false_and, or_true, true_or, or_false, false_or, reduceIte]; done) | (simp only [eq_true h1, eq_true h2, eq_true h3, eq_false h4, if_true, if_true, if_false, not_true_eq_false, not_false_eq_true, and_true, true_and, and_false, false_and, or_true, true_or, or_false, false_or, reduceIte]; rfl) | rfl) (by simp only [eq_true h1, eq_true h2, eq_true h3, eq_false h4, if_true, if_true, if_false, not_true_eq_false, not_false_eq_true, and_true, true_and, and_false, false_and, or_true, true_or, or_false, false_or, reduceIte]; first | done | rfl | exact MS_sIm (by decide) (by decide) (by decide))
        · refine e_0 rfl ?_
          refine e_42 rfl ?_
          exact e_ri rfl rfl (by first | (simp only [eq_true h1, eq_true h2, eq_true h3, eq_true h4, if_true, if_true, if_false, not_true_eq_false, not_false_eq_true, and_true, true_and, and_false, false_and, or_true, true_or, or_false, false_or, reduceIte]; done) | (simp only [eq_true h1, eq_true h2, eq_true h3, eq_true h4, if_true, if_true, if_false, not_true_eq_false, not_false_eq_true, and_true, true_and, and_false, false_and, or_true, true_or, or_false, false_or, reduceIte]; rfl) | rfl) (by simp only [eq_true h1, eq_true h2, eq_true h3, eq_true h4, if_true, if_true, if_false, not_true_eq_false, not_false_eq_true, and_true, true_and, and_false, false_and, or_true, true_or, or_false, false_or, reduceIte]; first | done | rfl | exact MS_sIm (by decide) (by decide) (by decide))
      · refine e_0 rfl ?_
        exact e_ri rfl rfl (by first | (simp only [eq_true h1, eq_true h2, eq_false h3, if_true, if_true, if_false, not_true_eq_false, not_false_eq_true, and_true, true_and, and_false, false_and, or_true, true_or, or_false, false_or, reduceIte]; done) | (simp only [eq_true h1, eq_true h2, eq_false h3, if_true, if_true, if_false, not_true_eq_false, not_false_eq_true, and_true, true_and, and_false, false_and, or_true, true_or, or_false, false_or, reduceIte]; rfl) | rfl) (by simp only [eq_true h1, eq_true h2, eq_false h3, if_true, if_true, if_false, not_true_eq_false, not_false_eq_true, and_true, true_and, and_false, false_and, or_true, true_or, or_false, false_or, reduceIte]; first | done | rfl | exact MS_sIm (by decide) (by decide) (by decide))
theorem mt_lasts_loop (hm : isMd μ m) (a c : Int32) : ∀ (n i : Nat) (σ : Nat → Int32) (y : Int32), i + n = 40 → shI g σ → tlF σ ≤ n → y = (if sunkF σ then σ 5 - c - 1 else σ 5 - c) → ps_To (ps_XX L xs) (ps_Ev (ps_XX L xs) (d + 5)) j_X8_lasts (ps_rt j_X8_lasts (some (.int (if sunkF (againF g a n σ) then (againF g a n σ) 5 - c - 1 else (againF g a n σ) 5 - c))) (MS μ m 1832 (againF g a n σ))) (25, [(2, .int (y)), (0, .ref (m)), (1, .int (a))], [], MS μ m 1832 σ) := by
  intro n
  induction n with
  | zero =>
    intro i σ y hi hI ht hy
    obtain rfl : i = 40 := by omega
    refine e_4 rfl rfl ?_
    refine e_0 rfl ?_
    refine e_v1 rfl (by first | exact hm.1 | assumption | rfl) rfl (by decide) rfl (Nat.le_of_ble_eq_true rfl) (mm_over (B := 1832) (by exact hm) (by decide) hI) ?_
    refine e_31b rfl (fun h1 => ?_) (fun h1 => ?_)
    · refine e_2 rfl rfl ?_
      exact e_ri rfl rfl (by first | exact hy | (simp only [againF, eq_true h1, if_true]; exact hy)) (by first | (simp only [againF, eq_true h1, if_true, if_true, if_false, not_true_eq_false, not_false_eq_true, and_true, true_and, and_false, false_and, or_true, true_or, or_false, false_or, Int32.add_zero]; done) | (simp only [againF, eq_true h1, if_true, if_true, if_false, not_true_eq_false, not_false_eq_true, and_true, true_and, and_false, false_and, or_true, true_or, or_false, false_or, Int32.add_zero]; rfl) | rfl)
    · exact absurd (tl_0 hI (by omega)) h1
  | succ n ih =>
    intro i σ y hi hI ht hy
    refine e_4 rfl rfl ?_
    refine e_0 rfl ?_
    refine e_v1 rfl (by first | exact hm.1 | assumption | rfl) rfl (by decide) rfl (Nat.le_of_ble_eq_true rfl) (mm_over (B := 1832) (by exact hm) (by decide) hI) ?_
    refine e_31b rfl (fun h1 => ?_) (fun h1 => ?_)
    · refine e_2 rfl rfl ?_
      exact e_ri rfl rfl (by first | exact hy | (simp only [againF, eq_true h1, if_true]; exact hy)) (by first | (simp only [againF, eq_true h1, if_true, if_true, if_false, not_true_eq_false, not_false_eq_true, and_true, true_and, and_false, false_and, or_true, true_or, or_false, false_or, Int32.add_zero]; done) | (simp only [againF, eq_true h1, if_true, if_true, if_false, not_true_eq_false, not_false_eq_true, and_true, true_and, and_false, false_and, or_true, true_or, or_false, false_or, Int32.add_zero]; rfl) | rfl)
    · refine e_4 rfl rfl ?_
      refine e_2 rfl rfl ?_
      refine e_v1v rfl (by first | exact hm.1 | assumption | rfl) rfl (by decide) rfl (Nat.le_of_ble_eq_true rfl) (mm_turn (by exact hm) hI _) ?_
      refine e_2 rfl rfl ?_
      refine e_4 rfl rfl ?_
      refine e_0 rfl ?_
      refine e_v1 rfl (by first | exact hm.1 | assumption | rfl) rfl (by decide) rfl (Nat.le_of_ble_eq_true rfl) (mm_isSunk (B := 1832) (by exact hm) (by decide)) ?_
      refine e_30b rfl (fun h2 => ?_) (fun h2 => ?_)
      · refine e_0 rfl ?_
        refine e_9 rfl ?_
        refine e_5 rfl rfl ?_
        refine e_42 rfl ?_
        refine e_lv [0, 1, 2] rfl rfl ?_
        show ps_To _ _ _ _ (25, [(2, .int _), (0, .ref _), (1, .int _)], [], _)
        have h := ih (i + 1) (restF g σ a) (y + 1) (by omega) (shI_rest hI (over_lt h1)) (tl_pass hI h1 (by omega)) (by rw [if_neg h2, rest_5, hy, if_neg (over_ns h1)]; grind)
        simp only [againF, eq_false h1, if_false]
        exact h
      · refine e_0 rfl ?_
        refine e_42 rfl ?_
        refine e_9 rfl ?_
        refine e_5 rfl rfl ?_
        refine e_42 rfl ?_
        refine e_lv [0, 1, 2] rfl rfl ?_
        show ps_To _ _ _ _ (25, [(2, .int _), (0, .ref _), (1, .int _)], [], _)
        have h := ih (i + 1) (restF g σ a) (y + 0) (by omega) (shI_rest hI (over_lt h1)) (tl_pass hI h1 (by omega)) (by rw [if_pos h2, rest_5, hy, if_neg (over_ns h1)]; grind)
        simp only [againF, eq_false h1, if_false]
        exact h
theorem mq_lasts (hm : isMd μ m) (e0 : mdG (ps_i μ) m 0 = σ0) (hs : sameF τ σ0) (hI : shI g σ0) (a : Int32) : evI (ps_XX L xs) (d + 7) j_X8_lasts [.ref m, .int a] (MS μ m 1832 τ) (if ¬ actP a then (-1, MS μ m 1832 τ) else if σ0 8 = 0 then (-4, MS μ m 1832 τ) else (if sunkF σ0 then 0 else if sunkF (againF g a 40 σ0) then (againF g a 40 σ0) 5 - σ0 5 - 1 else (againF g a 40 σ0) 5 - σ0 5, MS μ m 1832 (againF g a 40 σ0))) := by
  refine ⟨Nat.le_of_ble_eq_true rfl, ?_⟩
  refine e_2 rfl rfl ?_
  refine e_s1 rfl rfl rfl (Nat.le_of_ble_eq_true rfl) (sm_isAct _) ?_
  refine e_31b rfl (fun h1 => ?_) (fun h1 => ?_)
  · refine e_4 rfl rfl ?_
    refine m_gangs (by exact hm) rfl rfl ?_
    rw [hs 8 (by omega) (by omega)]
    refine e_31 rfl (fun h2 => ?_) (fun h2 => ?_)
    · refine e_4 rfl rfl ?_
      refine e_v0v rfl (by first | exact hm.1 | assumption | rfl) rfl (by decide) rfl (Nat.le_of_ble_eq_true rfl) (mt_lay hm e0 hs) ?_
      refine e_0 rfl ?_
      refine e_5 rfl rfl ?_
      simp only [eq_true h1, eq_false h2, if_true, if_true, if_false, not_true_eq_false, not_false_eq_true, and_true, true_and, and_false, false_and, or_true, true_or, or_false, false_or, reduceIte]
      by_cases hs0 : sunkF σ0
      · have h := mt_lasts_loop (L := L) (xs := xs) (d := d + 1) hm a (σ0 5 - 1) 40 0 σ0 0 (by omega) hI (tl_40 hI) (by rw [if_pos hs0]; grind)
        rw [again_over (Or.inl hs0)] at h ⊢
        rw [if_pos hs0] at h ⊢
        rw [show σ0 5 - (σ0 5 - 1) - 1 = 0 by grind] at h
        exact h
      · have h := mt_lasts_loop (L := L) (xs := xs) (d := d + 1) hm a (σ0 5) 40 0 σ0 0 (by omega) hI (tl_40 hI) (by rw [if_neg hs0]; grind)
        rw [if_neg hs0]
        exact h
    · refine e_0 rfl ?_
      exact e_ri rfl rfl (by first | (simp only [eq_true h1, eq_true h2, if_true, if_true, if_false, not_true_eq_false, not_false_eq_true, and_true, true_and, and_false, false_and, or_true, true_or, or_false, false_or, reduceIte]; done) | (simp only [eq_true h1, eq_true h2, if_true, if_true, if_false, not_true_eq_false, not_false_eq_true, and_true, true_and, and_false, false_and, or_true, true_or, or_false, false_or, reduceIte]; rfl) | rfl) (by first | (simp only [eq_true h1, eq_true h2, if_true, if_true, if_false, not_true_eq_false, not_false_eq_true, and_true, true_and, and_false, false_and, or_true, true_or, or_false, false_or, reduceIte]; done) | (simp only [eq_true h1, eq_true h2, if_true, if_true, if_false, not_true_eq_false, not_false_eq_true, and_true, true_and, and_false, false_and, or_true, true_or, or_false, false_or, reduceIte]; rfl) | rfl)
  · refine e_0 rfl ?_
    exact e_ri rfl rfl (by first | (simp only [eq_false h1, if_true, if_true, if_false, not_true_eq_false, not_false_eq_true, and_true, true_and, and_false, false_and, or_true, true_or, or_false, false_or, reduceIte]; done) | (simp only [eq_false h1, if_true, if_true, if_false, not_true_eq_false, not_false_eq_true, and_true, true_and, and_false, false_and, or_true, true_or, or_false, false_or, reduceIte]; rfl) | rfl) (by first | (simp only [eq_false h1, if_true, if_true, if_false, not_true_eq_false, not_false_eq_true, and_true, true_and, and_false, false_and, or_true, true_or, or_false, false_or, reduceIte]; done) | (simp only [eq_false h1, if_true, if_true, if_false, not_true_eq_false, not_false_eq_true, and_true, true_and, and_false, false_and, or_true, true_or, or_false, false_or, reduceIte]; rfl) | rfl)
end MQ8
