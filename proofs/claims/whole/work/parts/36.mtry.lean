-- ===== what every ship of the game keeps to =====
def shI (g : Nat) (σ : Nat → Int32) : Prop := shOK g σ ∧ (∀ i, i < g → ∃ f, f ≤ 9 ∧ σ (15 + i) = nI f ∧ ∃ s, s ≤ f ∧ σ (21 + i) = nI s) ∧ (σ 7 = 0 ∨ σ 7 = 1) ∧ (∃ c, c ≤ 9 ∧ σ 2 = nI c) ∧ ¬ σ 0 < 0 ∧ (∃ p h, p ≤ h ∧ h ≤ 40 ∧ σ 5 = nI p ∧ σ 4 = nI h)
theorem beh_le : ∀ k, k < 6 → ∀ s, s < 10 → ∃ t, t < 10 ∧ t ≤ s ∧ behF (nI k) (nI s) = nI t := by decide
theorem alw_lg {σ : Nat → Int32} {a : Int32} (h : allowsF σ a) : legalF σ a := by
  rcases h with h | h | ⟨h, -⟩ | ⟨h, -⟩ | ⟨h, -⟩
  · exact Or.inr (Or.inl h)
  · exact Or.inr (Or.inr (Or.inr (Or.inr h)))
  · exact Or.inr (Or.inr (Or.inl h))
  · exact Or.inr (Or.inr (Or.inr (Or.inl h)))
  · exact Or.inl h
theorem alw_rest {σ : Nat → Int32} {a : Int32} : allowsF σ (if allowsF σ a then a else 9) := by
  by_cases h : allowsF σ a
  · rw [if_pos h]; exact h
  · rw [if_neg h]; exact Or.inr (Or.inl rfl)
theorem shI_pass {g : Nat} {σ : Nat → Int32} {a : Int32} (h : shI g σ) (ha : allowsF σ a) (ht : σ 5 < σ 4) : shI g (passF g σ a) := by
  obtain ⟨⟨hg, h8, hst⟩, hf, h7, ⟨c, hc, ec⟩, h0, p, hh, hph, hh40, e5, e4⟩ := h
  have lo : ∀ k, k = 1 ∨ k = 4 ∨ 8 ≤ k → k < 21 → passF g σ a k = σ k := fun k h1 h2 => passF_lo h1 h2
  have lo7 := passF_pt g σ a 7
  have lo2 := passF_pt g σ a 2
  have lo0 := passF_pt g σ a 0
  have lo5 := passF_pt g σ a 5
  rw [if_neg (by decide), if_neg (by decide), if_pos rfl] at lo7
  rw [if_neg (by decide), if_neg (by decide), if_neg (by decide), if_neg (by decide), if_pos rfl] at lo2
  rw [if_neg (by decide), if_pos rfl] at lo0
  rw [if_pos rfl] at lo5
  have tv : ∀ i, i < g → ∃ t, t ≤ 9 ∧ ∃ f, f ≤ 9 ∧ t ≤ f ∧ passF g σ a (21 + i) = nI t ∧ σ (15 + i) = nI f := by
    intro i hi
    obtain ⟨⟨k, hk, ek⟩, -⟩ := hst i hi
    obtain ⟨f, hf9, ef, s, hs, es⟩ := hf i hi
    have e : passF g σ a (21 + i) = tireV σ a i := by
      rw [passF_pt, if_neg (by omega), if_neg (by omega), if_neg (by omega), if_neg (by omega), if_neg (by omega), if_neg (by omega)]
      unfold tiU
      rw [if_pos (by omega), Nat.add_sub_cancel_left]
    rw [e]
    unfold tireV
    rw [ek, es, ef]
    by_cases h1 : nI i = a
    · rw [if_pos h1]
      obtain ⟨t, ht9, hts, et⟩ := beh_le k hk s (by omega)
      exact ⟨t, by omega, f, hf9, by omega, et, rfl⟩
    · rw [if_neg h1]
      by_cases h2 : nI f ≤ nI s
      · rw [if_pos h2]; exact ⟨s, by omega, f, hf9, hs, rfl, rfl⟩
      · rw [if_neg h2]
        have : s < f := by
          rcases Nat.lt_or_ge s f with z | z
          · exact z
          · exact absurd (nI_le z (by omega)) h2
        exact ⟨s + 1, by omega, f, hf9, by omega, nI_1 s, rfl⟩
  refine ⟨⟨hg, (lo 8 (by omega) (by omega)).trans h8, fun i hi => ⟨?_, ?_⟩⟩, fun i hi => ?_, ?_, ?_, ?_, p + 1, hh, ?_, hh40, ?_, ?_⟩
  · obtain ⟨⟨k, hk, ek⟩, -⟩ := hst i hi
    exact ⟨k, hk, (lo (9 + i) (by omega) (by omega)).trans ek⟩
  · obtain ⟨t, ht, f, hf9, htf, et⟩ := tv i hi
    exact ⟨t, by omega, et.1⟩
  · obtain ⟨t, ht, f, hf9, htf, et, ef⟩ := tv i hi
    exact ⟨f, hf9, (lo (15 + i) (by omega) (by omega)).trans ef, t, htf, et⟩
  · rw [lo7]
    split
    · exact Or.inr rfl
    · exact h7
  · rw [lo2]
    split
    · rename_i h
      refine ⟨c - 1, by omega, ?_⟩
      have hc0 : 0 < c := by
        rcases Nat.eq_zero_or_pos c with z | z
        · subst z
          rcases ha with q | q | ⟨q, q2⟩ | ⟨q, -⟩ | ⟨q, -⟩
          · exact absurd (q.symm.trans h.2) (by decide)
          · exact absurd (q.symm.trans h.2) (by decide)
          · rw [ec] at q2; exact absurd q2 (by decide)
          · exact absurd (q.symm.trans h.2) (by decide)
          · exact absurd q h.1
        · exact z
      rw [ec]
      obtain ⟨c', rfl⟩ : ∃ c', c = c' + 1 := ⟨c - 1, by omega⟩
      rw [nI_pred, Nat.add_sub_cancel]
    · exact ⟨c, hc, ec⟩
  · rw [lo0]
    split
    · rename_i h; exact fun z => Int32.lt_irrefl (Int32.lt_trans h z)
    · decide
  · rw [e5, e4] at ht
    have := (nI_ltI (by omega) (by omega)).mp ht
    omega
  · rw [lo5, e5, nI_1]
  · exact (lo 4 (by omega) (by omega)).trans e4
theorem shI_rest {g : Nat} {σ : Nat → Int32} {a : Int32} (h : shI g σ) (ht : σ 5 < σ 4) : shI g (restF g σ a) := shI_pass h alw_rest ht
theorem shI_over {g : Nat} {σ : Nat → Int32} (h : shI g σ) : (sunkF σ ∨ σ 5 = σ 4) ↔ overF σ := by
  obtain ⟨-, -, -, -, -, p, hh, hph, hh40, e5, e4⟩ := h
  unfold overF sunkF
  rw [e5, e4, nI_eq (by omega) (by omega), nI_ltI (by omega) (by omega)]
  have : p = hh ↔ ¬ p < hh := by omega
  rw [this]
theorem gang_has {g : Nat} {σ : Nat → Int32} (h : shOK g σ) (a : Int32) : (0 ≤ a ∧ a ≤ σ 8 - 1) ↔ hasF σ a := by
  obtain ⟨hg, h8, -⟩ := h
  unfold hasF
  rw [h8]
  refine and_congr Int32.not_lt.symm ?_
  have : (nI g - 1).toInt = (g : Int) - 1 := by
    rcases (show g = 0 ∨ g = 1 ∨ g = 2 ∨ g = 3 ∨ g = 4 ∨ g = 5 ∨ g = 6 by omega) with rfl | rfl | rfl | rfl | rfl | rfl | rfl <;> rfl
  rw [Int32.le_iff_toInt_le, Int32.le_iff_toInt_le, this, nI_toInt (by omega)]
  omega
theorem shI_may {g : Nat} {σ : Nat → Int32} (h : shI g σ) (a : Int32) : ((0 ≤ a ∧ a ≤ σ 8 - 1) ∨ (a = 7 ∧ 0 < σ 2) ∨ (a = 8 ∧ σ 7 = 0) ∨ a = 6 ∨ a = 9) ↔ allowsF σ a := by
  have e := gang_has h.1 a
  have n : ∀ x : Nat, 6 ≤ x → x < 2 ^ 31 → ¬ hasF σ (nI x) := fun x h6 hx z => z.2 (by rw [h.1.2.1]; exact nI_le (Nat.le_trans h.1.1 h6) hx)
  rw [e]
  constructor
  · rintro (q | ⟨q, q2⟩ | ⟨q, q2⟩ | q | q)
    · refine Or.inr (Or.inr (Or.inr (Or.inr ⟨q, ?_, ?_, ?_, ?_⟩)))
      · rintro rfl; exact n 6 (by decide) (by decide) q
      · rintro rfl; exact n 7 (by decide) (by decide) q
      · rintro rfl; exact n 8 (by decide) (by decide) q
      · rintro rfl; exact n 9 (by decide) (by decide) q
    · exact Or.inr (Or.inr (Or.inl ⟨q, q2⟩))
    · exact Or.inr (Or.inr (Or.inr (Or.inl ⟨q, q2⟩)))
    · exact Or.inl q
    · exact Or.inr (Or.inl q)
  · rintro (q | q | ⟨q, q2⟩ | ⟨q, q2⟩ | ⟨q, -⟩)
    · exact Or.inr (Or.inr (Or.inr (Or.inl q)))
    · exact Or.inr (Or.inr (Or.inr (Or.inr q)))
    · exact Or.inr (Or.inl ⟨q, q2⟩)
    · exact Or.inr (Or.inr (Or.inl ⟨q, q2⟩))
    · exact Or.inl q
theorem over_lt {σ : Nat → Int32} (h : ¬ overF σ) : σ 5 < σ 4 := Classical.not_not.mp (fun z => h (Or.inr z))
theorem over_ns {σ : Nat → Int32} (h : ¬ overF σ) : ¬ sunkF σ := fun z => h (Or.inl z)
section MTR
variable {L : Nat} {xs : Nat → Int32} {d : Nat} {μ : ps_M} {m B : Nat} {σ : Nat → Int32} {g : Nat}
theorem mm_over (hm : isMd μ m) (hB : B ≤ 1832) (h : shI g σ) : ps_Ev (ps_XX L xs) (d + 2) j_X8_isOver [.ref m, .int (nI B)] (MS μ m B σ) (some (.int (b2i (overF σ)))) (MS μ m B σ) := by
  rw [← b2i_c (shI_over h)]
  exact mm_isOver hm hB
theorem mm_mayF (hm : isMd μ m) (hB : B ≤ 1832) (h : shI g σ) (a : Int32) : ps_Ev (ps_XX L xs) (d + 3) j_X8_may [.ref m, .int (nI B), .int a] (MS μ m B σ) (some (.int (b2i (allowsF σ a)))) (MS μ m B σ) := by
  rw [← b2i_c (shI_may h a)]
  exact mm_may hm hB a
theorem mm_passA (hm : isMd μ m) (hB : B ≤ 1832) (h : shI g σ) {a : Int32} (ha : allowsF σ a) : ps_Ev (ps_XX L xs) (d + 4) j_X8_pass [.ref m, .int (nI B), .int a] (MS μ m B σ) none (MS μ m B (passF g σ a)) := mm_pass hm hB h.1 h.2.2.1 (alw_lg ha)
theorem mm_turn (hm : isMd μ m) (h : shI g σ) (a : Int32) : ps_Ev (ps_XX L xs) (d + 5) j_X8_turn [.ref m, .int a] (MS μ m 1832 σ) none (MS μ m 1832 (restF g σ a)) := by
  refine ⟨Nat.le_of_ble_eq_true rfl, ?_⟩
  refine e_4 rfl rfl ?_
  refine e_0 rfl ?_
  refine e_4 rfl rfl ?_
  refine e_0 rfl ?_
  refine e_2 rfl rfl ?_
  refine e_v2 rfl (by first | exact hm.1 | assumption | rfl) rfl (by decide) rfl (Nat.le_of_ble_eq_true rfl) (mm_mayF hm (B := 1832) (by decide) h a) ?_
  refine e_30b rfl (fun h1 => ?_) (fun h1 => ?_)
  · refine e_0 rfl ?_
    refine e_v2v rfl (by first | exact hm.1 | assumption | rfl) rfl (by decide) rfl (Nat.le_of_ble_eq_true rfl) (mm_passA hm (B := 1832) (by decide) h (by first | exact Or.inr (Or.inl rfl) | assumption)) ?_
    exact e_rv rfl (by unfold restF; first | rw [if_neg h1] | rw [if_pos h1])
  · refine e_2 rfl rfl ?_
    refine e_42 rfl ?_
    refine e_v2v rfl (by first | exact hm.1 | assumption | rfl) rfl (by decide) rfl (Nat.le_of_ble_eq_true rfl) (mm_passA hm (B := 1832) (by decide) h (by first | exact Or.inr (Or.inl rfl) | assumption)) ?_
    exact e_rv rfl (by unfold restF; first | rw [if_neg h1] | rw [if_pos h1])
theorem MS_off {a i : Nat} (h : a < m ∨ m + 2 < a) : ps_i (MS μ m B σ) a i = ps_i μ a i := by
  show mdP (ps_i μ) m B σ a i = _
  unfold mdP
  rw [if_neg (by omega), if_neg (by omega), if_neg (by omega), if_neg (by omega), if_neg (by omega)]
theorem MS_off1 {i : Nat} (h : i < B ∨ B + 18 ≤ i) : ps_i (MS μ m B σ) (m + 1) i = ps_i μ (m + 1) i := by
  show mdP (ps_i μ) m B σ (m + 1) i = _
  unfold mdP
  rw [if_neg (by omega), if_neg (by omega), if_neg (by omega), if_neg (by omega), if_neg (by omega)]
/-- a stretch of the model's row laid elsewhere -/
def cpR (I : Nat → Nat → Int32) (c a b n : Nat) : Nat → Nat → Int32 := fun k i => if k = c ∧ b ≤ i ∧ i < b + n then I c (a + (i - b)) else I k i
theorem cpR_0 {I : Nat → Nat → Int32} {c a b : Nat} : cpR I c a b 0 = I := by
  funext k i
  unfold cpR
  rw [if_neg (by omega)]
theorem cpR_s {I : Nat → Nat → Int32} {c a b n i : Nat} (ho : a + n ≤ b ∨ b + n ≤ a) (hi : i < n) : ps_up (cpR I c a b i) c (b + i) (cpR I c a b i c (a + i)) = cpR I c a b (i + 1) := by
  funext k q
  unfold ps_up cpR
  grind
theorem mm_copyShip_loop (hm : isMd μ m) {a b N : Nat} (ha : a + N ≤ 1850) (hb : b + N ≤ 1850) (ho : a + N ≤ b ∨ b + N ≤ a) : ∀ (n i : Nat), i + n = N → ps_To (ps_XX L xs) (ps_Ev (ps_XX L xs) (d + 0)) j_X8_copyShip (ps_rt j_X8_copyShip none (ps_wI μ (cpR (ps_i μ) (m + 1) a b N))) (3, [(4, .int (nI i)), (0, .ref m), (1, .int (nI a)), (2, .int (nI b)), (3, .int (nI N))], [], ps_wI μ (cpR (ps_i μ) (m + 1) a b i)) := by
  intro n
  induction n with
  | zero =>
    intro i hi
    obtain rfl : i = N := by omega
    refine e_2 rfl rfl ?_
    refine e_2 rfl rfl ?_
    refine e_39 rfl (fun _ => ?_) (fun h1 => absurd (nI_le (Nat.le_refl _) (by omega)) h1)
    exact e_rv rfl (rfl)
  | succ n ih =>
    intro i hi
    refine e_2 rfl rfl ?_
    refine e_2 rfl rfl ?_
    refine e_39 rfl (fun h1 => absurd h1 (nI_ge (by omega) (by omega))) (fun _ => ?_)
    refine e_4 rfl rfl ?_
    refine e_gr rfl (by first | exact hm.1 | exact hm.2.1 | exact hm.2.2.2.2.2.2.2.2.2.1 | rfl) rfl (by first | exact hm.1 | exact hm.2.1 | exact hm.2.2.2.2.2.2.2.2.2.1 | rfl) ?_
    refine e_2 rfl rfl ?_
    refine e_2 rfl rfl ?_
    refine e_9 rfl ?_
    refine e_4 rfl rfl ?_
    refine e_gr rfl (by first | exact hm.1 | exact hm.2.1 | exact hm.2.2.2.2.2.2.2.2.2.1 | rfl) rfl (by first | exact hm.1 | exact hm.2.1 | exact hm.2.2.2.2.2.2.2.2.2.1 | rfl) ?_
    refine e_2 rfl rfl ?_
    refine e_2 rfl rfl ?_
    refine e_9 rfl ?_
    refine e_48 rfl (by first | exact hm.1 | exact hm.2.1 | exact hm.2.2.2.2.2.2.2.2.2.1 | rfl) (by rw [nI_add]; exact vp_in_nI (by omega) (by decide)) ?_
    refine e_49 rfl (by first | exact hm.1 | exact hm.2.1 | exact hm.2.2.2.2.2.2.2.2.2.1 | rfl) (by rw [nI_add]; exact vp_in_nI (by omega) (by decide)) ?_
    refine e_8 rfl rfl rfl ?_
    refine e_42 rfl ?_
    show ps_To _ _ _ _ (3, [(4, .int (nI i + 1)), (0, .ref m), (1, .int (nI a)), (2, .int (nI b)), (3, .int (nI N))], [], _)
    rw [nI_1]
    have h := ih (i + 1) (by omega)
    rw [← cpR_s (n := N) ho (by omega)] at h
    rw [nI_add, nI_add, nI_clamp (by omega), nI_clamp (by omega)]
    exact h
theorem mm_copyShip (hm : isMd μ m) {a b N : Nat} (ha : a + N ≤ 1850) (hb : b + N ≤ 1850) (ho : a + N ≤ b ∨ b + N ≤ a) : ps_Ev (ps_XX L xs) (d + 1) j_X8_copyShip [.ref m, .int (nI a), .int (nI b), .int (nI N)] μ none (ps_wI μ (cpR (ps_i μ) (m + 1) a b N)) := by
  refine ⟨Nat.le_of_ble_eq_true rfl, ?_⟩
  refine e_0 rfl ?_
  refine e_5 rfl rfl ?_
  have h := mm_copyShip_loop (L := L) (xs := xs) (d := d) hm ha hb ho N 0 (by omega)
  rw [cpR_0] at h
  exact h
/-- what hours leave as it is -/
def sameF (σ τ : Nat → Int32) : Prop := ∀ k, k = 1 ∨ k = 4 ∨ 8 ≤ k → k < 15 → σ k = τ k
theorem sameF.pass {σ τ : Nat → Int32} (h : sameF σ τ) {a : Int32} : sameF (passF g σ a) τ := fun k h1 h2 => (passF_lo h1 (by omega)).trans (h k h1 h2)
theorem sameF.rest {σ τ : Nat → Int32} (h : sameF σ τ) {a : Int32} : sameF (restF g σ a) τ := h.pass
theorem sameF.rf {σ : Nat → Int32} : sameF σ σ := fun _ _ _ => rfl
theorem lay_eq {τ : Nat → Int32} (hs : sameF τ (mdG (ps_i μ) m 0)) : ps_wI (MS μ m 1832 τ) (cpR (ps_i (MS μ m 1832 τ)) (m + 1) 0 1832 18) = MS μ m 1832 (mdG (ps_i μ) m 0) := by
  show ps_wI μ (cpR (mdP (ps_i μ) m 1832 τ) (m + 1) 0 1832 18) = ps_wI μ (mdP (ps_i μ) m 1832 (mdG (ps_i μ) m 0))
  congr 1
  funext a i
  have s1 := hs 1 (by omega) (by omega)
  have s4 := hs 4 (by omega) (by omega)
  have s8 := hs 8 (by omega) (by omega)
  have sk : ∀ i, i < 6 → τ (9 + i) = mdG (ps_i μ) m 0 (9 + i) := fun i hi => hs (9 + i) (by omega) (by omega)
  have X := mdG_X (ps_i μ) m 0
  unfold cpR
  by_cases h1 : a = m + 1 ∧ 1832 ≤ i ∧ i < 1832 + 18
  · rw [if_pos h1]
    obtain ⟨rfl, h2, h3⟩ := h1
    unfold mdP
    rw [if_neg (by omega), if_neg (by omega), if_neg (by omega), if_neg (by omega), if_neg (by omega), if_neg (by omega), if_neg (by omega), if_neg (by omega), if_neg (by omega), if_pos (by omega), X _ (by omega)]
  · rw [if_neg h1]
    unfold mdP
    by_cases g1 : a = m ∧ i = 3
    · rw [if_pos g1, if_pos g1, s1]
    rw [if_neg g1, if_neg g1]
    by_cases g2 : a = m ∧ i = 4
    · rw [if_pos g2, if_pos g2, s4]
    rw [if_neg g2, if_neg g2]
    by_cases g3 : a = m ∧ i = 1
    · rw [if_pos g3, if_pos g3, s8]
    rw [if_neg g3, if_neg g3]
    by_cases g4 : a = m + 2 ∧ i < 6
    · rw [if_pos g4, if_pos g4, sk i g4.2]
    rw [if_neg g4, if_neg g4, if_neg h1, if_neg h1]
theorem mm_layTried (hm : isMd μ m) {τ : Nat → Int32} (hs : sameF τ (mdG (ps_i μ) m 0)) : ps_Ev (ps_XX L xs) (d + 2) j_X8_layTried [.ref m] (MS μ m 1832 τ) none (MS μ m 1832 (mdG (ps_i μ) m 0)) := by
  refine ⟨Nat.le_of_ble_eq_true rfl, ?_⟩
  refine e_4 rfl rfl ?_
  refine e_0 rfl ?_
  refine e_0 rfl ?_
  refine e_0 rfl ?_
  refine e_v3v rfl (by first | exact hm.1 | assumption | rfl) rfl (by decide) rfl (Nat.le_of_ble_eq_true rfl) (mm_copyShip (μ := MS μ m 1832 τ) (a := 0) (b := 1832) (N := 18) hm (by decide) (by decide) (by decide)) ?_
  exact e_rv rfl (lay_eq hs)
end MTR
