-- ===== the model's ships as 27 numbers: at place B of its row =====
def isMd (μ : ps_M) (m : Nat) : Prop := ps_s μ m = (7, 0) ∧ ps_s μ (m + 1) = (10, 1850) ∧ ps_s μ (m + 2) = (10, 6) ∧ ps_s μ (m + 3) = (10, 6) ∧ ps_s μ (m + 4) = (10, 240) ∧ ps_s μ (m + 5) = (10, 4) ∧ ps_s μ (m + 6) = (10, 240) ∧ ps_s μ (m + 7) = (10, 6) ∧ ps_s μ (m + 8) = (10, 12) ∧ ps_r μ m 0 = some (m + 1) ∧ ps_r μ m 2 = some (m + 2) ∧ ps_r μ m 5 = some (m + 3) ∧ ps_r μ m 6 = some (m + 4) ∧ ps_r μ m 7 = some (m + 5) ∧ ps_r μ m 8 = some (m + 6) ∧ ps_r μ m 13 = some (m + 7) ∧ ps_r μ m 21 = some (m + 8)
/-- which number of a ship a place of its stretch of the row is -/
def mdX (i : Nat) : Nat := if i = 0 then 5 else if i = 1 then 0 else if i = 2 then 2 else if i = 3 then 3 else if i = 4 then 7 else if i = 5 then 6 else if i < 12 then 15 + i else 3 + i
def mdG (I : Nat → Nat → Int32) (m B : Nat) : Nat → Int32 := fun k => if k = 0 then I (m + 1) (B + 1) else if k = 1 then I m 3 else if k = 2 then I (m + 1) (B + 2) else if k = 3 then I (m + 1) (B + 3) else if k = 4 then I m 4 else if k = 5 then I (m + 1) B else if k = 6 then I (m + 1) (B + 5) else if k = 7 then I (m + 1) (B + 4) else if k = 8 then I m 1 else if k < 15 then I (m + 2) (k - 9) else if k < 21 then I (m + 1) (B + (k - 3)) else if k < 27 then I (m + 1) (B + (k - 15)) else 0
def mdP (I : Nat → Nat → Int32) (m B : Nat) (σ : Nat → Int32) : Nat → Nat → Int32 := fun a i => if a = m ∧ i = 3 then σ 1 else if a = m ∧ i = 4 then σ 4 else if a = m ∧ i = 1 then σ 8 else if a = m + 2 ∧ i < 6 then σ (9 + i) else if a = m + 1 ∧ B ≤ i ∧ i < B + 18 then σ (mdX (i - B)) else I a i
def MS (μ : ps_M) (m B : Nat) (σ : Nat → Int32) : ps_M := ps_wI μ (mdP (ps_i μ) m B σ)
theorem MS_leak {μ : ps_M} {m B : Nat} {σ : Nat → Int32} : ps_i (MS μ m B σ) m 3 = σ 1 := if_pos ⟨rfl, rfl⟩
theorem MS_land {μ : ps_M} {m B : Nat} {σ : Nat → Int32} : ps_i (MS μ m B σ) m 4 = σ 4 := by
  show mdP (ps_i μ) m B σ m 4 = _
  unfold mdP
  rw [if_neg (by omega), if_pos ⟨rfl, rfl⟩]
theorem MS_gangs {μ : ps_M} {m B : Nat} {σ : Nat → Int32} : ps_i (MS μ m B σ) m 1 = σ 8 := by
  show mdP (ps_i μ) m B σ m 1 = _
  unfold mdP
  rw [if_neg (by omega), if_neg (by omega), if_pos ⟨rfl, rfl⟩]
theorem MS_kind {μ : ps_M} {m B i : Nat} {σ : Nat → Int32} (h : i < 6) : ps_i (MS μ m B σ) (m + 2) i = σ (9 + i) := by
  show mdP (ps_i μ) m B σ (m + 2) i = _
  unfold mdP
  rw [if_neg (by omega), if_neg (by omega), if_neg (by omega), if_pos ⟨rfl, h⟩]
theorem MS_row {μ : ps_M} {m B i : Nat} {σ : Nat → Int32} (h : i < 18) : ps_i (MS μ m B σ) (m + 1) (B + i) = σ (mdX i) := by
  show mdP (ps_i μ) m B σ (m + 1) (B + i) = _
  unfold mdP
  rw [if_neg (by omega), if_neg (by omega), if_neg (by omega), if_neg (by omega), if_pos (by omega), Nat.add_sub_cancel_left]
theorem MS_prow {μ : ps_M} {m B i : Nat} {σ : Nat → Int32} {v : Int32} (h : i < 18) : ps_sI (MS μ m B σ) (m + 1) (B + i) v = MS μ m B (upd σ (mdX i) v) := by
  show ps_wI μ (ps_up (mdP (ps_i μ) m B σ) (m + 1) (B + i) v) = ps_wI μ (mdP (ps_i μ) m B (upd σ (mdX i) v))
  have inj0 : ∀ a, a < 18 → ∀ b, b < 18 → mdX a = mdX b → a = b := by decide
  have inj : ∀ a b : Nat, a < 18 → b < 18 → mdX a = mdX b → a = b := fun a b ha hb => inj0 a ha b hb
  have nb : ∀ a : Nat, a < 18 → mdX a ≠ 1 ∧ mdX a ≠ 4 ∧ mdX a ≠ 8 ∧ ¬ (9 ≤ mdX a ∧ mdX a < 15) := by decide
  congr 1
  funext a q
  have hb := nb i h
  unfold ps_up mdP upd
  by_cases h1 : a = m + 1 ∧ B ≤ q ∧ q < B + 18
  · by_cases h2 : q = B + i
    · subst h2
      grind
    · have : mdX (q - B) ≠ mdX i := fun z => h2 (by have := inj _ _ (by omega) h z; omega)
      grind
  · grind
theorem MS_eq {μ : ps_M} {m B : Nat} {σ τ : Nat → Int32} (h : ∀ k, k < 27 → σ k = τ k) : MS μ m B σ = MS μ m B τ := by
  have lt : ∀ a : Nat, a < 18 → mdX a < 27 := by decide
  unfold MS
  congr 1
  funext a i
  unfold mdP
  split
  · exact h _ (by omega)
  · split
    · exact h _ (by omega)
    · split
      · exact h _ (by omega)
      · split
        · exact h _ (by omega)
        · split
          · exact h _ (lt _ (by omega))
          · rfl
theorem mdX_lo {i : Nat} (h : 6 ≤ i) (h2 : i < 12) : mdX i = 15 + i := by
  unfold mdX
  rw [if_neg (by omega), if_neg (by omega), if_neg (by omega), if_neg (by omega), if_neg (by omega), if_neg (by omega), if_pos h2]
theorem mdX_hi {i : Nat} (h : 12 ≤ i) : mdX i = 3 + i := by
  unfold mdX
  rw [if_neg (by omega), if_neg (by omega), if_neg (by omega), if_neg (by omega), if_neg (by omega), if_neg (by omega), if_neg (by omega)]
theorem mdG_X (I : Nat → Nat → Int32) (m B : Nat) : ∀ i, i < 18 → mdG I m B (mdX i) = I (m + 1) (B + i)
  | 0, _ => rfl
  | 1, _ => rfl
  | 2, _ => rfl
  | 3, _ => rfl
  | 4, _ => rfl
  | 5, _ => rfl
  | 6, _ => rfl
  | 7, _ => rfl
  | 8, _ => rfl
  | 9, _ => rfl
  | 10, _ => rfl
  | 11, _ => rfl
  | 12, _ => rfl
  | 13, _ => rfl
  | 14, _ => rfl
  | 15, _ => rfl
  | 16, _ => rfl
  | 17, _ => rfl
  | n + 18, h => absurd h (by omega)
theorem MS_self (μ : ps_M) (m B : Nat) : MS μ m B (mdG (ps_i μ) m B) = μ := by
  have e : mdP (ps_i μ) m B (mdG (ps_i μ) m B) = ps_i μ := by
    funext a q
    unfold mdP
    split
    · rename_i h; rw [h.1, h.2]; rfl
    · split
      · rename_i h; rw [h.1, h.2]; rfl
      · split
        · rename_i h; rw [h.1, h.2]; rfl
        · split
          · rename_i h
            rw [h.1]
            unfold mdG
            rw [if_neg (by omega), if_neg (by omega), if_neg (by omega), if_neg (by omega), if_neg (by omega), if_neg (by omega), if_neg (by omega), if_neg (by omega), if_neg (by omega), if_pos (by omega), Nat.add_sub_cancel_left]
          · split
            · rename_i h
              rw [mdG_X _ _ _ _ (by omega), h.1, Nat.add_sub_cancel' h.2.1]
            · rfl
  unfold MS
  rw [e]
  rfl
theorem MS_MS (μ : ps_M) (m B : Nat) (σ τ : Nat → Int32) : MS (MS μ m B σ) m B τ = MS μ m B τ := by
  have e : mdP (mdP (ps_i μ) m B σ) m B τ = mdP (ps_i μ) m B τ := by
    funext a q
    unfold mdP
    grind
  show ps_wI μ (mdP (mdP (ps_i μ) m B σ) m B τ) = ps_wI μ (mdP (ps_i μ) m B τ)
  rw [e]
theorem mdG_MS {μ : ps_M} {m B k : Nat} {σ : Nat → Int32} (h : k < 27) : mdG (ps_i (MS μ m B σ)) m B k = σ k := by
  have r : ∀ i, i < 18 → ps_i (MS μ m B σ) (m + 1) (B + i) = σ (mdX i) := fun i hi => MS_row hi
  unfold mdG
  by_cases h0 : k = 0
  · subst h0; rw [if_pos rfl, r 1 (by omega)]; rfl
  rw [if_neg h0]
  by_cases h1 : k = 1
  · subst h1; rw [if_pos rfl, MS_leak]
  rw [if_neg h1]
  by_cases h2 : k = 2
  · subst h2; rw [if_pos rfl, r 2 (by omega)]; rfl
  rw [if_neg h2]
  by_cases h3 : k = 3
  · subst h3; rw [if_pos rfl, r 3 (by omega)]; rfl
  rw [if_neg h3]
  by_cases h4 : k = 4
  · subst h4; rw [if_pos rfl, MS_land]
  rw [if_neg h4]
  by_cases h5 : k = 5
  · subst h5; rw [if_pos rfl]; exact r 0 (by omega)
  rw [if_neg h5]
  by_cases h6 : k = 6
  · subst h6; rw [if_pos rfl, r 5 (by omega)]; rfl
  rw [if_neg h6]
  by_cases h7 : k = 7
  · subst h7; rw [if_pos rfl, r 4 (by omega)]; rfl
  rw [if_neg h7]
  by_cases h8 : k = 8
  · subst h8; rw [if_pos rfl, MS_gangs]
  rw [if_neg h8]
  by_cases h9 : k < 15
  · rw [if_pos h9, MS_kind (by omega)]
    congr 1
    omega
  rw [if_neg h9]
  by_cases h10 : k < 21
  · rw [if_pos h10, r _ (by omega), mdX_hi (by omega)]
    congr 1
    omega
  rw [if_neg h10, if_pos h, r _ (by omega), mdX_lo (by omega) (by omega)]
  congr 1
  omega
theorem isMd.MS {μ : ps_M} {m c B : Nat} {σ : Nat → Int32} (h : isMd μ m) : isMd (MS μ c B σ) m := h
