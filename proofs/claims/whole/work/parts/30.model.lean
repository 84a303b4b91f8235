-- ===== the model's ships as 27 numbers: at place B of its row =====
def isMd (μ : ps_M) (m : Nat) : Prop := ps_s μ m = (7, 0) ∧ ps_s μ (m + 1) = (10, 1850) ∧ ps_s μ (m + 2) = (10, 6) ∧ ps_s μ (m + 3) = (10, 6) ∧ ps_s μ (m + 4) = (10, 240) ∧ ps_s μ (m + 5) = (10, 4) ∧ ps_s μ (m + 6) = (10, 240) ∧ ps_s μ (m + 7) = (10, 6) ∧ ps_s μ (m + 8) = (10, 12) ∧ ps_r μ m 0 = some (m + 1) ∧ ps_r μ m 2 = some (m + 2) ∧ ps_r μ m 5 = some (m + 3) ∧ ps_r μ m 6 = some (m + 4) ∧ ps_r μ m 7 = some (m + 5) ∧ ps_r μ m 8 = some (m + 6) ∧ ps_r μ m 13 = some (m + 7) ∧ ps_r μ m 21 = some (m + 8)
/-- which number of a ship a place of its stretch of the row is -/
def mdX (i : Nat) : Nat := if i = 0 then 5 else if i = 1 then 0 else if i = 2 then 2 else if i = 3 then 3 else if i = 4 then 7 else if i = 5 then 6 else if i < 12 then 15 + i else 3 + i
def mdG (I : Nat → Nat → Int32) (m B : Nat) : Nat → Int32 := fun k => if k = 0 then I (m + 1) (B + 1) else if k = 1 then I m 3 else if k = 2 then I (m + 1) (B + 2) else if k = 3 then I (m + 1) (B + 3) else if k = 4 then I m 4 else if k = 5 then I (m + 1) B else if k = 6 then I (m + 1) (B + 5) else if k = 7 then I (m + 1) (B + 4) else if k = 8 then I m 1 else if k < 15 then I (m + 2) (k - 9) else if k < 21 then I (m + 1) (B + (k - 3)) else if k < 27 then I (m + 1) (B + (k - 15)) else 0
def mdP (I : Nat → Nat → Int32) (m B : Nat) (σ : Nat → Int32) : Nat → Nat → Int32 := fun a i => if a = m ∧ i = 3 then σ 1 else if a = m ∧ i = 4 then σ 4 else if a = m ∧ i = 1 then σ 8 else if a = m + 2 ∧ i < 6 then σ (9 + i) else if a = m + 1 ∧ B ≤ i ∧ i < B + 18 then σ (mdX (i - B)) else I a i
def MS (μ : ps_M) (m B : Nat) (σ : Nat → Int32) : ps_M := ps_wI μ (mdP (ps_i μ) m B σ)
theorem MS_leak {μ : ps_M} {m B : Nat} {σ : Nat → Int32} : ps_i (MS μ m B σ) m 3 = σ 1 := if_pos ⟨rfl, rfl⟩
theorem MS_land {μ : ps_M} {m B : Nat} {σ : Nat → Int32} : ps_i (MS μ m B σ) m 4 = σ 4 := by
  show mdP (ps_i μ) m B σ m 4 = _
  unfold mdP
  rw [if_neg (by omega), if_pos ⟨rfl, rfl⟩]
theorem MS_gangs {μ : ps_M} {m B : Nat} {σ : Nat → Int32} : ps_i (MS μ m B σ) m 1 = σ 8 := by
  show mdP (ps_i μ) m B σ m 1 = _
  unfold mdP
  rw [if_neg (by omega), if_neg (by omega), if_pos ⟨rfl, rfl⟩]
theorem MS_kind {μ : ps_M} {m B i : Nat} {σ : Nat → Int32} (h : i < 6) : ps_i (MS μ m B σ) (m + 2) i = σ (9 + i) := by
  show mdP (ps_i μ) m B σ (m + 2) i = _
  unfold mdP
  rw [if_neg (by omega), if_neg (by omega), if_neg (by omega), if_pos ⟨rfl, h⟩]
theorem MS_row {μ : ps_M} {m B i : Nat} {σ : Nat → Int32} (h : i < 18) : ps_i (MS μ m B σ) (m + 1) (B + i) = σ (mdX i) := by
  show mdP (ps_i μ) m B σ (m + 1) (B + i) = _
  unfold mdP
  rw [if_neg (by omega), if_neg (by omega), if_neg (by omega), if_neg (by omega), if_pos (by omega), Nat.add_sub_cancel_left]
theorem MS_prow {μ : ps_M} {m B i : Nat} {σ : Nat → Int32} {v : Int32} (h : i < 18) : ps_sI (MS μ m B σ) (m + 1) (B + i) v = MS μ m B (upd σ (mdX i) v) := by
  show ps_wI μ (ps_up (mdP (ps_i μ) m B σ) (m + 1) (B + i) v) = ps_wI μ (mdP (ps_i μ) m B (upd σ (mdX i) v))
  have inj : ∀ a b : Nat, a < 18 → b < 18 → mdX a = mdX b → a = b := by decide
  have nb : ∀ a : Nat, a < 18 → mdX a ≠ 1 ∧ mdX a ≠ 4 ∧ mdX a ≠ 8 ∧ ¬ (9 ≤ mdX a ∧ mdX a < 15) := by decide
  congr 1
  funext a q
  have hb := nb i h
  unfold ps_up mdP upd
  by_cases h1 : a = m + 1 ∧ B ≤ q ∧ q < B + 18
  · by_cases h2 : q = B + i
    · subst h2
      grind
    · have : mdX (q - B) ≠ mdX i := fun z => h2 (by have := inj _ _ (by omega) h z; omega)
      grind
  · grind
theorem MS_eq {μ : ps_M} {m B : Nat} {σ τ : Nat → Int32} (h : ∀ k, k < 27 → σ k = τ k) : MS μ m B σ = MS μ m B τ := by
  have lt : ∀ a : Nat, a < 18 → mdX a < 27 := by decide
  unfold MS
  congr 1
  funext a i
  unfold mdP
  split
  · exact h _ (by omega)
  · split
    · exact h _ (by omega)
    · split
      · exact h _ (by omega)
      · split
        · exact h _ (by omega)
        · split
          · exact h _ (lt _ (by omega))
          · rfl
theorem MS_self (μ : ps_M) (m B : Nat) : MS μ m B (mdG (ps_i μ) m B) = μ := by
  have e : mdP (ps_i μ) m B (mdG (ps_i μ) m B) = ps_i μ := by
    funext a q
    unfold mdP mdG mdX
    grind
  unfold MS
  rw [e]
  rfl
theorem MS_MS (μ : ps_M) (m B : Nat) (σ τ : Nat → Int32) : MS (MS μ m B σ) m B τ = MS μ m B τ := by
  have e : mdP (mdP (ps_i μ) m B σ) m B τ = mdP (ps_i μ) m B τ := by
    funext a q
    unfold mdP
    grind
  show ps_wI μ (mdP (mdP (ps_i μ) m B σ) m B τ) = ps_wI μ (mdP (ps_i μ) m B τ)
  rw [e]
theorem mdG_MS {μ : ps_M} {m B k : Nat} {σ : Nat → Int32} (h : k < 27) : mdG (ps_i (MS μ m B σ)) m B k = σ k := by
  show mdG (mdP (ps_i μ) m B σ) m B k = σ k
  unfold mdG mdP mdX
  grind
theorem isMd.MS {μ : ps_M} {m c B : Nat} {σ : Nat → Int32} (h : isMd μ m) : isMd (MS μ c B σ) m := h
