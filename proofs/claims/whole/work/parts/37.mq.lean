-- ===== steps with numbers as places; what the model's calls answer =====
def evI (X : Nat → Nat × (Nat → Int32)) (d j : Nat) (as : List Value) (μ : ps_M) (o : Int32 × ps_M) : Prop := ps_Ev X d j as μ (some (.int o.1)) o.2
theorem evo {X : Nat → Nat × (Nat → Int32)} {d j : Nat} {as : List Value} {μ μ' : ps_M} {a : Int32} (h : evI X d j as μ (a, μ')) : ps_Ev X d j as μ (some (.int a)) μ' := h
section EQS
variable {X : Nat → Nat × (Nat → Int32)} {Cl : Nat → List Value → ps_M → Option Value → ps_M → Prop} {j : Nat} {K : ps_F → Prop} {pc : Nat} {v : Int32} {w : Int64} {nx b : Nat} {lv : List (Nat × Value)} {st : List Value} {μ : ps_M} {m B : Nat} {σ : Nat → Int32}
theorem e_48q {k n i : Nat} {x : Int32} (h0 : ps_ins j pc = some (48, v, w, nx, b)) (hs : ps_s μ k = (10, n)) (hx : x = nI i) (hi : i < n) (hn : n < 2 ^ 31) (h3 : ps_To X Cl j K (nx, lv, .int (ps_i μ k i) :: st, μ)) : ps_To X Cl j K (pc, lv, .int x :: .ref k :: st, μ) := by
  subst hx
  refine e_48 h0 hs (vp_in_nI hi hn) ?_
  rw [nI_clamp (by omega)]
  exact h3
theorem e_49q {k n i : Nat} {x y : Int32} (h0 : ps_ins j pc = some (49, v, w, nx, b)) (hs : ps_s μ k = (10, n)) (hx : x = nI i) (hi : i < n) (hn : n < 2 ^ 31) (h3 : ps_To X Cl j K (nx, lv, st, ps_sI μ k i y)) : ps_To X Cl j K (pc, lv, .int y :: .int x :: .ref k :: st, μ) := by
  subst hx
  refine e_49 h0 hs (vp_in_nI hi hn) ?_
  rw [nI_clamp (by omega)]
  exact h3
theorem e_50q {k n i : Nat} {x : Int32} (h0 : ps_ins j pc = some (50, v, w, nx, b)) (hs : ps_s μ k = (11, n)) (hx : x = nI i) (hi : i < n) (hn : n < 2 ^ 31) (h3 : ps_To X Cl j K (nx, lv, .int (ps_i μ k i) :: st, μ)) : ps_To X Cl j K (pc, lv, .int x :: .ref k :: st, μ) := by
  subst hx
  refine e_50 h0 hs (vp_in_nI hi hn) ?_
  rw [nI_clamp (by omega)]
  exact h3
theorem e_51q {k n i : Nat} {x y : Int32} (h0 : ps_ins j pc = some (51, v, w, nx, b)) (hs : ps_s μ k = (11, n)) (hx : x = nI i) (hi : i < n) (hn : n < 2 ^ 31) (h3 : ps_To X Cl j K (nx, lv, st, ps_sI μ k i (vp_nar .byte y))) : ps_To X Cl j K (pc, lv, .int y :: .int x :: .ref k :: st, μ) := by
  subst hx
  refine e_51 h0 hs (vp_in_nI hi hn) ?_
  rw [nI_clamp (by omega)]
  exact h3
theorem MS_offm {i : Nat} (h1 : i ≠ 1) (h3 : i ≠ 3) (h4 : i ≠ 4) : ps_i (MS μ m B σ) m i = ps_i μ m i := by
  show mdP (ps_i μ) m B σ m i = _
  unfold mdP
  rw [if_neg (by omega), if_neg (by omega), if_neg (by omega), if_neg (by omega), if_neg (by omega)]
theorem MS_sIm {i : Nat} {x : Int32} (h1 : i ≠ 1) (h3 : i ≠ 3) (h4 : i ≠ 4) : ps_sI (MS μ m B σ) m i x = MS (ps_sI μ m i x) m B σ := by
  show ps_wI μ (ps_up (mdP (ps_i μ) m B σ) m i x) = ps_wI μ (mdP (ps_up (ps_i μ) m i x) m B σ)
  congr 1
  funext a q
  unfold ps_up mdP
  grind
theorem MS_sIo {a i : Nat} {x : Int32} (h : a < m ∨ m + 2 < a) : ps_sI (MS μ m B σ) a i x = MS (ps_sI μ a i x) m B σ := by
  show ps_wI μ (ps_up (mdP (ps_i μ) m B σ) a i x) = ps_wI μ (mdP (ps_up (ps_i μ) a i x) m B σ)
  congr 1
  funext c q
  unfold ps_up mdP
  grind
theorem MS_sI1 {i : Nat} {x : Int32} (h : i < B ∨ B + 18 ≤ i) : ps_sI (MS μ m B σ) (m + 1) i x = MS (ps_sI μ (m + 1) i x) m B σ := by
  show ps_wI μ (ps_up (mdP (ps_i μ) m B σ) (m + 1) i x) = ps_wI μ (mdP (ps_up (ps_i μ) (m + 1) i x) m B σ)
  congr 1
  funext c q
  unfold ps_up mdP
  grind
theorem MS_sI2 {i : Nat} {x : Int32} (h : i < 6) : ps_sI (MS μ m B σ) (m + 2) i x = MS μ m B (upd σ (9 + i) x) := by
  have nb : ∀ a : Nat, a < 18 → mdX a ≠ 1 ∧ mdX a ≠ 4 ∧ mdX a ≠ 8 ∧ ¬ (9 ≤ mdX a ∧ mdX a < 15) := by decide
  show ps_wI μ (ps_up (mdP (ps_i μ) m B σ) (m + 2) i x) = ps_wI μ (mdP (ps_i μ) m B (upd σ (9 + i) x))
  congr 1
  funext c q
  unfold ps_up mdP upd
  by_cases h1 : c = m + 1 ∧ B ≤ q ∧ q < B + 18
  · have := nb (q - B) (by omega)
    grind
  · grind
theorem MS_sIg {x : Int32} : ps_sI (MS μ m B σ) m 1 x = MS μ m B (upd σ 8 x) := by
  have nb : ∀ a : Nat, a < 18 → mdX a ≠ 1 ∧ mdX a ≠ 4 ∧ mdX a ≠ 8 ∧ ¬ (9 ≤ mdX a ∧ mdX a < 15) := by decide
  show ps_wI μ (ps_up (mdP (ps_i μ) m B σ) m 1 x) = ps_wI μ (mdP (ps_i μ) m B (upd σ 8 x))
  congr 1
  funext c q
  unfold ps_up mdP upd
  by_cases h1 : c = m + 1 ∧ B ≤ q ∧ q < B + 18
  · have := nb (q - B) (by omega)
    grind
  · grind
theorem MS_sIl {x : Int32} : ps_sI (MS μ m B σ) m 3 x = MS μ m B (upd σ 1 x) := by
  have nb : ∀ a : Nat, a < 18 → mdX a ≠ 1 ∧ mdX a ≠ 4 ∧ mdX a ≠ 8 ∧ ¬ (9 ≤ mdX a ∧ mdX a < 15) := by decide
  show ps_wI μ (ps_up (mdP (ps_i μ) m B σ) m 3 x) = ps_wI μ (mdP (ps_i μ) m B (upd σ 1 x))
  congr 1
  funext c q
  unfold ps_up mdP upd
  by_cases h1 : c = m + 1 ∧ B ≤ q ∧ q < B + 18
  · have := nb (q - B) (by omega)
    grind
  · grind
theorem m_fi {sl tc : Nat} (hm : isMd μ m) (h0 : ps_ins j pc = some (45, v, w, nx, b)) (h2 : ps_f2 b 7 = some (sl, tc)) (ht : tc = 0 ∨ tc = 3) (h1 : sl ≠ 1) (h34 : sl ≠ 3 ∧ sl ≠ 4) (h3 : ps_To X Cl j K (nx, lv, .int (ps_i μ m sl) :: st, MS μ m B σ)) : ps_To X Cl j K (pc, lv, .ref m :: st, MS μ m B σ) := e_gi h0 hm.1 h2 ht (by rw [MS_offm h1 h34.1 h34.2]; exact h3)
theorem m_pi {sl tc : Nat} {x : Int32} (hm : isMd μ m) (h0 : ps_ins j pc = some (46, v, w, nx, b)) (h2 : ps_f2 b 7 = some (sl, tc)) (ht : tc = 0) (h1 : sl ≠ 1) (h34 : sl ≠ 3 ∧ sl ≠ 4) (h3 : ps_To X Cl j K (nx, lv, st, MS (ps_sI μ m sl x) m B σ)) : ps_To X Cl j K (pc, lv, .int x :: .ref m :: st, MS μ m B σ) := e_pi h0 hm.1 h2 (Or.inl ht) (by rw [MS_sIm h1 h34.1 h34.2]; exact h3)
theorem m_pl {sl : Nat} {x : Int64} (hm : isMd μ m) (h0 : ps_ins j pc = some (46, v, w, nx, b)) (h2 : ps_f2 b 7 = some (sl, 1)) (h3 : ps_To X Cl j K (nx, lv, st, MS (ps_sL μ m sl x) m B σ)) : ps_To X Cl j K (pc, lv, .long x :: .ref m :: st, MS μ m B σ) := e_pl h0 hm.1 h2 h3
theorem m_pgangs {x : Int32} (hm : isMd μ m) (h0 : ps_ins j pc = some (46, v, w, nx, b)) (h2 : ps_f2 b 7 = some (1, 0)) (h3 : ps_To X Cl j K (nx, lv, st, MS μ m B (upd σ 8 x))) : ps_To X Cl j K (pc, lv, .int x :: .ref m :: st, MS μ m B σ) := e_pi h0 hm.1 h2 (Or.inl rfl) (by rw [MS_sIg]; exact h3)
theorem m_pleak {x : Int32} (hm : isMd μ m) (h0 : ps_ins j pc = some (46, v, w, nx, b)) (h2 : ps_f2 b 7 = some (3, 0)) (h3 : ps_To X Cl j K (nx, lv, st, MS μ m B (upd σ 1 x))) : ps_To X Cl j K (pc, lv, .int x :: .ref m :: st, MS μ m B σ) := e_pi h0 hm.1 h2 (Or.inl rfl) (by rw [MS_sIl]; exact h3)
theorem m_r_ld {i : Nat} {x : Int32} (hm : isMd μ m) (hx : x = nI i) (hi : i < 1850) (ho : i < B ∨ B + 18 ≤ i) (h0 : ps_ins j pc = some (48, v, w, nx, b)) (h3 : ps_To X Cl j K (nx, lv, .int (ps_i μ (m + 1) i) :: st, MS μ m B σ)) : ps_To X Cl j K (pc, lv, .int x :: .ref (m + 1) :: st, MS μ m B σ) := e_48q h0 hm.2.1 hx hi (by decide) (by rw [MS_off1 ho]; exact h3)
theorem m_r_st {i : Nat} {x y : Int32} (hm : isMd μ m) (hx : x = nI i) (hi : i < 1850) (ho : i < B ∨ B + 18 ≤ i) (h0 : ps_ins j pc = some (49, v, w, nx, b)) (h3 : ps_To X Cl j K (nx, lv, st, MS (ps_sI μ (m + 1) i y) m B σ)) : ps_To X Cl j K (pc, lv, .int y :: .int x :: .ref (m + 1) :: st, MS μ m B σ) := e_49q h0 hm.2.1 hx hi (by decide) (by rw [MS_sI1 ho]; exact h3)
theorem m_k_ld {i : Nat} {x : Int32} (hm : isMd μ m) (hx : x = nI i) (hi : i < 6) (h0 : ps_ins j pc = some (48, v, w, nx, b)) (h3 : ps_To X Cl j K (nx, lv, .int (σ (9 + i)) :: st, MS μ m B σ)) : ps_To X Cl j K (pc, lv, .int x :: .ref (m + 2) :: st, MS μ m B σ) := e_48q h0 hm.2.2.1 hx hi (by decide) (by rw [MS_kind hi]; exact h3)
theorem m_k_st {i : Nat} {x y : Int32} (hm : isMd μ m) (hx : x = nI i) (hi : i < 6) (h0 : ps_ins j pc = some (49, v, w, nx, b)) (h3 : ps_To X Cl j K (nx, lv, st, MS μ m B (upd σ (9 + i) y))) : ps_To X Cl j K (pc, lv, .int y :: .int x :: .ref (m + 2) :: st, MS μ m B σ) := e_49q h0 hm.2.2.1 hx hi (by decide) (by rw [MS_sI2 hi]; exact h3)
theorem m_a_ld {i c n : Nat} {x : Int32} (hx : x = nI i) (hi : i < n) (hn : n < 2 ^ 31) (h0 : ps_ins j pc = some (48, v, w, nx, b)) (hs : ps_s μ (m + c) = (10, n)) (hc : 2 < c) (h3 : ps_To X Cl j K (nx, lv, .int (ps_i μ (m + c) i) :: st, MS μ m B σ)) : ps_To X Cl j K (pc, lv, .int x :: .ref (m + c) :: st, MS μ m B σ) := e_48q h0 hs hx hi hn (by rw [MS_off (by omega)]; exact h3)
theorem m_a_st {i c n : Nat} {x y : Int32} (hx : x = nI i) (hi : i < n) (hn : n < 2 ^ 31) (h0 : ps_ins j pc = some (49, v, w, nx, b)) (hs : ps_s μ (m + c) = (10, n)) (hc : 2 < c) (h3 : ps_To X Cl j K (nx, lv, st, MS (ps_sI μ (m + c) i y) m B σ)) : ps_To X Cl j K (pc, lv, .int y :: .int x :: .ref (m + c) :: st, MS μ m B σ) := e_49q h0 hs hx hi hn (by rw [MS_sIo (by omega)]; exact h3)
end EQS
/-- a finding told by the model -/
def FM (μ : ps_M) (m f : Nat) : ps_M := ps_sI (ps_sI μ m 12 (nI f)) (m + 7) f (ps_i μ (m + 7) f + 1)
abbrev rowP (r : Int32) : Prop := 0 ≤ r ∧ r ≤ 5
abbrev textP (r : Int32) : Prop := 0 ≤ r ∧ r ≤ 3
abbrev actP (r : Int32) : Prop := 0 ≤ r ∧ r ≤ 9
theorem rng_nat {x : Int32} {lo hi : Nat} (hh : hi < 2 ^ 31) (h : nI lo ≤ x ∧ x ≤ nI hi) (hl : lo < 2 ^ 31) : ∃ k, lo ≤ k ∧ k ≤ hi ∧ x = nI k := by
  have h1 := Int32.le_iff_toInt_le.mp h.1
  have h2 := Int32.le_iff_toInt_le.mp h.2
  rw [nI_toInt hl] at h1
  rw [nI_toInt hh] at h2
  obtain ⟨k, hk, rfl⟩ := nI_of (x := x) (fun z => by
    have := Int32.lt_iff_toInt_lt.mp z
    rw [show (0 : Int32).toInt = 0 from rfl] at this
    omega)
  rw [nI_toInt hk] at h1 h2
  exact ⟨k, by omega, by omega, rfl⟩
section MQ1
variable {L : Nat} {xs : Nat → Int32} {d : Nat} {μ : ps_M} {m : Nat}
theorem mq_find (hm : isMd μ m) {f : Nat} (hf : f < 6) : evI (ps_XX L xs) (d + 1) j_X8_find [.ref m, .int (nI f)] μ (-3, FM μ m f) := by
  refine ⟨Nat.le_of_ble_eq_true rfl, ?_⟩
  refine e_4 rfl rfl ?_
  refine e_2 rfl rfl ?_
  refine e_pi rfl hm.1 rfl (Or.inl rfl) ?_
  refine e_4 rfl rfl ?_
  refine e_gr rfl hm.1 rfl hm.2.2.2.2.2.2.2.2.2.2.2.2.2.2.2.1 ?_
  refine e_2 rfl rfl ?_
  refine e_29 rfl rfl rfl ?_
  refine e_48q (i := f) rfl hm.2.2.2.2.2.2.2.1 (by first | rfl | (simp only [← nI_add, ← pk_mul]; rfl) | (simp only [nI_add, pk_mul, nI_1]; done)) (by omega) (by decide) ?_
  refine e_0 rfl ?_
  refine e_9 rfl ?_
  refine e_49q (i := f) rfl hm.2.2.2.2.2.2.2.1 (by first | rfl | (simp only [← nI_add, ← pk_mul]; rfl) | (simp only [nI_add, pk_mul, nI_1]; done)) (by omega) (by decide) ?_
  refine e_0 rfl ?_
  exact e_ri rfl rfl (by rfl) (by
    show ps_sI (ps_sI μ m 12 (nI f)) (m + 7) f (ps_up (ps_i μ) m 12 (nI f) (m + 7) f + 1) = _
    rw [show ps_up (ps_i μ) m 12 (nI f) (m + 7) f = ps_i μ (m + 7) f from if_neg (by omega)]
    rfl)
theorem mq_told (hm : isMd μ m) (x : Int32) : evI (ps_XX L xs) (d + 1) j_X8_told [.ref m, .int x] μ (1, ps_sI μ m 9 x) := by
  refine ⟨Nat.le_of_ble_eq_true rfl, ?_⟩
  refine e_4 rfl rfl ?_
  refine e_2 rfl rfl ?_
  refine e_pi rfl hm.1 rfl (Or.inl rfl) ?_
  refine e_0 rfl ?_
  exact e_ri rfl rfl (by rfl) (rfl)
end MQ1
