-- ===== what was sounded, of the model =====
def rowE (σ τ : Nat → Int32) : Prop := ∀ k, k < 27 → (k = 0 ∨ k = 2 ∨ k = 3 ∨ k = 5 ∨ k = 6 ∨ k = 7 ∨ 15 ≤ k) → σ k = τ k
/-- acts that are legal one after the other -/
def legP (g : Nat) (p : Nat → Int32) : Nat → Nat → (Nat → Int32) → Prop
  | 0, _, _ => True
  | n + 1, i, σ => allowsF σ (p i) ∧ σ 5 < σ 4 ∧ legP g p n (i + 2) (passF g σ (p i))
def allF (g : Nat) (p : Nat → Int32) : Nat → Nat → (Nat → Int32) → Int32 × (Nat → Int32)
  | 0, _, σ => (1, σ)
  | n + 1, i, σ => if ¬ (actP (p i) ∧ ¬ σ 4 ≤ σ 5 ∧ allowsF σ (p i)) then (0, σ) else allF g p n (i + 2) (passF g σ (p i))
theorem all_01 {g : Nat} {p : Nat → Int32} : ∀ n i σ, (allF g p n i σ).1 = 0 ∨ (allF g p n i σ).1 = 1
  | 0, _, _ => Or.inr rfl
  | n + 1, i, σ => by
    unfold allF
    split
    · exact Or.inl rfl
    · exact all_01 n _ _
theorem so_01 {g : Nat} {p : Nat → Int32} : ∀ n i σ, (soF g p n i σ).1 = 0 ∨ (soF g p n i σ).1 = 1
  | 0, _, _ => Or.inr rfl
  | n + 1, i, σ => by
    unfold soF
    split
    · exact so_01 n _ _
    · exact Or.inl rfl
theorem all_leg {g : Nat} {p : Nat → Int32} : ∀ n i σ, (allF g p n i σ).1 = 1 → legP g p n i σ
  | 0, _, _, _ => trivial
  | n + 1, i, σ, h => by
    unfold allF at h
    split at h
    · exact absurd (show (0 : Int32) = 1 from h) (by decide)
    · rename_i z
      have z := Classical.not_not.mp z
      exact ⟨z.2.2, Int32.not_le.mp z.2.1, all_leg n _ _ h⟩
def legE (σ τ : Nat → Int32) : Prop := σ 2 = τ 2 ∧ σ 4 = τ 4 ∧ σ 5 = τ 5 ∧ σ 7 = τ 7 ∧ σ 8 = τ 8
theorem legE.alw {σ τ : Nat → Int32} (h : legE σ τ) (a : Int32) : allowsF σ a ↔ allowsF τ a := by
  obtain ⟨h2, h4, h5, h7, h8⟩ := h
  unfold allowsF hasF
  rw [h2, h7, h8]
theorem pF_2 {g : Nat} {σ : Nat → Int32} {a : Int32} : passF g σ a 2 = if ¬ hasF σ a ∧ a = 7 then σ 2 - 1 else σ 2 := (passF_pt g σ a 2).trans rfl
theorem pF_3 {g : Nat} {σ : Nat → Int32} {a : Int32} : passF g σ a 3 = if ¬ hasF σ a ∧ a = 7 then σ 3 + 1 else σ 3 := (passF_pt g σ a 3).trans rfl
theorem pF_7 {g : Nat} {σ : Nat → Int32} {a : Int32} : passF g σ a 7 = if ¬ hasF σ a ∧ a = 8 then 1 else σ 7 := (passF_pt g σ a 7).trans rfl
theorem pF_5 {g : Nat} {σ : Nat → Int32} {a : Int32} : passF g σ a 5 = σ 5 + 1 := (passF_pt g σ a 5).trans rfl
theorem pF_0 {g : Nat} {σ : Nat → Int32} {a : Int32} : passF g σ a 0 = if 0 < σ 0 + leakF σ - pumpedF σ a then σ 0 + leakF σ - pumpedF σ a else 0 := (passF_pt g σ a 0).trans rfl
theorem pF_6 {g : Nat} {σ : Nat → Int32} {a : Int32} : passF g σ a 6 = if hasF σ a then σ 6 + tbF 3 (σ (9 + a.toNatClampNeg)) else if a = 6 then 0 else σ 6 := (passF_pt g σ a 6).trans rfl
theorem legE.pass {g : Nat} {σ τ : Nat → Int32} (h : legE σ τ) (a : Int32) : legE (passF g σ a) (passF g τ a) := by
  obtain ⟨h2, h4, h5, h7, h8⟩ := h
  refine ⟨?_, ?_, ?_, ?_, ?_⟩
  · rw [pF_2, pF_2, h2]; unfold hasF; rw [h8]
  · rw [passF_lo (by omega) (by omega), passF_lo (by omega) (by omega), h4]
  · rw [pF_5, pF_5, h5]
  · rw [pF_7, pF_7, h7]; unfold hasF; rw [h8]
  · rw [passF_8, passF_8, h8]
theorem legE.leg {g : Nat} {p : Nat → Int32} : ∀ n i σ τ, legE σ τ → legP g p n i σ → legP g p n i τ
  | 0, _, _, _, _, _ => trivial
  | n + 1, i, σ, τ, h, hl => ⟨(h.alw _).mp hl.1, by rw [← h.2.1, ← h.2.2.1]; exact hl.2.1, legE.leg n _ _ _ (h.pass _) hl.2.2⟩
theorem so_same {g : Nat} {p : Nat → Int32} {σ0 : Nat → Int32} : ∀ n i σ, sameF σ σ0 → sameF (soF g p n i σ).2 σ0
  | 0, _, _, h => h
  | n + 1, i, σ, h => by
    unfold soF
    split
    · exact so_same n _ _ h.pass
    · exact h.pass
theorem all_same {g : Nat} {p : Nat → Int32} {σ0 : Nat → Int32} : ∀ n i σ, sameF σ σ0 → sameF (allF g p n i σ).2 σ0
  | 0, _, _, h => h
  | n + 1, i, σ, h => by
    unfold allF
    split
    · exact h
    · exact all_same n _ _ h.pass
def sasF (g : Nat) (p : Nat → Int32) (S : Nat) (σ : Nat → Int32) (x : Nat) (kind : Int32) : Int32 × (Nat → Int32) := ((soF g p S 0 (upd σ (9 + x) kind)).1, upd (soF g p S 0 (upd σ (9 + x) kind)).2 (9 + x) (σ (9 + x)))
theorem sameF.up {σ τ : Nat → Int32} (h : sameF σ τ) (k : Nat) (v : Int32) : sameF (upd σ k v) (upd τ k v) := fun j h1 h2 => by
  by_cases z : j = k
  · subst z; rw [pk_us, pk_us]
  · rw [pk_un z, pk_un z]; exact h j h1 h2
theorem sameF.back {σ τ : Nat → Int32} {k : Nat} {v : Int32} (h : sameF σ (upd τ k v)) : sameF (upd σ k (τ k)) τ := fun j h1 h2 => by
  by_cases z : j = k
  · subst z; rw [pk_us]
  · rw [pk_un z, h j h1 h2, pk_un z]
theorem sas_same {g : Nat} {p : Nat → Int32} {S : Nat} {σ : Nat → Int32} {x : Nat} {kind : Int32} : sameF (sasF g p S σ x kind).2 σ := sameF.back (so_same _ _ _ sameF.rf)
theorem shI_kind {g : Nat} {σ : Nat → Int32} (h : shI g σ) {x c : Nat} (hx : x < g) (hc : c < 6) : shI g (upd σ (9 + x) (nI c)) := by
  have hg := h.1.1
  obtain ⟨⟨hg, h8, hst⟩, hf, h7, ⟨c2, hc2, e2⟩, h0, p, q, hpq, hq, e5, e4⟩ := h
  refine ⟨⟨hg, (pk_un (by omega)).trans h8, fun i hi => ⟨?_, ?_⟩⟩, fun i hi => ?_, ?_, ⟨c2, hc2, (pk_un (by omega)).trans e2⟩, ?_, p, q, hpq, hq, (pk_un (by omega)).trans e5, (pk_un (by omega)).trans e4⟩
  · by_cases z : i = x
    · subst z; exact ⟨c, hc, pk_us⟩
    · rw [pk_un (by omega)]; exact (hst i hi).1
  · rw [pk_un (by omega)]; exact (hst i hi).2
  · rw [pk_un (by omega), pk_un (by omega)]; exact hf i hi
  · rw [pk_un (by omega)]; exact h7
  · rw [pk_un (by omega)]; exact h0
theorem shI_leak {g : Nat} {σ : Nat → Int32} (h : shI g σ) (v : Int32) : shI g (upd σ 1 v) := by
  obtain ⟨⟨hg, h8, hst⟩, hf, h7, ⟨c2, hc2, e2⟩, h0, p, q, hpq, hq, e5, e4⟩ := h
  refine ⟨⟨hg, (pk_un (by omega)).trans h8, fun i hi => ?_⟩, fun i hi => ?_, ?_, ⟨c2, hc2, (pk_un (by omega)).trans e2⟩, ?_, p, q, hpq, hq, (pk_un (by omega)).trans e5, (pk_un (by omega)).trans e4⟩
  · rw [pk_un (by omega), pk_un (by omega)]; exact hst i hi
  · rw [pk_un (by omega), pk_un (by omega)]; exact hf i hi
  · rw [pk_un (by omega)]; exact h7
  · rw [pk_un (by omega)]; exact h0
section MQA
variable {L : Nat} {xs : Nat → Int32} {d : Nat} {μ : ps_M} {m : Nat} {σ : Nat → Int32} {g : Nat} {τ σ0 : Nat → Int32}
theorem mdG_G (hs : sameF τ σ) (hr : rowE σ (mdG (ps_i μ) m 0)) : ∀ k, k < 27 → mdG (ps_i (MS μ m 1832 τ)) m 0 k = σ k
  | 0, _ => (MS_off1 (i := 1) (by omega)).trans (hr 0 (by omega) (by omega)).symm
  | 1, _ => MS_leak.trans (hs 1 (by omega) (by omega))
  | 2, _ => (MS_off1 (i := 2) (by omega)).trans (hr 2 (by omega) (by omega)).symm
  | 3, _ => (MS_off1 (i := 3) (by omega)).trans (hr 3 (by omega) (by omega)).symm
  | 4, _ => MS_land.trans (hs 4 (by omega) (by omega))
  | 5, _ => (MS_off1 (i := 0) (by omega)).trans (hr 5 (by omega) (by omega)).symm
  | 6, _ => (MS_off1 (i := 5) (by omega)).trans (hr 6 (by omega) (by omega)).symm
  | 7, _ => (MS_off1 (i := 4) (by omega)).trans (hr 7 (by omega) (by omega)).symm
  | 8, _ => MS_gangs.trans (hs 8 (by omega) (by omega))
  | 9, _ => (MS_kind (i := 0) (by omega)).trans (hs 9 (by omega) (by omega))
  | 10, _ => (MS_kind (i := 1) (by omega)).trans (hs 10 (by omega) (by omega))
  | 11, _ => (MS_kind (i := 2) (by omega)).trans (hs 11 (by omega) (by omega))
  | 12, _ => (MS_kind (i := 3) (by omega)).trans (hs 12 (by omega) (by omega))
  | 13, _ => (MS_kind (i := 4) (by omega)).trans (hs 13 (by omega) (by omega))
  | 14, _ => (MS_kind (i := 5) (by omega)).trans (hs 14 (by omega) (by omega))
  | 15, _ => (MS_off1 (i := 12) (by omega)).trans (hr 15 (by omega) (by omega)).symm
  | 16, _ => (MS_off1 (i := 13) (by omega)).trans (hr 16 (by omega) (by omega)).symm
  | 17, _ => (MS_off1 (i := 14) (by omega)).trans (hr 17 (by omega) (by omega)).symm
  | 18, _ => (MS_off1 (i := 15) (by omega)).trans (hr 18 (by omega) (by omega)).symm
  | 19, _ => (MS_off1 (i := 16) (by omega)).trans (hr 19 (by omega) (by omega)).symm
  | 20, _ => (MS_off1 (i := 17) (by omega)).trans (hr 20 (by omega) (by omega)).symm
  | 21, _ => (MS_off1 (i := 6) (by omega)).trans (hr 21 (by omega) (by omega)).symm
  | 22, _ => (MS_off1 (i := 7) (by omega)).trans (hr 22 (by omega) (by omega)).symm
  | 23, _ => (MS_off1 (i := 8) (by omega)).trans (hr 23 (by omega) (by omega)).symm
  | 24, _ => (MS_off1 (i := 9) (by omega)).trans (hr 24 (by omega) (by omega)).symm
  | 25, _ => (MS_off1 (i := 10) (by omega)).trans (hr 25 (by omega) (by omega)).symm
  | 26, _ => (MS_off1 (i := 11) (by omega)).trans (hr 26 (by omega) (by omega)).symm
  | n + 27, h => absurd h (by omega)
theorem same_self (ν : ps_M) : sameF (mdG (ps_i ν) m 1832) (mdG (ps_i ν) m 0) := fun k h1 h2 => by
  rcases (show k = 1 ∨ k = 4 ∨ k = 8 ∨ k = 9 ∨ k = 10 ∨ k = 11 ∨ k = 12 ∨ k = 13 ∨ k = 14 by omega) with rfl | rfl | rfl | rfl | rfl | rfl | rfl | rfl | rfl <;> rfl
theorem mt_layG (hm : isMd μ m) (hs : sameF τ σ) (hr : rowE σ (mdG (ps_i μ) m 0)) : ps_Ev (ps_XX L xs) (d + 2) j_X8_layTried [.ref m] (MS μ m 1832 τ) none (MS μ m 1832 σ) := by
  have h := mm_layTried (L := L) (xs := xs) (d := d) (μ := MS μ m 1832 τ) (m := m) hm (same_self _)
  rw [MS_self, MS_MS, MS_eq (mdG_G hs hr)] at h
  exact h
theorem rowE_of (e0 : mdG (ps_i μ) m 0 = σ0) : rowE σ0 (mdG (ps_i μ) m 0) := fun k _ _ => by rw [e0]
theorem rowE.up {ρ : Nat → Int32} (h : rowE σ ρ) {k : Nat} (hk : k = 1 ∨ k = 4 ∨ 8 ≤ k ∧ k < 15) (v : Int32) : rowE (upd σ k v) ρ := fun j h1 h2 => by rw [pk_un (by omega)]; exact h j h1 h2
theorem mt_so_loop (hm : isMd μ m) {k S : Nat} (hk : k < 6) (eS : ps_i μ (m + 3) k = nI (2 * S)) (hS : S ≤ 20) : ∀ (n i : Nat) (σ : Nat → Int32), i + n = S → shI g σ → legP g (fun x => ps_i μ (m + 4) (40 * k + x)) n (2 * i) σ → ps_To (ps_XX L xs) (ps_Ev (ps_XX L xs) (d + 4)) j_X8_isSo (ps_rt j_X8_isSo (some (.int (soF g (fun x => ps_i μ (m + 4) (40 * k + x)) n (2 * i) σ).1)) (MS μ m 1832 (soF g (fun x => ps_i μ (m + 4) (40 * k + x)) n (2 * i) σ).2)) (8, [(3, .int (nI (2 * i))), (2, .int (1)), (0, .ref (m)), (1, .int (nI k))], [], MS μ m 1832 σ) := by
  intro n
  induction n with
  | zero =>
    intro i σ hi hI hl
    obtain rfl : i = S := by omega
    skip
    refine e_2 rfl rfl ?_
    refine e_4 rfl rfl ?_
    refine e_gr rfl hm.1 rfl hm.2.2.2.2.2.2.2.2.2.2.2.1 ?_
    refine e_2 rfl rfl ?_
    refine m_a_ld (i := k) (c := 3) (n := 6) (by first | rfl | (simp only [← nI_add, ← pk_mul]; rfl) | (simp only [nI_add, pk_mul, nI_1]; done)) (by omega) (by decide) rfl hm.2.2.2.1 (by decide) ?_
    rw [eS]
    refine e_39 rfl (fun h1 => ?_) (fun h1 => ?_)
    · refine e_2 rfl rfl ?_
      exact e_rz rfl rfl (by first | decide | assumption) (by first | (simp only [soF, e, if_true, if_false, not_true_eq_false, not_false_eq_true, and_true, true_and, and_false, false_and, or_true, true_or, or_false, false_or, Int32.add_zero]; done) | (simp only [soF, e, if_true, if_false, not_true_eq_false, not_false_eq_true, and_true, true_and, and_false, false_and, or_true, true_or, or_false, false_or, Int32.add_zero]; rfl) | rfl) (by first | (simp only [soF, e, if_true, if_false, not_true_eq_false, not_false_eq_true, and_true, true_and, and_false, false_and, or_true, true_or, or_false, false_or, Int32.add_zero]; done) | (simp only [soF, e, if_true, if_false, not_true_eq_false, not_false_eq_true, and_true, true_and, and_false, false_and, or_true, true_or, or_false, false_or, Int32.add_zero]; rfl) | rfl)
    · exact absurd (nI_le (Nat.le_refl _) (by omega)) h1
  | succ n ih =>
    intro i σ hi hI hl
    obtain ⟨hl1, hl2, hl3⟩ := hl
    refine e_2 rfl rfl ?_
    refine e_4 rfl rfl ?_
    refine e_gr rfl hm.1 rfl hm.2.2.2.2.2.2.2.2.2.2.2.1 ?_
    refine e_2 rfl rfl ?_
    refine m_a_ld (i := k) (c := 3) (n := 6) (by first | rfl | (simp only [← nI_add, ← pk_mul]; rfl) | (simp only [nI_add, pk_mul, nI_1]; done)) (by omega) (by decide) rfl hm.2.2.2.1 (by decide) ?_
    rw [eS]
    refine e_39 rfl (fun h1 => ?_) (fun h1 => ?_)
    · exact absurd h1 (nI_ge (by omega) (by omega))
    · refine e_2 rfl rfl ?_
      refine e_30 rfl (fun h2 => ?_) (fun h2 => ?_)
      · exact absurd h2 (by decide)
      · refine e_4 rfl rfl ?_
        refine e_0 rfl ?_
        refine e_4 rfl rfl ?_
        refine e_gr rfl hm.1 rfl hm.2.2.2.2.2.2.2.2.2.2.2.2.1 ?_
        refine e_0 rfl ?_
        refine e_2 rfl rfl ?_
        refine e_11 rfl ?_
        refine e_2 rfl rfl ?_
        refine e_9 rfl ?_
        refine m_a_ld (i := ((40 * k) + (2 * i))) (c := 4) (n := 240) (by first | rfl | (simp only [← nI_add, ← pk_mul]; rfl) | (simp only [nI_add, pk_mul, nI_1]; done)) (by omega) (by decide) rfl hm.2.2.2.2.1 (by decide) ?_
        refine e_v2v rfl (by first | exact hm.1 | assumption | rfl) rfl (by decide) rfl (Nat.le_of_ble_eq_true rfl) (mm_passA (B := 1832) (by exact hm) (by decide) hI (by assumption)) ?_
        refine e_4 rfl rfl ?_
        refine e_gr rfl hm.1 rfl hm.2.2.2.2.2.2.2.2.2.1 ?_
        refine e_0 rfl ?_
        refine m_ald (k := 1) (x := 0) (by exact hm) (by omega) (by first | rfl | (simp only [nI_add, nI_1, Nat.zero_add]; first | done | exact congrArg nI (by omega))) (by omega) (by first | rfl | (rw [mdX_lo (by omega) (by omega)]; omega) | (rw [mdX_hi (by omega)]; omega)) rfl ?_
        refine e_4 rfl rfl ?_
        refine e_gr rfl hm.1 rfl hm.2.2.2.2.2.2.2.2.2.2.2.2.1 ?_
        refine e_0 rfl ?_
        refine e_2 rfl rfl ?_
        refine e_11 rfl ?_
        refine e_2 rfl rfl ?_
        refine e_9 rfl ?_
        refine e_0 rfl ?_
        refine e_9 rfl ?_
        refine m_a_ld (i := (((40 * k) + (2 * i)) + 1)) (c := 4) (n := 240) (by first | rfl | (simp only [← nI_add, ← pk_mul]; rfl) | (simp only [nI_add, pk_mul, nI_1]; done)) (by omega) (by decide) rfl hm.2.2.2.2.1 (by decide) ?_
        refine e_37 rfl (fun h3 => ?_) (fun h3 => ?_)
        · have e : (passF g σ (ps_i μ (m + 4) (40 * k + 2 * i)) 0 = ps_i μ (m + 4) (40 * k + (2 * i + 1))) = False := eq_false h3
          refine e_0 rfl ?_
          refine e_5 rfl rfl ?_
          refine e_8 rfl rfl rfl ?_
          refine e_42 rfl ?_
          refine e_2 rfl rfl ?_
          refine e_4 rfl rfl ?_
          refine e_gr rfl hm.1 rfl hm.2.2.2.2.2.2.2.2.2.2.2.1 ?_
          refine e_2 rfl rfl ?_
          refine m_a_ld (i := k) (c := 3) (n := 6) (by first | rfl | (simp only [← nI_add, ← pk_mul]; rfl) | (simp only [nI_add, pk_mul, nI_1]; done)) (by omega) (by decide) rfl hm.2.2.2.1 (by decide) ?_
          rw [eS]
          refine e_39 rfl (fun h4 => ?_) (fun h4 => ?_)
          · refine e_2 rfl rfl ?_
            exact e_rz rfl rfl (by first | decide | assumption) (by first | (simp only [soF, e, if_true, if_false, not_true_eq_false, not_false_eq_true, and_true, true_and, and_false, false_and, or_true, true_or, or_false, false_or, Int32.add_zero]; done) | (simp only [soF, e, if_true, if_false, not_true_eq_false, not_false_eq_true, and_true, true_and, and_false, false_and, or_true, true_or, or_false, false_or, Int32.add_zero]; rfl) | rfl) (by first | (simp only [soF, e, if_true, if_false, not_true_eq_false, not_false_eq_true, and_true, true_and, and_false, false_and, or_true, true_or, or_false, false_or, Int32.add_zero]; done) | (simp only [soF, e, if_true, if_false, not_true_eq_false, not_false_eq_true, and_true, true_and, and_false, false_and, or_true, true_or, or_false, false_or, Int32.add_zero]; rfl) | rfl)
          · refine e_2 rfl rfl ?_
            refine e_30 rfl (fun h5 => ?_) (fun h5 => ?_)
            · refine e_2 rfl rfl ?_
              exact e_rz rfl rfl (by first | decide | assumption) (by first | (simp only [soF, e, if_true, if_false, not_true_eq_false, not_false_eq_true, and_true, true_and, and_false, false_and, or_true, true_or, or_false, false_or, Int32.add_zero]; done) | (simp only [soF, e, if_true, if_false, not_true_eq_false, not_false_eq_true, and_true, true_and, and_false, false_and, or_true, true_or, or_false, false_or, Int32.add_zero]; rfl) | rfl) (by first | (simp only [soF, e, if_true, if_false, not_true_eq_false, not_false_eq_true, and_true, true_and, and_false, false_and, or_true, true_or, or_false, false_or, Int32.add_zero]; done) | (simp only [soF, e, if_true, if_false, not_true_eq_false, not_false_eq_true, and_true, true_and, and_false, false_and, or_true, true_or, or_false, false_or, Int32.add_zero]; rfl) | rfl)
            · exact absurd rfl h5
        · have e : (passF g σ (ps_i μ (m + 4) (40 * k + 2 * i)) 0 = ps_i μ (m + 4) (40 * k + (2 * i + 1))) = True := eq_true h3
          refine e_0 rfl ?_
          refine e_42 rfl ?_
          refine e_5 rfl rfl ?_
          refine e_8 rfl rfl rfl ?_
          refine e_42 rfl ?_
          refine e_lv [0, 1, 2, 3] rfl rfl ?_
          show ps_To _ _ _ _ (8, [(3, .int _), (2, .int _), (0, .ref _), (1, .int _)], [], _)
          rw [show nI (2 * i) + 2 = nI (2 * (i + 1)) from nI_add (2 * i) 2]
          have h := ih (i + 1) _ (by omega) (shI_pass hI hl1 hl2) hl3
          simp only [soF, e, if_true, if_false, not_true_eq_false, not_false_eq_true, and_true, true_and, and_false, false_and, or_true, true_or, or_false, false_or, Int32.add_zero]
          exact h
theorem mt_all_loop (hm : isMd μ m) {k S : Nat} (hk : k < 6) (eS : ps_i μ (m + 3) k = nI (2 * S)) (hS : S ≤ 20) : ∀ (n i : Nat) (σ : Nat → Int32), i + n = S → shI g σ → ps_To (ps_XX L xs) (ps_Ev (ps_XX L xs) (d + 4)) j_X8_canAll (ps_rt j_X8_canAll (some (.int (allF g (fun x => ps_i μ (m + 4) (40 * k + x)) n (2 * i) σ).1)) (MS μ m 1832 (allF g (fun x => ps_i μ (m + 4) (40 * k + x)) n (2 * i) σ).2)) (8, [(3, .int (nI (2 * i))), (2, .int (1)), (0, .ref (m)), (1, .int (nI k))], [], MS μ m 1832 σ) := by
  intro n
  induction n with
  | zero =>
    intro i σ hi hI
    obtain rfl : i = S := by omega
    skip
    refine e_2 rfl rfl ?_
    refine e_4 rfl rfl ?_
    refine e_gr rfl hm.1 rfl hm.2.2.2.2.2.2.2.2.2.2.2.1 ?_
    refine e_2 rfl rfl ?_
    refine m_a_ld (i := k) (c := 3) (n := 6) (by first | rfl | (simp only [← nI_add, ← pk_mul]; rfl) | (simp only [nI_add, pk_mul, nI_1]; done)) (by omega) (by decide) rfl hm.2.2.2.1 (by decide) ?_
    rw [eS]
    refine e_39 rfl (fun h1 => ?_) (fun h1 => ?_)
    · refine e_2 rfl rfl ?_
      exact e_rz rfl rfl (by first | decide | assumption) (by first | (simp only [soF, allF, eq_true h1, if_true, if_true, if_false, not_true_eq_false, not_false_eq_true, and_true, true_and, and_false, false_and, or_true, true_or, or_false, false_or, Int32.add_zero]; done) | (simp only [soF, allF, eq_true h1, if_true, if_true, if_false, not_true_eq_false, not_false_eq_true, and_true, true_and, and_false, false_and, or_true, true_or, or_false, false_or, Int32.add_zero]; rfl) | rfl) (by first | (simp only [soF, allF, eq_true h1, if_true, if_true, if_false, not_true_eq_false, not_false_eq_true, and_true, true_and, and_false, false_and, or_true, true_or, or_false, false_or, Int32.add_zero]; done) | (simp only [soF, allF, eq_true h1, if_true, if_true, if_false, not_true_eq_false, not_false_eq_true, and_true, true_and, and_false, false_and, or_true, true_or, or_false, false_or, Int32.add_zero]; rfl) | rfl)
    · exact absurd (nI_le (Nat.le_refl _) (by omega)) h1
  | succ n ih =>
    intro i σ hi hI
    refine e_2 rfl rfl ?_
    refine e_4 rfl rfl ?_
    refine e_gr rfl hm.1 rfl hm.2.2.2.2.2.2.2.2.2.2.2.1 ?_
    refine e_2 rfl rfl ?_
    refine m_a_ld (i := k) (c := 3) (n := 6) (by first | rfl | (simp only [← nI_add, ← pk_mul]; rfl) | (simp only [nI_add, pk_mul, nI_1]; done)) (by omega) (by decide) rfl hm.2.2.2.1 (by decide) ?_
    rw [eS]
    refine e_39 rfl (fun h1 => ?_) (fun h1 => ?_)
    · exact absurd h1 (nI_ge (by omega) (by omega))
    · refine e_2 rfl rfl ?_
      refine e_30 rfl (fun h2 => ?_) (fun h2 => ?_)
      · exact absurd h2 (by decide)
      · refine e_4 rfl rfl ?_
        refine e_gr rfl hm.1 rfl hm.2.2.2.2.2.2.2.2.2.2.2.2.1 ?_
        refine e_0 rfl ?_
        refine e_2 rfl rfl ?_
        refine e_11 rfl ?_
        refine e_2 rfl rfl ?_
        refine e_9 rfl ?_
        refine m_a_ld (i := ((40 * k) + (2 * i))) (c := 4) (n := 240) (by first | rfl | (simp only [← nI_add, ← pk_mul]; rfl) | (simp only [nI_add, pk_mul, nI_1]; done)) (by omega) (by decide) rfl hm.2.2.2.2.1 (by decide) ?_
        refine e_5 rfl rfl ?_
        refine e_2 rfl rfl ?_
        refine e_s1 rfl rfl rfl (Nat.le_of_ble_eq_true rfl) (sm_isAct _) ?_
        refine e_30b rfl (fun h3 => ?_) (fun h3 => ?_)
        · refine e_0 rfl ?_
          refine e_5 rfl rfl ?_
          refine e_2 rfl rfl ?_
          refine e_30 rfl (fun h4 => ?_) (fun h4 => ?_)
          · refine e_8 rfl rfl rfl ?_
            refine e_42 rfl ?_
            refine e_2 rfl rfl ?_
            refine e_4 rfl rfl ?_
            refine e_gr rfl hm.1 rfl hm.2.2.2.2.2.2.2.2.2.2.2.1 ?_
            refine e_2 rfl rfl ?_
            refine m_a_ld (i := k) (c := 3) (n := 6) (by first | rfl | (simp only [← nI_add, ← pk_mul]; rfl) | (simp only [nI_add, pk_mul, nI_1]; done)) (by omega) (by decide) rfl hm.2.2.2.1 (by decide) ?_
            rw [eS]
            refine e_39 rfl (fun h5 => ?_) (fun h5 => ?_)
            · refine e_2 rfl rfl ?_
              exact e_rz rfl rfl (by first | decide | assumption) (by first | (simp only [soF, allF, eq_false h1, eq_false h2, eq_false h3, eq_true h4, eq_true h5, if_true, if_true, if_false, not_true_eq_false, not_false_eq_true, and_true, true_and, and_false, false_and, or_true, true_or, or_false, false_or, Int32.add_zero]; done) | (simp only [soF, allF, eq_false h1, eq_false h2, eq_false h3, eq_true h4, eq_true h5, if_true, if_true, if_false, not_true_eq_false, not_false_eq_true, and_true, true_and, and_false, false_and, or_true, true_or, or_false, false_or, Int32.add_zero]; rfl) | rfl) (by first | (simp only [soF, allF, eq_false h1, eq_false h2, eq_false h3, eq_true h4, eq_true h5, if_true, if_true, if_false, not_true_eq_false, not_false_eq_true, and_true, true_and, and_false, false_and, or_true, true_or, or_false, false_or, Int32.add_zero]; done) | (simp only [soF, allF, eq_false h1, eq_false h2, eq_false h3, eq_true h4, eq_true h5, if_true, if_true, if_false, not_true_eq_false, not_false_eq_true, and_true, true_and, and_false, false_and, or_true, true_or, or_false, false_or, Int32.add_zero]; rfl) | rfl)
            · refine e_2 rfl rfl ?_
              refine e_30 rfl (fun h6 => ?_) (fun h6 => ?_)
              · refine e_2 rfl rfl ?_
                exact e_rz rfl rfl (by first | decide | assumption) (by first | (simp only [soF, allF, eq_false h1, eq_false h2, eq_false h3, eq_true h4, eq_false h5, eq_true h6, if_true, if_true, if_false, not_true_eq_false, not_false_eq_true, and_true, true_and, and_false, false_and, or_true, true_or, or_false, false_or, Int32.add_zero]; done) | (simp only [soF, allF, eq_false h1, eq_false h2, eq_false h3, eq_true h4, eq_false h5, eq_true h6, if_true, if_true, if_false, not_true_eq_false, not_false_eq_true, and_true, true_and, and_false, false_and, or_true, true_or, or_false, false_or, Int32.add_zero]; rfl) | rfl) (by first | (simp only [soF, allF, eq_false h1, eq_false h2, eq_false h3, eq_true h4, eq_false h5, eq_true h6, if_true, if_true, if_false, not_true_eq_false, not_false_eq_true, and_true, true_and, and_false, false_and, or_true, true_or, or_false, false_or, Int32.add_zero]; done) | (simp only [soF, allF, eq_false h1, eq_false h2, eq_false h3, eq_true h4, eq_false h5, eq_true h6, if_true, if_true, if_false, not_true_eq_false, not_false_eq_true, and_true, true_and, and_false, false_and, or_true, true_or, or_false, false_or, Int32.add_zero]; rfl) | rfl)
              · exact absurd rfl h6
          · exact absurd rfl h4
        · refine e_4 rfl rfl ?_
          refine e_gr rfl hm.1 rfl hm.2.2.2.2.2.2.2.2.2.1 ?_
          refine e_0 rfl ?_
          refine m_ald (k := 0) (x := 5) (by exact hm) (by omega) (by first | rfl | (simp only [nI_add, nI_1, Nat.zero_add]; first | done | exact congrArg nI (by omega))) (by omega) (by first | rfl | (rw [mdX_lo (by omega) (by omega)]; omega) | (rw [mdX_hi (by omega)]; omega)) rfl ?_
          refine e_4 rfl rfl ?_
          refine m_land (by exact hm) rfl rfl ?_
          refine e_39 rfl (fun h7 => ?_) (fun h7 => ?_)
          · refine e_0 rfl ?_
            refine e_5 rfl rfl ?_
            refine e_2 rfl rfl ?_
            refine e_30 rfl (fun h8 => ?_) (fun h8 => ?_)
            · refine e_8 rfl rfl rfl ?_
              refine e_42 rfl ?_
              refine e_2 rfl rfl ?_
              refine e_4 rfl rfl ?_
              refine e_gr rfl hm.1 rfl hm.2.2.2.2.2.2.2.2.2.2.2.1 ?_
              refine e_2 rfl rfl ?_
              refine m_a_ld (i := k) (c := 3) (n := 6) (by first | rfl | (simp only [← nI_add, ← pk_mul]; rfl) | (simp only [nI_add, pk_mul, nI_1]; done)) (by omega) (by decide) rfl hm.2.2.2.1 (by decide) ?_
              rw [eS]
              refine e_39 rfl (fun h9 => ?_) (fun h9 => ?_)
              · refine e_2 rfl rfl ?_
                exact e_rz rfl rfl (by first | decide | assumption) (by first | (simp only [soF, allF, eq_false h1, eq_false h2, eq_true h3, eq_true h7, eq_true h8, eq_true h9, if_true, if_true, if_false, not_true_eq_false, not_false_eq_true, and_true, true_and, and_false, false_and, or_true, true_or, or_false, false_or, Int32.add_zero]; done) | (simp only [soF, allF, eq_false h1, eq_false h2, eq_true h3, eq_true h7, eq_true h8, eq_true h9, if_true, if_true, if_false, not_true_eq_false, not_false_eq_true, and_true, true_and, and_false, false_and, or_true, true_or, or_false, false_or, Int32.add_zero]; rfl) | rfl) (by first | (simp only [soF, allF, eq_false h1, eq_false h2, eq_true h3, eq_true h7, eq_true h8, eq_true h9, if_true, if_true, if_false, not_true_eq_false, not_false_eq_true, and_true, true_and, and_false, false_and, or_true, true_or, or_false, false_or, Int32.add_zero]; done) | (simp only [soF, allF, eq_false h1, eq_false h2, eq_true h3, eq_true h7, eq_true h8, eq_true h9, if_true, if_true, if_false, not_true_eq_false, not_false_eq_true, and_true, true_and, and_false, false_and, or_true, true_or, or_false, false_or, Int32.add_zero]; rfl) | rfl)
              · refine e_2 rfl rfl ?_
                refine e_30 rfl (fun h10 => ?_) (fun h10 => ?_)
                · refine e_2 rfl rfl ?_
                  exact e_rz rfl rfl (by first | decide | assumption) (by first | (simp only [soF, allF, eq_false h1, eq_false h2, eq_true h3, eq_true h7, eq_true h8, eq_false h9, eq_true h10, if_true, if_true, if_false, not_true_eq_false, not_false_eq_true, and_true, true_and, and_false, false_and, or_true, true_or, or_false, false_or, Int32.add_zero]; done) | (simp only [soF, allF, eq_false h1, eq_false h2, eq_true h3, eq_true h7, eq_true h8, eq_false h9, eq_true h10, if_true, if_true, if_false, not_true_eq_false, not_false_eq_true, and_true, true_and, and_false, false_and, or_true, true_or, or_false, false_or, Int32.add_zero]; rfl) | rfl) (by first | (simp only [soF, allF, eq_false h1, eq_false h2, eq_true h3, eq_true h7, eq_true h8, eq_false h9, eq_true h10, if_true, if_true, if_false, not_true_eq_false, not_false_eq_true, and_true, true_and, and_false, false_and, or_true, true_or, or_false, false_or, Int32.add_zero]; done) | (simp only [soF, allF, eq_false h1, eq_false h2, eq_true h3, eq_true h7, eq_true h8, eq_false h9, eq_true h10, if_true, if_true, if_false, not_true_eq_false, not_false_eq_true, and_true, true_and, and_false, false_and, or_true, true_or, or_false, false_or, Int32.add_zero]; rfl) | rfl)
                · exact absurd rfl h10
            · exact absurd rfl h8
          · refine e_4 rfl rfl ?_
            refine e_0 rfl ?_
            refine e_2 rfl rfl ?_
            refine e_v2 rfl (by first | exact hm.1 | assumption | rfl) rfl (by decide) rfl (Nat.le_of_ble_eq_true rfl) (mm_mayF (B := 1832) (by exact hm) (by decide) hI _) ?_
            refine e_30b rfl (fun h11 => ?_) (fun h11 => ?_)
            · refine e_0 rfl ?_
              refine e_5 rfl rfl ?_
              refine e_2 rfl rfl ?_
              refine e_30 rfl (fun h12 => ?_) (fun h12 => ?_)
              · refine e_8 rfl rfl rfl ?_
                refine e_42 rfl ?_
                refine e_2 rfl rfl ?_
                refine e_4 rfl rfl ?_
                refine e_gr rfl hm.1 rfl hm.2.2.2.2.2.2.2.2.2.2.2.1 ?_
                refine e_2 rfl rfl ?_
                refine m_a_ld (i := k) (c := 3) (n := 6) (by first | rfl | (simp only [← nI_add, ← pk_mul]; rfl) | (simp only [nI_add, pk_mul, nI_1]; done)) (by omega) (by decide) rfl hm.2.2.2.1 (by decide) ?_
                rw [eS]
                refine e_39 rfl (fun h13 => ?_) (fun h13 => ?_)
                · refine e_2 rfl rfl ?_
                  exact e_rz rfl rfl (by first | decide | assumption) (by first | (simp only [soF, allF, eq_false h1, eq_false h2, eq_true h3, eq_false h7, eq_false h11, eq_true h12, eq_true h13, if_true, if_true, if_false, not_true_eq_false, not_false_eq_true, and_true, true_and, and_false, false_and, or_true, true_or, or_false, false_or, Int32.add_zero]; done) | (simp only [soF, allF, eq_false h1, eq_false h2, eq_true h3, eq_false h7, eq_false h11, eq_true h12, eq_true h13, if_true, if_true, if_false, not_true_eq_false, not_false_eq_true, and_true, true_and, and_false, false_and, or_true, true_or, or_false, false_or, Int32.add_zero]; rfl) | rfl) (by first | (simp only [soF, allF, eq_false h1, eq_false h2, eq_true h3, eq_false h7, eq_false h11, eq_true h12, eq_true h13, if_true, if_true, if_false, not_true_eq_false, not_false_eq_true, and_true, true_and, and_false, false_and, or_true, true_or, or_false, false_or, Int32.add_zero]; done) | (simp only [soF, allF, eq_false h1, eq_false h2, eq_true h3, eq_false h7, eq_false h11, eq_true h12, eq_true h13, if_true, if_true, if_false, not_true_eq_false, not_false_eq_true, and_true, true_and, and_false, false_and, or_true, true_or, or_false, false_or, Int32.add_zero]; rfl) | rfl)
                · refine e_2 rfl rfl ?_
                  refine e_30 rfl (fun h14 => ?_) (fun h14 => ?_)
                  · refine e_2 rfl rfl ?_
                    exact e_rz rfl rfl (by first | decide | assumption) (by first | (simp only [soF, allF, eq_false h1, eq_false h2, eq_true h3, eq_false h7, eq_false h11, eq_true h12, eq_false h13, eq_true h14, if_true, if_true, if_false, not_true_eq_false, not_false_eq_true, and_true, true_and, and_false, false_and, or_true, true_or, or_false, false_or, Int32.add_zero]; done) | (simp only [soF, allF, eq_false h1, eq_false h2, eq_true h3, eq_false h7, eq_false h11, eq_true h12, eq_false h13, eq_true h14, if_true, if_true, if_false, not_true_eq_false, not_false_eq_true, and_true, true_and, and_false, false_and, or_true, true_or, or_false, false_or, Int32.add_zero]; rfl) | rfl) (by first | (simp only [soF, allF, eq_false h1, eq_false h2, eq_true h3, eq_false h7, eq_false h11, eq_true h12, eq_false h13, eq_true h14, if_true, if_true, if_false, not_true_eq_false, not_false_eq_true, and_true, true_and, and_false, false_and, or_true, true_or, or_false, false_or, Int32.add_zero]; done) | (simp only [soF, allF, eq_false h1, eq_false h2, eq_true h3, eq_false h7, eq_false h11, eq_true h12, eq_false h13, eq_true h14, if_true, if_true, if_false, not_true_eq_false, not_false_eq_true, and_true, true_and, and_false, false_and, or_true, true_or, or_false, false_or, Int32.add_zero]; rfl) | rfl)
                  · exact absurd rfl h14
              · exact absurd rfl h12
            · refine e_0 rfl ?_
              refine e_42 rfl ?_
              refine e_5 rfl rfl ?_
              refine e_2 rfl rfl ?_
              refine e_30 rfl (fun h15 => ?_) (fun h15 => ?_)
              · exact absurd h15 (by decide)
              · refine e_4 rfl rfl ?_
                refine e_0 rfl ?_
                refine e_2 rfl rfl ?_
                refine e_v2v rfl (by first | exact hm.1 | assumption | rfl) rfl (by decide) rfl (Nat.le_of_ble_eq_true rfl) (mm_passA (B := 1832) (by exact hm) (by decide) hI (by assumption)) ?_
                refine e_8 rfl rfl rfl ?_
                refine e_42 rfl ?_
                refine e_lv [0, 1, 3, 4] rfl rfl ?_
                show ps_To _ _ _ _ (8, [(3, .int _), (2, .int _), (0, .ref _), (1, .int _)], [], _)
                rw [show nI (2 * i) + 2 = nI (2 * (i + 1)) from nI_add (2 * i) 2]
                have h := ih (i + 1) _ (by omega) (shI_pass hI (by assumption) (Int32.not_le.mp (by assumption)))
                simp only [soF, allF, eq_false h1, eq_false h2, eq_true h3, eq_false h7, eq_true h11, eq_false h15, if_true, if_true, if_false, not_true_eq_false, not_false_eq_true, and_true, true_and, and_false, false_and, or_true, true_or, or_false, false_or, Int32.add_zero]
                exact h
theorem mt_isSo (hm : isMd μ m) {k S : Nat} (hk : k < 6) (eS : ps_i μ (m + 3) k = nI (2 * S)) (hS : S ≤ 20) (hs : sameF τ σ) (hr0 : rowE σ (mdG (ps_i μ) m 0)) (hI : shI g σ) (hl : legP g (fun x => ps_i μ (m + 4) (40 * k + x)) S 0 σ) : ps_Ev (ps_XX L xs) (d + 5) j_X8_isSo [.ref m, .int (nI k)] (MS μ m 1832 τ) (some (.int (soF g (fun x => ps_i μ (m + 4) (40 * k + x)) S 0 σ).1)) (MS μ m 1832 (soF g (fun x => ps_i μ (m + 4) (40 * k + x)) S 0 σ).2) := by
  refine ⟨Nat.le_of_ble_eq_true rfl, ?_⟩
  refine e_4 rfl rfl ?_
  refine e_v0v rfl (by first | exact hm.1 | assumption | rfl) rfl (by decide) rfl (Nat.le_of_ble_eq_true rfl) (mt_layG hm hs hr0) ?_
  refine e_0 rfl ?_
  refine e_5 rfl rfl ?_
  refine e_0 rfl ?_
  refine e_5 rfl rfl ?_
  exact mt_so_loop (L := L) (xs := xs) (d := d) hm hk eS hS S 0 σ (by omega) hI hl
theorem mt_canAll (hm : isMd μ m) {k S : Nat} (hk : k < 6) (eS : ps_i μ (m + 3) k = nI (2 * S)) (hS : S ≤ 20) (hs : sameF τ σ) (hr0 : rowE σ (mdG (ps_i μ) m 0)) (hI : shI g σ) : ps_Ev (ps_XX L xs) (d + 5) j_X8_canAll [.ref m, .int (nI k)] (MS μ m 1832 τ) (some (.int (allF g (fun x => ps_i μ (m + 4) (40 * k + x)) S 0 σ).1)) (MS μ m 1832 (allF g (fun x => ps_i μ (m + 4) (40 * k + x)) S 0 σ).2) := by
  refine ⟨Nat.le_of_ble_eq_true rfl, ?_⟩
  refine e_4 rfl rfl ?_
  refine e_v0v rfl (by first | exact hm.1 | assumption | rfl) rfl (by decide) rfl (Nat.le_of_ble_eq_true rfl) (mt_layG hm hs hr0) ?_
  refine e_0 rfl ?_
  refine e_5 rfl rfl ?_
  refine e_0 rfl ?_
  refine e_5 rfl rfl ?_
  exact mt_all_loop (L := L) (xs := xs) (d := d) hm hk eS hS S 0 σ (by omega) hI
theorem mt_np_no (hm : isMd μ m) {k : Nat} (hk : k < 6) (h : ¬ 0 ≤ ps_i μ (m + 3) k) : evI (ps_XX L xs) (d + 6) j_X8_noPairs [.ref m, .int (nI k)] (MS μ m 1832 τ) (-3, FM (MS μ m 1832 τ) m 1) := by
  refine ⟨Nat.le_of_ble_eq_true rfl, ?_⟩
  refine e_4 rfl rfl ?_
  refine e_gr rfl hm.1 rfl hm.2.2.2.2.2.2.2.2.2.2.2.1 ?_
  refine e_2 rfl rfl ?_
  refine m_a_ld (i := k) (c := 3) (n := 6) (by first | rfl | (simp only [← nI_add, ← pk_mul]; rfl) | (simp only [nI_add, pk_mul, nI_1]; done)) (by omega) (by decide) rfl hm.2.2.2.1 (by decide) ?_
  refine e_33 rfl (fun h1 => ?_) (fun h1 => ?_)
  · exact absurd h1 h
  · refine e_4 rfl rfl ?_
    refine e_0 rfl ?_
    refine e_v1 rfl (by first | exact hm.1 | assumption | rfl) rfl (by decide) rfl (Nat.le_of_ble_eq_true rfl) (evo (mq_find (μ := MS μ m 1832 _) hm (by decide))) ?_
    refine e_42 rfl ?_
    exact e_ri rfl rfl (by rfl) (rfl)
theorem mt_np_odd (hm : isMd μ m) {k : Nat} (hk : k < 6) {N : Nat} (eN : ps_i μ (m + 3) k = nI N) (hN : N ≤ 40) (ho : ¬ N % 2 = 0) : evI (ps_XX L xs) (d + 6) j_X8_noPairs [.ref m, .int (nI k)] (MS μ m 1832 τ) (-3, FM (MS μ m 1832 τ) m 5) := by
  refine ⟨Nat.le_of_ble_eq_true rfl, ?_⟩
  refine e_4 rfl rfl ?_
  refine e_gr rfl hm.1 rfl hm.2.2.2.2.2.2.2.2.2.2.2.1 ?_
  refine e_2 rfl rfl ?_
  refine m_a_ld (i := k) (c := 3) (n := 6) (by first | rfl | (simp only [← nI_add, ← pk_mul]; rfl) | (simp only [nI_add, pk_mul, nI_1]; done)) (by omega) (by decide) rfl hm.2.2.2.1 (by decide) ?_
  rw [eN]
  refine e_33 rfl (fun h1 => ?_) (fun h1 => ?_)
  · refine e_4 rfl rfl ?_
    refine e_gr rfl hm.1 rfl hm.2.2.2.2.2.2.2.2.2.2.2.1 ?_
    refine e_2 rfl rfl ?_
    refine m_a_ld (i := k) (c := 3) (n := 6) (by first | rfl | (simp only [← nI_add, ← pk_mul]; rfl) | (simp only [nI_add, pk_mul, nI_1]; done)) (by omega) (by decide) rfl hm.2.2.2.1 (by decide) ?_
    rw [eN]
    refine e_0 rfl ?_
    refine e_18 rfl (by first | decide | assumption) ?_
    rw [show (2 : Int32) = nI 2 from rfl, pk_rem (by omega) (by omega) (by omega)]
    refine e_30 rfl (fun h2 => ?_) (fun h2 => ?_)
    · exact absurd ((nI_eq (b := 0) (by omega) (by omega)).mp h2) ho
    · refine e_4 rfl rfl ?_
      refine e_0 rfl ?_
      refine e_v1 rfl (by first | exact hm.1 | assumption | rfl) rfl (by decide) rfl (Nat.le_of_ble_eq_true rfl) (evo (mq_find (μ := MS μ m 1832 _) hm (by decide))) ?_
      refine e_42 rfl ?_
      exact e_ri rfl rfl (by rfl) (rfl)
  · exact absurd (nI_pos' (by omega)) h1
theorem mt_np_cant (hm : isMd μ m) {k : Nat} (hk : k < 6) {S : Nat} (eS : ps_i μ (m + 3) k = nI (2 * S)) (hS : S ≤ 20) (hs : sameF τ σ) (hr0 : rowE σ (mdG (ps_i μ) m 0)) (hI : shI g σ) (ha : (allF g (fun x => ps_i μ (m + 4) (40 * k + x)) S 0 σ).1 = 0) : evI (ps_XX L xs) (d + 6) j_X8_noPairs [.ref m, .int (nI k)] (MS μ m 1832 τ) (-3, FM (MS μ m 1832 (allF g (fun x => ps_i μ (m + 4) (40 * k + x)) S 0 σ).2) m 3) := by
  refine ⟨Nat.le_of_ble_eq_true rfl, ?_⟩
  refine e_4 rfl rfl ?_
  refine e_gr rfl hm.1 rfl hm.2.2.2.2.2.2.2.2.2.2.2.1 ?_
  refine e_2 rfl rfl ?_
  refine m_a_ld (i := k) (c := 3) (n := 6) (by first | rfl | (simp only [← nI_add, ← pk_mul]; rfl) | (simp only [nI_add, pk_mul, nI_1]; done)) (by omega) (by decide) rfl hm.2.2.2.1 (by decide) ?_
  rw [eS]
  refine e_33 rfl (fun h1 => ?_) (fun h1 => ?_)
  · refine e_4 rfl rfl ?_
    refine e_gr rfl hm.1 rfl hm.2.2.2.2.2.2.2.2.2.2.2.1 ?_
    refine e_2 rfl rfl ?_
    refine m_a_ld (i := k) (c := 3) (n := 6) (by first | rfl | (simp only [← nI_add, ← pk_mul]; rfl) | (simp only [nI_add, pk_mul, nI_1]; done)) (by omega) (by decide) rfl hm.2.2.2.1 (by decide) ?_
    rw [eS]
    refine e_0 rfl ?_
    refine e_18 rfl (by first | decide | assumption) ?_
    rw [show (2 : Int32) = nI 2 from rfl, pk_rem (by omega) (by omega) (by omega)]
    refine e_30 rfl (fun h2 => ?_) (fun h2 => ?_)
    · refine e_4 rfl rfl ?_
      refine e_2 rfl rfl ?_
      refine e_v1 rfl (by first | exact hm.1 | assumption | rfl) rfl (by decide) rfl (Nat.le_of_ble_eq_true rfl) (mt_canAll hm hk eS hS hs hr0 hI) ?_
      refine e_30 rfl (fun h3 => ?_) (fun h3 => ?_)
      · refine e_4 rfl rfl ?_
        refine e_0 rfl ?_
        refine e_v1 rfl (by first | exact hm.1 | assumption | rfl) rfl (by decide) rfl (Nat.le_of_ble_eq_true rfl) (evo (mq_find (μ := MS μ m 1832 _) hm (by decide))) ?_
        exact e_ri rfl rfl (by rfl) (rfl)
      · exact absurd ha h3
    · exact absurd (by rw [Nat.mul_mod_right]; rfl) h2
  · exact absurd (nI_pos' (by omega)) h1
theorem mt_np_ok (hm : isMd μ m) {k : Nat} (hk : k < 6) {S : Nat} (eS : ps_i μ (m + 3) k = nI (2 * S)) (hS : S ≤ 20) (hs : sameF τ σ) (hr0 : rowE σ (mdG (ps_i μ) m 0)) (hI : shI g σ) (ha : (allF g (fun x => ps_i μ (m + 4) (40 * k + x)) S 0 σ).1 = 1) : evI (ps_XX L xs) (d + 6) j_X8_noPairs [.ref m, .int (nI k)] (MS μ m 1832 τ) (0, MS μ m 1832 (allF g (fun x => ps_i μ (m + 4) (40 * k + x)) S 0 σ).2) := by
  refine ⟨Nat.le_of_ble_eq_true rfl, ?_⟩
  refine e_4 rfl rfl ?_
  refine e_gr rfl hm.1 rfl hm.2.2.2.2.2.2.2.2.2.2.2.1 ?_
  refine e_2 rfl rfl ?_
  refine m_a_ld (i := k) (c := 3) (n := 6) (by first | rfl | (simp only [← nI_add, ← pk_mul]; rfl) | (simp only [nI_add, pk_mul, nI_1]; done)) (by omega) (by decide) rfl hm.2.2.2.1 (by decide) ?_
  rw [eS]
  refine e_33 rfl (fun h1 => ?_) (fun h1 => ?_)
  · refine e_4 rfl rfl ?_
    refine e_gr rfl hm.1 rfl hm.2.2.2.2.2.2.2.2.2.2.2.1 ?_
    refine e_2 rfl rfl ?_
    refine m_a_ld (i := k) (c := 3) (n := 6) (by first | rfl | (simp only [← nI_add, ← pk_mul]; rfl) | (simp only [nI_add, pk_mul, nI_1]; done)) (by omega) (by decide) rfl hm.2.2.2.1 (by decide) ?_
    rw [eS]
    refine e_0 rfl ?_
    refine e_18 rfl (by first | decide | assumption) ?_
    rw [show (2 : Int32) = nI 2 from rfl, pk_rem (by omega) (by omega) (by omega)]
    refine e_30 rfl (fun h2 => ?_) (fun h2 => ?_)
    · refine e_4 rfl rfl ?_
      refine e_2 rfl rfl ?_
      refine e_v1 rfl (by first | exact hm.1 | assumption | rfl) rfl (by decide) rfl (Nat.le_of_ble_eq_true rfl) (mt_canAll hm hk eS hS hs hr0 hI) ?_
      refine e_30 rfl (fun h3 => ?_) (fun h3 => ?_)
      · exact absurd (ha.symm.trans h3) (by decide)
      · refine e_0 rfl ?_
        refine e_42 rfl ?_
        exact e_ri rfl rfl (by rfl) (rfl)
    · exact absurd (by rw [Nat.mul_mod_right]; rfl) h2
  · exact absurd (nI_pos' (by omega)) h1
theorem mt_isSoAs (hm : isMd μ m) {k S : Nat} (hk : k < 6) (eS : ps_i μ (m + 3) k = nI (2 * S)) (hS : S ≤ 20) (e0 : mdG (ps_i μ) m 0 = σ0) (hs : sameF τ σ0) (hI : shI g σ0) {x : Nat} (hx : x < g) {kind : Int32} (hkd : ∃ c, c < 6 ∧ kind = nI c) (hl : legP g (fun x => ps_i μ (m + 4) (40 * k + x)) S 0 σ0) : ps_Ev (ps_XX L xs) (d + 6) j_X8_isSoAs [.ref m, .int (nI x), .int kind, .int (nI k)] (MS μ m 1832 τ) (some (.int (sasF g (fun x => ps_i μ (m + 4) (40 * k + x)) S σ0 x kind).1)) (MS μ m 1832 (sasF g (fun x => ps_i μ (m + 4) (40 * k + x)) S σ0 x kind).2) := by
  refine ⟨Nat.le_of_ble_eq_true rfl, ?_⟩
  have hg := hI.1.1
  obtain ⟨cc, hcc, rfl⟩ := hkd
  have hlE : legE σ0 (upd σ0 (9 + x) (nI cc)) := ⟨(pk_un (by omega)).symm, (pk_un (by omega)).symm, (pk_un (by omega)).symm, (pk_un (by omega)).symm, (pk_un (by omega)).symm⟩
  refine e_4 rfl rfl ?_
  refine e_gr rfl hm.1 rfl hm.2.2.2.2.2.2.2.2.2.2.1 ?_
  refine e_2 rfl rfl ?_
  refine m_k_ld (i := x) (by exact hm) (by first | rfl | (simp only [← nI_add, ← pk_mul]; rfl) | (simp only [nI_add, pk_mul, nI_1]; done)) (by omega) rfl ?_
  refine e_5 rfl rfl ?_
  refine e_4 rfl rfl ?_
  refine e_gr rfl hm.1 rfl hm.2.2.2.2.2.2.2.2.2.2.1 ?_
  refine e_2 rfl rfl ?_
  refine e_2 rfl rfl ?_
  refine m_k_st (i := x) (by exact hm) (by first | rfl | (simp only [← nI_add, ← pk_mul]; rfl) | (simp only [nI_add, pk_mul, nI_1]; done)) (by omega) rfl ?_
  refine e_4 rfl rfl ?_
  refine e_2 rfl rfl ?_
  refine e_v1 rfl (by first | exact hm.1 | assumption | rfl) rfl (by decide) rfl (Nat.le_of_ble_eq_true rfl) (mt_isSo hm hk eS hS (hs.up (9 + x) (nI cc)) ((rowE_of e0).up (by omega) _) (shI_kind hI hx hcc) (legE.leg _ _ _ _ hlE hl)) ?_
  refine e_5 rfl rfl ?_
  refine e_4 rfl rfl ?_
  refine e_gr rfl hm.1 rfl hm.2.2.2.2.2.2.2.2.2.2.1 ?_
  refine e_2 rfl rfl ?_
  refine e_2 rfl rfl ?_
  refine m_k_st (i := x) (by exact hm) (by first | rfl | (simp only [← nI_add, ← pk_mul]; rfl) | (simp only [nI_add, pk_mul, nI_1]; done)) (by omega) rfl ?_
  refine e_2 rfl rfl ?_
  exact e_rz rfl rfl (so_01 _ _ _) (by rfl) (by rw [hs (9 + x) (by omega) (by omega)]; rfl)
def lastS (f : Nat → (Nat → Int32)) (τ : Nat → Int32) : Nat → (Nat → Int32)
  | 0 => τ
  | n + 1 => f n
theorem last_s {f : Nat → (Nat → Int32)} {τ σ : Nat → Int32} (h : sameF τ σ) (hf : ∀ n, sameF (f n) σ) : ∀ n, sameF (lastS f τ n) σ
  | 0 => h
  | n + 1 => hf n
theorem bitsN_s {p : Nat → Prop} [DecidablePred p] {n : Nat} {b : Int32} (h : p n) (hb : b = (1 : Int32) <<< (nI n &&& 31)) : bitsN p n ||| b = bitsN p (n + 1) := by rw [hb]; exact (if_pos h).symm
theorem bitsN_k {p : Nat → Prop} [DecidablePred p] {n : Nat} (h : ¬ p n) : bitsN p n ||| 0 = bitsN p (n + 1) := (or0 _).trans (if_neg h).symm
theorem ne0_1 {x : Int32} (h : x = 0 ∨ x = 1) : ¬ x = 0 → x = 1 := fun z => h.resolve_left z
theorem mt_feigns_loop (hm : isMd μ m) {k S : Nat} (hk : k < 6) (eS : ps_i μ (m + 3) k = nI (2 * S)) (hS : S ≤ 20) (e0 : mdG (ps_i μ) m 0 = σ0) (hs : sameF τ σ0) (hI : shI g σ0) (hl : legP g (fun x => ps_i μ (m + 4) (40 * k + x)) S 0 σ0) (c : Int32) : ∀ (n i : Nat), i + n = g → ps_To (ps_XX L xs) (ps_Ev (ps_XX L xs) (d + 6)) j_X8_feigns (ps_rt j_X8_feigns (some (.int (bitsN (fun y => (sasF g (fun x => ps_i μ (m + 4) (40 * k + x)) S σ0 y 3).1 = 1) g))) (MS (ps_sI μ m 9 (soF g (fun x => ps_i μ (m + 4) (40 * k + x)) S 0 σ0).1) m 1832 (soF g (fun x => ps_i μ (m + 4) (40 * k + x)) S 0 σ0).2)) (36, [(4, .int (nI i)), (3, .int (bitsN (fun y => (sasF g (fun x => ps_i μ (m + 4) (40 * k + x)) S σ0 y 3).1 = 1) i)), (0, .ref (m)), (1, .int (nI k))], [], MS μ m 1832 (lastS (fun y => (sasF g (fun x => ps_i μ (m + 4) (40 * k + x)) S σ0 y 3).2) τ i)) := by
  intro n
  induction n with
  | zero =>
    intro i hi
    obtain rfl : i = g := by omega
    have hg := hI.1.1
    refine e_2 rfl rfl ?_
    refine e_4 rfl rfl ?_
    refine m_gangs (by exact hm) rfl rfl ?_
    rw [show (lastS (fun y => (sasF _ (fun x => ps_i μ (m + 4) (40 * k + x)) S σ0 y 3).2) τ _) 8 = nI _ from ((last_s hs (fun _ => sas_same) _) 8 (by omega) (by omega)).trans hI.1.2.1]
    refine e_39 rfl (fun h1 => ?_) (fun h1 => ?_)
    · refine e_4 rfl rfl ?_
      refine e_4 rfl rfl ?_
      refine e_2 rfl rfl ?_
      refine e_v1 rfl (by first | exact hm.1 | assumption | rfl) rfl (by decide) rfl (Nat.le_of_ble_eq_true rfl) (mt_isSo hm hk eS hS (last_s hs (fun _ => sas_same) _) (rowE_of e0) hI hl) ?_
      refine e_30 rfl (fun h2 => ?_) (fun h2 => ?_)
      · refine e_0 rfl ?_
        refine m_pi (by exact hm) rfl rfl (by decide) (by decide) (by decide) ?_
        refine e_2 rfl rfl ?_
        exact e_ri rfl rfl (by rfl) (by first | (rw [h2]; done) | (rw [ne0_1 (so_01 _ _ _) h2]; done))
      · refine e_0 rfl ?_
        refine e_42 rfl ?_
        refine m_pi (by exact hm) rfl rfl (by decide) (by decide) (by decide) ?_
        refine e_2 rfl rfl ?_
        exact e_ri rfl rfl (by rfl) (by first | (rw [h2]; done) | (rw [ne0_1 (so_01 _ _ _) h2]; done))
    · exact absurd (nI_le (Nat.le_refl _) (by omega)) h1
  | succ n ih =>
    intro i hi
    have hg := hI.1.1
    refine e_2 rfl rfl ?_
    refine e_4 rfl rfl ?_
    refine m_gangs (by exact hm) rfl rfl ?_
    rw [show (lastS (fun y => (sasF _ (fun x => ps_i μ (m + 4) (40 * k + x)) S σ0 y 3).2) τ _) 8 = nI _ from ((last_s hs (fun _ => sas_same) _) 8 (by omega) (by omega)).trans hI.1.2.1]
    refine e_39 rfl (fun h1 => ?_) (fun h1 => ?_)
    · exact absurd h1 (nI_ge (by omega) (by omega))
    · refine e_2 rfl rfl ?_
      refine e_4 rfl rfl ?_
      refine e_2 rfl rfl ?_
      refine e_0 rfl ?_
      refine e_2 rfl rfl ?_
      refine e_v3 rfl (by first | exact hm.1 | assumption | rfl) rfl (by decide) rfl (Nat.le_of_ble_eq_true rfl) (mt_isSoAs hm hk eS hS e0 (last_s hs (fun _ => sas_same) i) hI (by omega) ⟨3, by decide, rfl⟩ hl) ?_
      refine e_30 rfl (fun h2 => ?_) (fun h2 => ?_)
      · refine e_0 rfl ?_
        refine e_13 rfl ?_
        refine e_5 rfl rfl ?_
        refine e_8 rfl rfl rfl ?_
        refine e_42 rfl ?_
        refine e_lv [0, 1, 2, 3] rfl rfl ?_
        show ps_To _ _ _ _ (36, [(4, .int _), (3, .int _), (0, .ref _), (1, .int _)], [], _)
        have h := ih (i + 1) (by omega)
        rw [← bitsN_k (p := (fun y => (sasF g (fun x => ps_i μ (m + 4) (40 * k + x)) S σ0 y 3).1 = 1)) (fun z => absurd (z.symm.trans h2) (by decide))] at h
        rw [nI_1]
        exact h
      · refine e_0 rfl ?_
        refine e_2 rfl rfl ?_
        refine e_14 rfl ?_
        refine e_42 rfl ?_
        refine e_13 rfl ?_
        refine e_5 rfl rfl ?_
        refine e_8 rfl rfl rfl ?_
        refine e_42 rfl ?_
        refine e_lv [0, 1, 2, 3] rfl rfl ?_
        show ps_To _ _ _ _ (36, [(4, .int _), (3, .int _), (0, .ref _), (1, .int _)], [], _)
        have h := ih (i + 1) (by omega)
        rw [← bitsN_s (p := (fun y => (sasF g (fun x => ps_i μ (m + 4) (40 * k + x)) S σ0 y 3).1 = 1)) (ne0_1 (so_01 _ _ _) h2) rfl] at h
        rw [nI_1]
        exact h
theorem mt_kinds_loop (hm : isMd μ m) {k S : Nat} (hk : k < 6) (eS : ps_i μ (m + 3) k = nI (2 * S)) (hS : S ≤ 20) (e0 : mdG (ps_i μ) m 0 = σ0) (hs : sameF τ σ0) (hI : shI g σ0) (hl : legP g (fun x => ps_i μ (m + 4) (40 * k + x)) S 0 σ0) {x : Nat} (hx : x < g) : ∀ (n i : Nat), i + n = 6 → ps_To (ps_XX L xs) (ps_Ev (ps_XX L xs) (d + 6)) j_X8_kinds (ps_rt j_X8_kinds (some (.int (bitsN (fun y => (sasF g (fun x => ps_i μ (m + 4) (40 * k + x)) S σ0 x (nI y)).1 = 1) 6))) (MS μ m 1832 (lastS (fun y => (sasF g (fun x => ps_i μ (m + 4) (40 * k + x)) S σ0 x (nI y)).2) τ 6))) (35, [(5, .int (nI i)), (4, .int (bitsN (fun y => (sasF g (fun x => ps_i μ (m + 4) (40 * k + x)) S σ0 x (nI y)).1 = 1) i)), (0, .ref (m)), (1, .int (nI x)), (2, .int (nI k))], [], MS μ m 1832 (lastS (fun y => (sasF g (fun x => ps_i μ (m + 4) (40 * k + x)) S σ0 x (nI y)).2) τ i)) := by
  intro n
  induction n with
  | zero =>
    intro i hi
    obtain rfl : i = 6 := by omega
    skip
    refine e_2 rfl rfl ?_
    refine e_0 rfl ?_
    refine e_39 rfl (fun h1 => ?_) (fun h1 => ?_)
    · refine e_2 rfl rfl ?_
      exact e_ri rfl rfl (by rfl) (rfl)
    · exact absurd (show nI 6 ≤ nI 6 from nI_le (Nat.le_refl _) (by omega)) h1
  | succ n ih =>
    intro i hi
    refine e_2 rfl rfl ?_
    refine e_0 rfl ?_
    refine e_39 rfl (fun h1 => ?_) (fun h1 => ?_)
    · exact absurd (show nI 6 ≤ nI i from h1) (nI_ge (by omega) (by omega))
    · refine e_2 rfl rfl ?_
      refine e_4 rfl rfl ?_
      refine e_2 rfl rfl ?_
      refine e_2 rfl rfl ?_
      refine e_2 rfl rfl ?_
      refine e_v3 rfl (by first | exact hm.1 | assumption | rfl) rfl (by decide) rfl (Nat.le_of_ble_eq_true rfl) (mt_isSoAs hm hk eS hS e0 (last_s hs (fun _ => sas_same) i) hI hx ⟨i, by omega, rfl⟩ hl) ?_
      refine e_30 rfl (fun h2 => ?_) (fun h2 => ?_)
      · refine e_0 rfl ?_
        refine e_13 rfl ?_
        refine e_5 rfl rfl ?_
        refine e_8 rfl rfl rfl ?_
        refine e_42 rfl ?_
        refine e_lv [0, 1, 2, 3, 4] rfl rfl ?_
        show ps_To _ _ _ _ (35, [(5, .int _), (4, .int _), (0, .ref _), (1, .int _), (2, .int _)], [], _)
        have h := ih (i + 1) (by omega)
        rw [← bitsN_k (p := (fun y => (sasF g (fun x => ps_i μ (m + 4) (40 * k + x)) S σ0 x (nI y)).1 = 1)) (fun z => absurd (z.symm.trans h2) (by decide))] at h
        rw [nI_1]
        exact h
      · refine e_0 rfl ?_
        refine e_2 rfl rfl ?_
        refine e_14 rfl ?_
        refine e_42 rfl ?_
        refine e_13 rfl ?_
        refine e_5 rfl rfl ?_
        refine e_8 rfl rfl rfl ?_
        refine e_42 rfl ?_
        refine e_lv [0, 1, 2, 3, 4] rfl rfl ?_
        show ps_To _ _ _ _ (35, [(5, .int _), (4, .int _), (0, .ref _), (1, .int _), (2, .int _)], [], _)
        have h := ih (i + 1) (by omega)
        rw [← bitsN_s (p := (fun y => (sasF g (fun x => ps_i μ (m + 4) (40 * k + x)) S σ0 x (nI y)).1 = 1)) (ne0_1 (so_01 _ _ _) h2) rfl] at h
        rw [nI_1]
        exact h
def lkF (g : Nat) (p : Nat → Int32) (S : Nat) (σ : Nat → Int32) (y : Nat) : Int32 × (Nat → Int32) := soF g p S 0 (upd σ 1 (nI y))
def bits1 (p : Nat → Prop) [DecidablePred p] : Nat → Int32
  | 0 => 0
  | n + 1 => if p (n + 1) then bits1 p n ||| ((1 : Int32) <<< (nI (n + 1) &&& 31)) else bits1 p n
theorem bits1_s {p : Nat → Prop} [DecidablePred p] {n : Nat} {b : Int32} (h : p (n + 1)) (hb : b = (1 : Int32) <<< (nI (n + 1) &&& 31)) : bits1 p n ||| b = bits1 p (n + 1) := by rw [hb]; exact (if_pos h).symm
theorem bits1_k {p : Nat → Prop} [DecidablePred p] {n : Nat} (h : ¬ p (n + 1)) : bits1 p n ||| 0 = bits1 p (n + 1) := (or0 _).trans (if_neg h).symm
def lastL (g : Nat) (p : Nat → Int32) (S : Nat) (σ τ : Nat → Int32) : Nat → (Nat → Int32)
  | 0 => τ
  | n + 1 => (lkF g p S σ (n + 1)).2
theorem lastL_s {g : Nat} {p : Nat → Int32} {S : Nat} {σ τ : Nat → Int32} (h : sameF τ σ) (v : Int32) : ∀ n, sameF (upd (lastL g p S σ τ n) 1 v) (upd σ 1 v)
  | 0 => h.up 1 v
  | n + 1 => fun j h1 h2 => by
    have e := so_same (g := g) (p := p) S 0 (upd σ 1 (nI (n + 1))) sameF.rf j h1 h2
    by_cases z : j = 1
    · subst z; rw [pk_us, pk_us]
    · rw [pk_un z] at e; rw [pk_un z, pk_un z]; exact e
theorem legE_1 {σ : Nat → Int32} {v : Int32} : legE σ (upd σ 1 v) := ⟨(pk_un (by omega)).symm, (pk_un (by omega)).symm, (pk_un (by omega)).symm, (pk_un (by omega)).symm, (pk_un (by omega)).symm⟩
theorem mt_leaks_loop (hm : isMd μ m) {k S : Nat} (hk : k < 6) (eS : ps_i μ (m + 3) k = nI (2 * S)) (hS : S ≤ 20) (e0 : mdG (ps_i μ) m 0 = σ0) (hs : sameF τ σ0) (hI : shI g σ0) (hl : legP g (fun x => ps_i μ (m + 4) (40 * k + x)) S 0 σ0) : ∀ (n i : Nat), i + n = 9 → ps_To (ps_XX L xs) (ps_Ev (ps_XX L xs) (d + 5)) j_X8_leaks (ps_rt j_X8_leaks (some (.int (bits1 (fun y => (lkF g (fun x => ps_i μ (m + 4) (40 * k + x)) S σ0 y).1 = 1) 9))) (MS μ m 1832 (upd (lastL g (fun x => ps_i μ (m + 4) (40 * k + x)) S σ0 τ 9) 1 (σ0 1)))) (42, [(5, .int (nI (i + 1))), (4, .int (bits1 (fun y => (lkF g (fun x => ps_i μ (m + 4) (40 * k + x)) S σ0 y).1 = 1) i)), (3, .int (σ0 1)), (0, .ref (m)), (1, .int (nI k))], [], MS μ m 1832 (lastL g (fun x => ps_i μ (m + 4) (40 * k + x)) S σ0 τ i)) := by
  intro n
  induction n with
  | zero =>
    intro i hi
    obtain rfl : i = 9 := by omega
    skip
    refine e_2 rfl rfl ?_
    refine e_0 rfl ?_
    refine e_39 rfl (fun h1 => ?_) (fun h1 => ?_)
    · refine e_4 rfl rfl ?_
      refine e_2 rfl rfl ?_
      refine m_pleak (by exact hm) rfl rfl ?_
      refine e_2 rfl rfl ?_
      exact e_ri rfl rfl (by rfl) (rfl)
    · exact absurd (show nI 10 ≤ nI 10 from nI_le (Nat.le_refl _) (by omega)) h1
  | succ n ih =>
    intro i hi
    refine e_2 rfl rfl ?_
    refine e_0 rfl ?_
    refine e_39 rfl (fun h1 => ?_) (fun h1 => ?_)
    · exact absurd (show nI 10 ≤ nI (i + 1) from h1) (nI_ge (by omega) (by omega))
    · refine e_4 rfl rfl ?_
      refine e_2 rfl rfl ?_
      refine m_pleak (by exact hm) rfl rfl ?_
      refine e_2 rfl rfl ?_
      refine e_4 rfl rfl ?_
      refine e_2 rfl rfl ?_
      refine e_v1 rfl (by first | exact hm.1 | assumption | rfl) rfl (by decide) rfl (Nat.le_of_ble_eq_true rfl) (mt_isSo hm hk eS hS (lastL_s hs (nI (i + 1)) i) ((rowE_of e0).up (by omega) _) (shI_leak hI _) (legE.leg _ _ _ _ legE_1 hl)) ?_
      refine e_30 rfl (fun h2 => ?_) (fun h2 => ?_)
      · refine e_0 rfl ?_
        refine e_13 rfl ?_
        refine e_5 rfl rfl ?_
        refine e_8 rfl rfl rfl ?_
        refine e_42 rfl ?_
        refine e_lv [0, 1, 2, 3, 4] rfl rfl ?_
        show ps_To _ _ _ _ (42, [(5, .int _), (4, .int _), (3, .int _), (0, .ref _), (1, .int _)], [], _)
        have h := ih (i + 1) (by omega)
        rw [← bits1_k (p := (fun y => (lkF g (fun x => ps_i μ (m + 4) (40 * k + x)) S σ0 y).1 = 1)) (fun z => absurd (z.symm.trans h2) (by decide))] at h
        rw [nI_1]
        exact h
      · refine e_0 rfl ?_
        refine e_2 rfl rfl ?_
        refine e_14 rfl ?_
        refine e_42 rfl ?_
        refine e_13 rfl ?_
        refine e_5 rfl rfl ?_
        refine e_8 rfl rfl rfl ?_
        refine e_42 rfl ?_
        refine e_lv [0, 1, 2, 3, 4] rfl rfl ?_
        show ps_To _ _ _ _ (42, [(5, .int _), (4, .int _), (3, .int _), (0, .ref _), (1, .int _)], [], _)
        have h := ih (i + 1) (by omega)
        rw [← bits1_s (p := (fun y => (lkF g (fun x => ps_i μ (m + 4) (40 * k + x)) S σ0 y).1 = 1)) (ne0_1 (so_01 _ _ _) h2) rfl] at h
        rw [nI_1]
        exact h
end MQA
