-- ===== the ship's methods over its numbers =====
abbrev hasF (σ : Nat → Int32) (a : Int32) : Prop := ¬ a < 0 ∧ ¬ σ 8 ≤ a
abbrev sunkF (σ : Nat → Int32) : Prop := ¬ σ 0 ≤ 99
abbrev overF (σ : Nat → Int32) : Prop := ¬ σ 0 ≤ 99 ∨ ¬ σ 5 < σ 4
abbrev allowsF (σ : Nat → Int32) (a : Int32) : Prop := a = 6 ∨ a = 9 ∨ (a = 7 ∧ 0 < σ 2) ∨ (a = 8 ∧ σ 7 = 0) ∨ (hasF σ a ∧ ¬ a = 6 ∧ ¬ a = 7 ∧ ¬ a = 8 ∧ ¬ a = 9)
abbrev canF (σ : Nat → Int32) (a : Int32) : Prop := 0 < σ 8 ∧ ¬ overF σ ∧ allowsF σ a
/-- a table's entry, 0 outside -/
def tbF (t : Nat) (i : Int32) : Int32 := if ¬ i < 0 ∧ ¬ 6 ≤ i then (ps_tab t).getD i.toNatClampNeg 0 else 0
def behF (kind strength : Int32) : Int32 := if 0 < strength - tbF 2 kind then strength - tbF 2 kind else 0
def pumpF (choke kind strength : Int32) : Int32 := if choke < 5 then (if tbF 2 kind ≤ strength then tbF 1 kind else if kind = 4 then tbF 1 kind else tbF 1 kind / 2) else (if tbF 2 kind ≤ strength then tbF 1 kind else if kind = 4 then tbF 1 kind else tbF 1 kind / 2) / 3
def leakF (σ : Nat → Int32) : Int32 := if σ 7 = 0 then (if 0 < σ 1 + σ 0 / 25 - σ 3 / 2 then σ 1 + σ 0 / 25 - σ 3 / 2 else 0) else (if 0 < σ 1 + σ 0 / 25 - σ 3 / 2 then σ 1 + σ 0 / 25 - σ 3 / 2 else 0) / 2
def tireV (σ : Nat → Int32) (a : Int32) (i : Nat) : Int32 := if nI i = a then behF (σ (9 + i)) (σ (21 + i)) else if σ (15 + i) ≤ σ (21 + i) then σ (21 + i) else σ (21 + i) + 1
def tiU (σ : Nat → Int32) (a : Int32) (n : Nat) : Nat → Int32 := fun k => if 21 ≤ k ∧ k < 21 + n then tireV σ a (k - 21) else σ k
/-- how many gangs, as a number -/
abbrev gF (σ : Nat → Int32) : Nat := (σ 8).toNatClampNeg
section SHM
variable {L : Nat} {xs : Nat → Int32} {d : Nat} {μ : ps_M} {q : Nat} {σ : Nat → Int32}
theorem ss_isSunk (hb : isSh μ q) : ps_Ev (ps_XX L xs) (d + 1) j_X3_isSunk [.ref q] (SM μ q σ) (some (.int (b2i (sunkF σ)))) (SM μ q (σ)) := by
  refine ⟨Nat.le_of_ble_eq_true rfl, ?_⟩
  refine e_4 rfl rfl ?_
  refine s_gi hb rfl rfl (by decide) (by decide) ?_
  refine e_0 rfl ?_
  refine e_41 rfl (fun h1 => ?_) (fun h1 => ?_)
  · refine e_0 rfl ?_
    exact e_rz rfl rfl (by first | decide | exact b2i_01 | assumption) (by first | rfl | (simp only [*, if_true, if_false, ite_true, ite_false, not_true_eq_false, not_false_eq_true, and_true, true_and, and_false, false_and, or_true, true_or, or_false, false_or, Classical.not_not, b2i, reduceIte]; done) | grind [b2i]) (rfl)
  · refine e_0 rfl ?_
    refine e_42 rfl ?_
    exact e_rz rfl rfl (by first | decide | exact b2i_01 | assumption) (by first | rfl | (simp only [*, if_true, if_false, ite_true, ite_false, not_true_eq_false, not_false_eq_true, and_true, true_and, and_false, false_and, or_true, true_or, or_false, false_or, Classical.not_not, b2i, reduceIte]; done) | grind [b2i]) (rfl)
theorem ss_isTimeUp (hb : isSh μ q) : ps_Ev (ps_XX L xs) (d + 1) j_X3_isTimeUp [.ref q] (SM μ q σ) (some (.int (b2i (¬ σ 5 < σ 4)))) (SM μ q (σ)) := by
  refine ⟨Nat.le_of_ble_eq_true rfl, ?_⟩
  refine e_4 rfl rfl ?_
  refine s_gi hb rfl rfl (by decide) (by decide) ?_
  refine e_4 rfl rfl ?_
  refine s_gi hb rfl rfl (by decide) (by decide) ?_
  refine e_38 rfl (fun h1 => ?_) (fun h1 => ?_)
  · refine e_0 rfl ?_
    exact e_rz rfl rfl (by first | decide | exact b2i_01 | assumption) (by first | rfl | (simp only [*, if_true, if_false, ite_true, ite_false, not_true_eq_false, not_false_eq_true, and_true, true_and, and_false, false_and, or_true, true_or, or_false, false_or, Classical.not_not, b2i, reduceIte]; done) | grind [b2i]) (rfl)
  · refine e_0 rfl ?_
    refine e_42 rfl ?_
    exact e_rz rfl rfl (by first | decide | exact b2i_01 | assumption) (by first | rfl | (simp only [*, if_true, if_false, ite_true, ite_false, not_true_eq_false, not_false_eq_true, and_true, true_and, and_false, false_and, or_true, true_or, or_false, false_or, Classical.not_not, b2i, reduceIte]; done) | grind [b2i]) (rfl)
theorem ss_has (hb : isSh μ q) (i : Int32) : ps_Ev (ps_XX L xs) (d + 1) j_X3_has [.ref q, .int i] (SM μ q σ) (some (.int (b2i (hasF σ i)))) (SM μ q (σ)) := by
  refine ⟨Nat.le_of_ble_eq_true rfl, ?_⟩
  refine e_2 rfl rfl ?_
  refine e_32 rfl (fun h1 => ?_) (fun h1 => ?_)
  · refine e_0 rfl ?_
    exact e_rz rfl rfl (by first | decide | exact b2i_01 | assumption) (by first | rfl | (simp only [*, if_true, if_false, ite_true, ite_false, not_true_eq_false, not_false_eq_true, and_true, true_and, and_false, false_and, or_true, true_or, or_false, false_or, Classical.not_not, b2i, reduceIte]; done) | grind [b2i]) (rfl)
  · refine e_2 rfl rfl ?_
    refine e_4 rfl rfl ?_
    refine s_gi hb rfl rfl (by decide) (by decide) ?_
    refine e_39 rfl (fun h2 => ?_) (fun h2 => ?_)
    · refine e_0 rfl ?_
      exact e_rz rfl rfl (by first | decide | exact b2i_01 | assumption) (by first | rfl | (simp only [*, if_true, if_false, ite_true, ite_false, not_true_eq_false, not_false_eq_true, and_true, true_and, and_false, false_and, or_true, true_or, or_false, false_or, Classical.not_not, b2i, reduceIte]; done) | grind [b2i]) (rfl)
    · refine e_0 rfl ?_
      refine e_42 rfl ?_
      exact e_rz rfl rfl (by first | decide | exact b2i_01 | assumption) (by first | rfl | (simp only [*, if_true, if_false, ite_true, ite_false, not_true_eq_false, not_false_eq_true, and_true, true_and, and_false, false_and, or_true, true_or, or_false, false_or, Classical.not_not, b2i, reduceIte]; done) | grind [b2i]) (rfl)
theorem ss_isOver (hb : isSh μ q) : ps_Ev (ps_XX L xs) (d + 2) j_X3_isOver [.ref q] (SM μ q σ) (some (.int (b2i (overF σ)))) (SM μ q (σ)) := by
  refine ⟨Nat.le_of_ble_eq_true rfl, ?_⟩
  refine e_4 rfl rfl ?_
  refine e_v0 rfl (by first | exact hb.1 | assumption | rfl) rfl (by decide) rfl (Nat.le_of_ble_eq_true rfl) (ss_isSunk hb) ?_
  refine e_31b rfl (fun h1 => ?_) (fun h1 => ?_)
  · refine e_0 rfl ?_
    refine e_42 rfl ?_
    exact e_rz rfl rfl (by first | decide | exact b2i_01 | assumption) (by first | rfl | (simp only [*, if_true, if_false, ite_true, ite_false, not_true_eq_false, not_false_eq_true, and_true, true_and, and_false, false_and, or_true, true_or, or_false, false_or, Classical.not_not, b2i, reduceIte]; done) | grind [b2i]) (rfl)
  · refine e_4 rfl rfl ?_
    refine e_v0 rfl (by first | exact hb.1 | assumption | rfl) rfl (by decide) rfl (Nat.le_of_ble_eq_true rfl) (ss_isTimeUp hb) ?_
    refine e_30b rfl (fun h2 => ?_) (fun h2 => ?_)
    · refine e_0 rfl ?_
      exact e_rz rfl rfl (by first | decide | exact b2i_01 | assumption) (by first | rfl | (simp only [*, if_true, if_false, ite_true, ite_false, not_true_eq_false, not_false_eq_true, and_true, true_and, and_false, false_and, or_true, true_or, or_false, false_or, Classical.not_not, b2i, reduceIte]; done) | grind [b2i]) (rfl)
    · refine e_0 rfl ?_
      refine e_42 rfl ?_
      exact e_rz rfl rfl (by first | decide | exact b2i_01 | assumption) (by first | rfl | (simp only [*, if_true, if_false, ite_true, ite_false, not_true_eq_false, not_false_eq_true, and_true, true_and, and_false, false_and, or_true, true_or, or_false, false_or, Classical.not_not, b2i, reduceIte]; done) | grind [b2i]) (rfl)
theorem ss_allows (hb : isSh μ q) (a : Int32) : ps_Ev (ps_XX L xs) (d + 2) j_X3_allows [.ref q, .int a] (SM μ q σ) (some (.int (b2i (allowsF σ a)))) (SM μ q (σ)) := by
  refine ⟨Nat.le_of_ble_eq_true rfl, ?_⟩
  refine e_2 rfl rfl ?_
  refine e_sw rfl rfl (fun h1 => ?_) (fun k t ht h1 => ?_)
  · have h1n6 : ¬ a = 6 := fun q => by subst q; revert h1; decide
    have h1n7 : ¬ a = 7 := fun q => by subst q; revert h1; decide
    have h1n8 : ¬ a = 8 := fun q => by subst q; revert h1; decide
    have h1n9 : ¬ a = 9 := fun q => by subst q; revert h1; decide
    refine e_4 rfl rfl ?_
    refine e_2 rfl rfl ?_
    refine e_v1 rfl (by first | exact hb.1 | assumption | rfl) rfl (by decide) rfl (Nat.le_of_ble_eq_true rfl) (ss_has hb a) ?_
    exact e_rz rfl rfl (by first | decide | exact b2i_01 | assumption) (by first | rfl | (simp only [*, if_true, if_false, ite_true, ite_false, not_true_eq_false, not_false_eq_true, and_true, true_and, and_false, false_and, or_true, true_or, or_false, false_or, Classical.not_not, b2i, reduceIte]; done) | grind [b2i]) (rfl)
  · match k, ht with
    | 0, ht =>
      cases ht
      obtain rfl : a = 6 := Int32.toInt_inj.mp (h1.trans rfl)
      refine e_0 rfl ?_
      exact e_rz rfl rfl (by first | decide | exact b2i_01 | assumption) (by first | rfl | (simp only [*, if_true, if_false, ite_true, ite_false, not_true_eq_false, not_false_eq_true, and_true, true_and, and_false, false_and, or_true, true_or, or_false, false_or, Classical.not_not, b2i, reduceIte]; done) | grind [b2i]) (rfl)
    | 1, ht =>
      cases ht
      obtain rfl : a = 7 := Int32.toInt_inj.mp (h1.trans rfl)
      refine e_4 rfl rfl ?_
      refine s_gi hb rfl rfl (by decide) (by decide) ?_
      refine e_35 rfl (fun h2 => ?_) (fun h2 => ?_)
      · refine e_0 rfl ?_
        exact e_rz rfl rfl (by first | decide | exact b2i_01 | assumption) (by first | rfl | (simp only [*, if_true, if_false, ite_true, ite_false, not_true_eq_false, not_false_eq_true, and_true, true_and, and_false, false_and, or_true, true_or, or_false, false_or, Classical.not_not, b2i, reduceIte]; done) | grind [b2i]) (rfl)
      · refine e_0 rfl ?_
        refine e_42 rfl ?_
        exact e_rz rfl rfl (by first | decide | exact b2i_01 | assumption) (by first | rfl | (simp only [*, if_true, if_false, ite_true, ite_false, not_true_eq_false, not_false_eq_true, and_true, true_and, and_false, false_and, or_true, true_or, or_false, false_or, Classical.not_not, b2i, reduceIte]; done) | grind [b2i]) (rfl)
    | 2, ht =>
      cases ht
      obtain rfl : a = 8 := Int32.toInt_inj.mp (h1.trans rfl)
      refine e_4 rfl rfl ?_
      refine s_gi hb rfl rfl (by decide) (by decide) ?_
      refine e_31 rfl (fun h3 => ?_) (fun h3 => ?_)
      · refine e_0 rfl ?_
        exact e_rz rfl rfl (by first | decide | exact b2i_01 | assumption) (by first | rfl | (simp only [*, if_true, if_false, ite_true, ite_false, not_true_eq_false, not_false_eq_true, and_true, true_and, and_false, false_and, or_true, true_or, or_false, false_or, Classical.not_not, b2i, reduceIte]; done) | grind [b2i]) (rfl)
      · refine e_0 rfl ?_
        refine e_42 rfl ?_
        exact e_rz rfl rfl (by first | decide | exact b2i_01 | assumption) (by first | rfl | (simp only [*, if_true, if_false, ite_true, ite_false, not_true_eq_false, not_false_eq_true, and_true, true_and, and_false, false_and, or_true, true_or, or_false, false_or, Classical.not_not, b2i, reduceIte]; done) | grind [b2i]) (rfl)
    | 3, ht =>
      cases ht
      obtain rfl : a = 9 := Int32.toInt_inj.mp (h1.trans rfl)
      refine e_0 rfl ?_
      exact e_rz rfl rfl (by first | decide | exact b2i_01 | assumption) (by first | rfl | (simp only [*, if_true, if_false, ite_true, ite_false, not_true_eq_false, not_false_eq_true, and_true, true_and, and_false, false_and, or_true, true_or, or_false, false_or, Classical.not_not, b2i, reduceIte]; done) | grind [b2i]) (rfl)
    | k + 4, ht => cases ht
theorem ss_canNow (hb : isSh μ q) (a : Int32) : ps_Ev (ps_XX L xs) (d + 3) j_X3_canNow [.ref q, .int a] (SM μ q σ) (some (.int (b2i (canF σ a)))) (SM μ q (σ)) := by
  refine ⟨Nat.le_of_ble_eq_true rfl, ?_⟩
  refine e_4 rfl rfl ?_
  refine s_gi hb rfl rfl (by decide) (by decide) ?_
  refine e_35 rfl (fun h1 => ?_) (fun h1 => ?_)
  · refine e_0 rfl ?_
    exact e_rz rfl rfl (by first | decide | exact b2i_01 | assumption) (by first | rfl | (simp only [*, if_true, if_false, ite_true, ite_false, not_true_eq_false, not_false_eq_true, and_true, true_and, and_false, false_and, or_true, true_or, or_false, false_or, Classical.not_not, b2i, reduceIte]; done) | grind [b2i]) (rfl)
  · refine e_4 rfl rfl ?_
    refine e_v0 rfl (by first | exact hb.1 | assumption | rfl) rfl (by decide) rfl (Nat.le_of_ble_eq_true rfl) (ss_isOver hb) ?_
    refine e_31b rfl (fun h2 => ?_) (fun h2 => ?_)
    · refine e_0 rfl ?_
      exact e_rz rfl rfl (by first | decide | exact b2i_01 | assumption) (by first | rfl | (simp only [*, if_true, if_false, ite_true, ite_false, not_true_eq_false, not_false_eq_true, and_true, true_and, and_false, false_and, or_true, true_or, or_false, false_or, Classical.not_not, b2i, reduceIte]; done) | grind [b2i]) (rfl)
    · refine e_4 rfl rfl ?_
      refine e_2 rfl rfl ?_
      refine e_v1 rfl (by first | exact hb.1 | assumption | rfl) rfl (by decide) rfl (Nat.le_of_ble_eq_true rfl) (ss_allows hb a) ?_
      refine e_30b rfl (fun h3 => ?_) (fun h3 => ?_)
      · refine e_0 rfl ?_
        exact e_rz rfl rfl (by first | decide | exact b2i_01 | assumption) (by first | rfl | (simp only [*, if_true, if_false, ite_true, ite_false, not_true_eq_false, not_false_eq_true, and_true, true_and, and_false, false_and, or_true, true_or, or_false, false_or, Classical.not_not, b2i, reduceIte]; done) | grind [b2i]) (rfl)
      · refine e_0 rfl ?_
        refine e_42 rfl ?_
        exact e_rz rfl rfl (by first | decide | exact b2i_01 | assumption) (by first | rfl | (simp only [*, if_true, if_false, ite_true, ite_false, not_true_eq_false, not_false_eq_true, and_true, true_and, and_false, false_and, or_true, true_or, or_false, false_or, Classical.not_not, b2i, reduceIte]; done) | grind [b2i]) (rfl)
theorem ps_XXt {t : Nat} (h : t < 4) : ps_XX L xs t = (6, fun i => (ps_tab t).getD i 0) := if_neg (by omega)
theorem ps_in_of {i : Int32} {n : Nat} (hn : n < 2 ^ 31) (h0 : ¬ i < 0) (h1 : ¬ Int32.ofNat n ≤ i) : vp_in i n := by
  intro h
  rcases h with h | h
  · exact h0 h
  · apply h1
    obtain ⟨k, hk, rfl⟩ := nI_of h0
    rw [nI_clamp hk] at h
    exact nI_le h hk
theorem sp_entryX {t : Nat} (ht : t < 4) (i : Int32) : ps_Ev (ps_XX L xs) (d + 1) j_X7_entry [.ref (ps_X + t), .int i] μ (some (.int (tbF t i))) μ := by
  refine ⟨Nat.le_of_ble_eq_true rfl, ?_⟩
  have hX : ps_XX L xs t = (6, fun i => (ps_tab t).getD i 0) := ps_XXt ht
  refine e_2 rfl rfl ?_
  refine e_32 rfl (fun h1 => ?_) (fun h1 => ?_)
  · refine e_0 rfl ?_
    exact e_ri rfl rfl (by unfold tbF; rw [if_neg (fun z => z.1 h1)]) rfl
  · refine e_2 rfl rfl ?_
    refine e_4 rfl rfl ?_
    refine e_54x rfl (by omega) ?_
    rw [hX]
    refine e_39 rfl (fun h2 => ?_) (fun h2 => ?_)
    · refine e_0 rfl ?_
      exact e_ri rfl rfl (by unfold tbF; rw [if_neg (fun z => z.2 h2)]) rfl
    · refine e_4 rfl rfl ?_
      refine e_2 rfl rfl ?_
      refine e_48x rfl (by omega) (by rw [hX]; exact ps_in_of (n := 6) (by decide) h1 h2) ?_
      rw [hX]
      refine e_42 rfl ?_
      exact e_ri rfl rfl (by unfold tbF; rw [if_pos ⟨h1, h2⟩]) rfl
theorem sp_behind (kind strength : Int32) : ps_Ev (ps_XX L xs) (d + 2) j_X7_strengthBehind [.int kind, .int strength] μ (some (.int (behF kind strength))) μ := by
  refine ⟨Nat.le_of_ble_eq_true rfl, ?_⟩
  refine e_0 rfl ?_
  refine e_2 rfl rfl ?_
  refine e_47 rfl ?_
  refine e_2 rfl rfl ?_
  refine e_s2 rfl rfl rfl (Nat.le_of_ble_eq_true rfl) (sp_entryX (t := 2) (by decide) kind) ?_
  refine e_10 rfl ?_
  refine e_66 rfl (Nat.le_of_ble_eq_true rfl) ?_
  exact e_ri rfl rfl (by first | rfl | (simp only [*, if_true, if_false, ite_true, ite_false, not_true_eq_false, not_false_eq_true, and_true, true_and, and_false, false_and, or_true, true_or, or_false, false_or, Classical.not_not, b2i, reduceIte]; done) | grind [b2i]) (rfl)
theorem ss_wouldPump (hb : isSh μ q) (kind strength : Int32) : ps_Ev (ps_XX L xs) (d + 2) j_X3_wouldPump [.ref q, .int kind, .int strength] (SM μ q σ) (some (.int (pumpF (σ 6) kind strength))) (SM μ q (σ)) := by
  refine ⟨Nat.le_of_ble_eq_true rfl, ?_⟩
  refine e_47 rfl ?_
  refine e_2 rfl rfl ?_
  refine e_s2 rfl rfl rfl (Nat.le_of_ble_eq_true rfl) (sp_entryX (t := 1) (by decide) kind) ?_
  refine e_5 rfl rfl ?_
  refine e_2 rfl rfl ?_
  refine e_47 rfl ?_
  refine e_2 rfl rfl ?_
  refine e_s2 rfl rfl rfl (Nat.le_of_ble_eq_true rfl) (sp_entryX (t := 2) (by decide) kind) ?_
  refine e_39 rfl (fun h1 => ?_) (fun h1 => ?_)
  · refine e_4 rfl rfl ?_
    refine s_gi hb rfl rfl (by decide) (by decide) ?_
    refine e_0 rfl ?_
    refine e_38 rfl (fun h2 => ?_) (fun h2 => ?_)
    · refine e_2 rfl rfl ?_
      exact e_ri rfl rfl (by unfold pumpF; grind) (rfl)
    · refine e_2 rfl rfl ?_
      refine e_0 rfl ?_
      refine e_17 rfl (by first | decide | assumption) ?_
      refine e_42 rfl ?_
      exact e_ri rfl rfl (by unfold pumpF; grind) (rfl)
  · refine e_2 rfl rfl ?_
    refine e_0 rfl ?_
    refine e_36 rfl (fun h3 => ?_) (fun h3 => ?_)
    · refine e_4 rfl rfl ?_
      refine s_gi hb rfl rfl (by decide) (by decide) ?_
      refine e_0 rfl ?_
      refine e_38 rfl (fun h4 => ?_) (fun h4 => ?_)
      · refine e_2 rfl rfl ?_
        exact e_ri rfl rfl (by unfold pumpF; grind) (rfl)
      · refine e_2 rfl rfl ?_
        refine e_0 rfl ?_
        refine e_17 rfl (by first | decide | assumption) ?_
        refine e_42 rfl ?_
        exact e_ri rfl rfl (by unfold pumpF; grind) (rfl)
    · refine e_2 rfl rfl ?_
      refine e_0 rfl ?_
      refine e_17 rfl (by first | decide | assumption) ?_
      refine e_5 rfl rfl ?_
      refine e_4 rfl rfl ?_
      refine s_gi hb rfl rfl (by decide) (by decide) ?_
      refine e_0 rfl ?_
      refine e_38 rfl (fun h5 => ?_) (fun h5 => ?_)
      · refine e_2 rfl rfl ?_
        exact e_ri rfl rfl (by unfold pumpF; grind) (rfl)
      · refine e_2 rfl rfl ?_
        refine e_0 rfl ?_
        refine e_17 rfl (by first | decide | assumption) ?_
        refine e_42 rfl ?_
        exact e_ri rfl rfl (by unfold pumpF; grind) (rfl)
theorem ss_wouldLeak (hb : isSh μ q) : ps_Ev (ps_XX L xs) (d + 1) j_X3_wouldLeak [.ref q] (SM μ q σ) (some (.int (leakF σ))) (SM μ q (σ)) := by
  refine ⟨Nat.le_of_ble_eq_true rfl, ?_⟩
  refine e_0 rfl ?_
  refine e_4 rfl rfl ?_
  refine s_gi hb rfl rfl (by decide) (by decide) ?_
  refine e_4 rfl rfl ?_
  refine s_gi hb rfl rfl (by decide) (by decide) ?_
  refine e_0 rfl ?_
  refine e_17 rfl (by first | decide | assumption) ?_
  refine e_9 rfl ?_
  refine e_4 rfl rfl ?_
  refine s_gi hb rfl rfl (by decide) (by decide) ?_
  refine e_0 rfl ?_
  refine e_17 rfl (by first | decide | assumption) ?_
  refine e_10 rfl ?_
  refine e_66 rfl (Nat.le_of_ble_eq_true rfl) ?_
  refine e_5 rfl rfl ?_
  refine e_4 rfl rfl ?_
  refine s_gi hb rfl rfl (by decide) (by decide) ?_
  refine e_30 rfl (fun h1 => ?_) (fun h1 => ?_)
  · refine e_2 rfl rfl ?_
    exact e_ri rfl rfl (by unfold leakF; grind) (rfl)
  · refine e_2 rfl rfl ?_
    refine e_0 rfl ?_
    refine e_17 rfl (by first | decide | assumption) ?_
    refine e_42 rfl ?_
    exact e_ri rfl rfl (by unfold leakF; grind) (rfl)
theorem tiU_lo {a : Int32} {n k : Nat} (h : k < 21) : tiU σ a n k = σ k := if_neg (by omega)
theorem tiU_hi {a : Int32} {n k : Nat} (h : n ≤ k) : tiU σ a n (21 + k) = σ (21 + k) := if_neg (by omega)
theorem tiU_s {a : Int32} {i : Nat} {x : Int32} (hx : x = tireV σ a i) : upd (tiU σ a i) (21 + i) x = tiU σ a (i + 1) := by
  funext k
  unfold upd tiU
  subst hx
  by_cases hk : k = 21 + i
  · subst hk
    rw [if_pos rfl, if_pos (by omega), show 21 + i - 21 = i by omega]
  · rw [if_neg hk]
    by_cases h2 : 21 ≤ k ∧ k < 21 + i
    · rw [if_pos h2, if_pos (by omega)]
    · rw [if_neg h2, if_neg (by omega)]
theorem tiU_0 {a : Int32} : tiU σ a 0 = σ := by
  funext k
  exact if_neg (by omega)
theorem tiU_k {a : Int32} {i : Nat} (hx : σ (21 + i) = tireV σ a i) : tiU σ a i = tiU σ a (i + 1) := by
  rw [← tiU_s hx]
  funext k
  unfold upd
  by_cases hk : k = 21 + i
  · subst hk; rw [if_pos rfl]; exact tiU_hi (Nat.le_refl i)
  · rw [if_neg hk]
theorem ss_tire_loop (hb : isSh μ q) (a : Int32) {g : Nat} (hg : g ≤ 6) (h8 : σ 8 = nI g) : ∀ (n i : Nat), i + n = g → ps_To (ps_XX L xs) (ps_Ev (ps_XX L xs) (d + 2)) j_X3_tire (ps_rt j_X3_tire none (SM μ q (tiU σ a g))) (2, [(2, .int (nI i)), (0, .ref q), (1, .int a)], [], SM μ q (tiU σ a i)) := by
  intro n
  induction n with
  | zero =>
    intro i hi
    obtain rfl : i = g := by omega
    refine e_2 rfl rfl ?_
    refine e_4 rfl rfl ?_
    refine s_gi hb rfl rfl (by decide) (by decide) ?_
    rw [tiU_lo (by decide), h8]
    refine e_39 rfl (fun _ => ?_) (fun h1 => absurd (nI_le (Nat.le_refl i) (by omega)) h1)
    exact e_rv rfl rfl
  | succ n ih =>
    intro i hi
    have hi6 : i < 6 := by omega
    have hin : vp_in (nI i) 6 := vp_in_nI hi6 (by decide)
    have hcl : (nI i).toNatClampNeg = i := nI_clamp (by omega)
    refine e_2 rfl rfl ?_
    refine e_4 rfl rfl ?_
    refine s_gi hb rfl rfl (by decide) (by decide) ?_
    rw [tiU_lo (by decide), h8]
    refine e_39 rfl (fun h1 => absurd h1 (nI_ge (by omega) (by omega))) (fun _ => ?_)
    refine e_2 rfl rfl ?_
    refine e_2 rfl rfl ?_
    refine e_37 rfl (fun h1 => ?_) (fun h1 => ?_)
    · refine e_4 rfl rfl ?_
      refine s_g11 hb rfl rfl ?_
      refine e_2 rfl rfl ?_
      first | refine s_a1 hb (hin) rfl ?_ | refine s_a2 hb (hin) rfl ?_ | refine s_a3 hb (hin) rfl ?_
      refine e_4 rfl rfl ?_
      refine s_g10 hb rfl rfl ?_
      refine e_2 rfl rfl ?_
      first | refine s_a1 hb (hin) rfl ?_ | refine s_a2 hb (hin) rfl ?_ | refine s_a3 hb (hin) rfl ?_
      refine e_39 rfl (fun h2 => ?_) (fun h2 => ?_)
      · refine e_8 rfl rfl rfl ?_
        refine e_42 rfl ?_
        show ps_To _ _ _ _ (2, [(2, .int (nI i + 1)), (0, .ref q), (1, .int a)], [], SM μ q _)
        rw [hcl, tiU_lo (by omega), tiU_hi (Nat.le_refl i)] at h2
        rw [nI_1, tiU_k (i := i) (by unfold tireV; rw [if_neg h1, if_pos h2])]
        exact ih (i + 1) (by omega)
      · refine e_4 rfl rfl ?_
        refine s_g11 hb rfl rfl ?_
        refine e_2 rfl rfl ?_
        refine e_29 rfl rfl rfl ?_
        first | refine s_a1 hb (hin) rfl ?_ | refine s_a2 hb (hin) rfl ?_ | refine s_a3 hb (hin) rfl ?_
        refine e_0 rfl ?_
        refine e_9 rfl ?_
        first | refine s_p1 hb (hin) rfl ?_ | refine s_p2 hb (hin) rfl ?_ | refine s_p3 hb (hin) rfl ?_
        refine e_8 rfl rfl rfl ?_
        refine e_42 rfl ?_
        show ps_To _ _ _ _ (2, [(2, .int (nI i + 1)), (0, .ref q), (1, .int a)], [], SM μ q _)
        rw [hcl, tiU_lo (by omega), tiU_hi (Nat.le_refl i)] at h2
        rw [nI_1, hcl, tiU_hi (Nat.le_refl i), tiU_s (by unfold tireV; rw [if_neg h1, if_neg h2])]
        exact ih (i + 1) (by omega)
    · refine e_4 rfl rfl ?_
      refine s_g11 hb rfl rfl ?_
      refine e_2 rfl rfl ?_
      refine e_4 rfl rfl ?_
      refine s_g9 hb rfl rfl ?_
      refine e_2 rfl rfl ?_
      first | refine s_a1 hb (hin) rfl ?_ | refine s_a2 hb (hin) rfl ?_ | refine s_a3 hb (hin) rfl ?_
      refine e_4 rfl rfl ?_
      refine s_g11 hb rfl rfl ?_
      refine e_2 rfl rfl ?_
      first | refine s_a1 hb (hin) rfl ?_ | refine s_a2 hb (hin) rfl ?_ | refine s_a3 hb (hin) rfl ?_
      refine e_s2 rfl rfl rfl (Nat.le_of_ble_eq_true rfl) (sp_behind _ _) ?_
      first | refine s_p1 hb (hin) rfl ?_ | refine s_p2 hb (hin) rfl ?_ | refine s_p3 hb (hin) rfl ?_
      refine e_42 rfl ?_
      refine e_8 rfl rfl rfl ?_
      refine e_42 rfl ?_
      show ps_To _ _ _ _ (2, [(2, .int (nI i + 1)), (0, .ref q), (1, .int a)], [], SM μ q _)
      rw [nI_1, hcl, tiU_lo (by omega), tiU_hi (Nat.le_refl i), tiU_s (by unfold tireV; rw [if_pos h1])]
      exact ih (i + 1) (by omega)
theorem ss_tire (hb : isSh μ q) (a : Int32) {g : Nat} (hg : g ≤ 6) (h8 : σ 8 = nI g) : ps_Ev (ps_XX L xs) (d + 3) j_X3_tire [.ref q, .int a] (SM μ q σ) none (SM μ q (tiU σ a g)) := by
  refine ⟨Nat.le_of_ble_eq_true rfl, ?_⟩
  refine e_0 rfl ?_
  refine e_5 rfl rfl ?_
  have h := ss_tire_loop (L := L) (xs := xs) (d := d) hb a hg h8 g 0 (by omega)
  rw [tiU_0] at h
  exact h
end SHM
