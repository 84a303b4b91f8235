-- ===== an hour passes =====
def pumpedF (σ : Nat → Int32) (a : Int32) : Int32 := if hasF σ a then pumpF (σ 6) (σ (9 + a.toNatClampNeg)) (σ (21 + a.toNatClampNeg)) else 0
def passF (g : Nat) (σ : Nat → Int32) (a : Int32) : Nat → Int32 :=
  upd (upd (if hasF σ a then upd (tiU σ a g) 6 (σ 6 + tbF 3 (σ (9 + a.toNatClampNeg))) else if a = 6 then upd (tiU σ a g) 6 0 else if a = 7 then upd (upd (tiU σ a g) 2 (σ 2 - 1)) 3 (σ 3 + 1) else if a = 8 then upd (tiU σ a g) 7 1 else tiU σ a g) 0 (if 0 < σ 0 + leakF σ - pumpedF σ a then σ 0 + leakF σ - pumpedF σ a else 0)) 5 (σ 5 + 1)
def restF (g : Nat) (σ : Nat → Int32) (a : Int32) : Nat → Int32 := passF g σ (if allowsF σ a then a else 9)
theorem passF_lo {g : Nat} {σ : Nat → Int32} {a : Int32} {k : Nat} (h : k = 1 ∨ k = 4 ∨ 8 ≤ k) (h2 : k < 21) : passF g σ a k = σ k := by
  have e : tiU σ a g k = σ k := tiU_lo h2
  have u : ∀ (f : Nat → Int32) (i : Nat) (x : Int32), ¬ k = i → upd f i x k = f k := fun f i x hk => if_neg hk
  unfold passF
  rw [u _ _ _ (by omega), u _ _ _ (by omega)]
  split
  · rw [u _ _ _ (by omega)]; exact e
  · split
    · rw [u _ _ _ (by omega)]; exact e
    · split
      · rw [u _ _ _ (by omega), u _ _ _ (by omega)]; exact e
      · split
        · rw [u _ _ _ (by omega)]; exact e
        · exact e
theorem passF_8 {g : Nat} {σ : Nat → Int32} {a : Int32} : passF g σ a 8 = σ 8 := passF_lo (by omega) (by omega)
theorem restF_8 {g : Nat} {σ : Nat → Int32} {a : Int32} : restF g σ a 8 = σ 8 := passF_8
theorem has_in {σ : Nat → Int32} {a : Int32} {g : Nat} (h8 : σ 8 = nI g) (hg : g ≤ 6) (h : hasF σ a) : vp_in a 6 := by
  refine ps_in_of (by decide) h.1 (fun z => h.2 ?_)
  rw [h8]
  exact Int32.le_trans (nI_le hg (by decide)) z
section SHP
variable {L : Nat} {xs : Nat → Int32} {d : Nat} {μ : ps_M} {q : Nat} {σ : Nat → Int32} {g : Nat}
theorem ss_pass (hb : isSh μ q) (hg : g ≤ 6) (h8 : σ 8 = nI g) (a : Int32) : ps_Ev (ps_XX L xs) (d + 4) j_X3_pass [.ref q, .int a] (SM μ q (σ)) none (SM μ q (passF g σ a)) := by
  refine ⟨Nat.le_of_ble_eq_true rfl, ?_⟩
  refine e_4 rfl rfl ?_
  refine e_v0 rfl (by first | exact hb.1 | assumption | rfl) rfl (by decide) rfl (Nat.le_of_ble_eq_true rfl) (ss_wouldLeak hb) ?_
  refine e_5 rfl rfl ?_
  refine e_4 rfl rfl ?_
  refine e_2 rfl rfl ?_
  refine e_v1 rfl (by first | exact hb.1 | assumption | rfl) rfl (by decide) rfl (Nat.le_of_ble_eq_true rfl) (ss_has hb a) ?_
  refine e_30b rfl (fun h1 => ?_) (fun h1 => ?_)
  · refine e_0 rfl ?_
    refine e_5 rfl rfl ?_
    refine e_4 rfl rfl ?_
    refine e_2 rfl rfl ?_
    refine e_v1v rfl (by first | exact hb.1 | assumption | rfl) rfl (by decide) rfl (Nat.le_of_ble_eq_true rfl) (ss_tire hb a hg h8) ?_
    refine e_4 rfl rfl ?_
    refine e_2 rfl rfl ?_
    refine e_v1 rfl (by first | exact hb.1 | assumption | rfl) rfl (by decide) rfl (Nat.le_of_ble_eq_true rfl) (ss_has hb a) ?_
    refine e_30b rfl (fun h2 => ?_) (fun h2 => ?_)
    · refine e_2 rfl rfl ?_
      refine e_0 rfl ?_
      refine e_37 rfl (fun h3 => ?_) (fun h3 => ?_)
      · refine e_2 rfl rfl ?_
        refine e_0 rfl ?_
        refine e_37 rfl (fun h4 => ?_) (fun h4 => ?_)
        · refine e_2 rfl rfl ?_
          refine e_0 rfl ?_
          refine e_37 rfl (fun h5 => ?_) (fun h5 => ?_)
          · refine e_4 rfl rfl ?_
            refine e_0 rfl ?_
            refine e_4 rfl rfl ?_
            refine s_gi hb rfl rfl (by decide) (by decide) ?_
            refine e_2 rfl rfl ?_
            refine e_9 rfl ?_
            refine e_2 rfl rfl ?_
            refine e_10 rfl ?_
            refine e_66 rfl (Nat.le_of_ble_eq_true rfl) ?_
            refine s_pi hb rfl rfl (Or.inl rfl) (by decide) ?_
            refine e_4 rfl rfl ?_
            refine e_28 rfl rfl ?_
            refine s_gi hb rfl rfl (by decide) (by decide) ?_
            refine e_0 rfl ?_
            refine e_9 rfl ?_
            refine s_pi hb rfl rfl (Or.inl rfl) (by decide) ?_
            exact e_rv rfl (by first | exact absurd (show hasF σ a by assumption) (by assumption) | (exact congrArg (SM μ q) (by unfold passF pumpedF; simp only [eq_false h1, eq_false h2, eq_false h3, eq_false h4, eq_false h5, if_true, if_false, reduceIte]; rfl)))
          · refine e_4 rfl rfl ?_
            refine e_0 rfl ?_
            refine s_pi hb rfl rfl (Or.inr ⟨rfl, by first | decide | assumption⟩) (by decide) ?_
            refine e_4 rfl rfl ?_
            refine e_0 rfl ?_
            refine e_4 rfl rfl ?_
            refine s_gi hb rfl rfl (by decide) (by decide) ?_
            refine e_2 rfl rfl ?_
            refine e_9 rfl ?_
            refine e_2 rfl rfl ?_
            refine e_10 rfl ?_
            refine e_66 rfl (Nat.le_of_ble_eq_true rfl) ?_
            refine s_pi hb rfl rfl (Or.inl rfl) (by decide) ?_
            refine e_4 rfl rfl ?_
            refine e_28 rfl rfl ?_
            refine s_gi hb rfl rfl (by decide) (by decide) ?_
            refine e_0 rfl ?_
            refine e_9 rfl ?_
            refine s_pi hb rfl rfl (Or.inl rfl) (by decide) ?_
            exact e_rv rfl (by first | exact absurd (show hasF σ a by assumption) (by assumption) | (exact congrArg (SM μ q) (by unfold passF pumpedF; simp only [eq_false h1, eq_false h2, eq_false h3, eq_false h4, eq_true h5, if_true, if_false, reduceIte]; rfl)))
        · refine e_4 rfl rfl ?_
          refine e_28 rfl rfl ?_
          refine s_gi hb rfl rfl (by decide) (by decide) ?_
          refine e_0 rfl ?_
          refine e_10 rfl ?_
          refine s_pi hb rfl rfl (Or.inl rfl) (by decide) ?_
          refine e_4 rfl rfl ?_
          refine e_28 rfl rfl ?_
          refine s_gi hb rfl rfl (by decide) (by decide) ?_
          refine e_0 rfl ?_
          refine e_9 rfl ?_
          refine s_pi hb rfl rfl (Or.inl rfl) (by decide) ?_
          refine e_42 rfl ?_
          refine e_4 rfl rfl ?_
          refine e_0 rfl ?_
          refine e_4 rfl rfl ?_
          refine s_gi hb rfl rfl (by decide) (by decide) ?_
          refine e_2 rfl rfl ?_
          refine e_9 rfl ?_
          refine e_2 rfl rfl ?_
          refine e_10 rfl ?_
          refine e_66 rfl (Nat.le_of_ble_eq_true rfl) ?_
          refine s_pi hb rfl rfl (Or.inl rfl) (by decide) ?_
          refine e_4 rfl rfl ?_
          refine e_28 rfl rfl ?_
          refine s_gi hb rfl rfl (by decide) (by decide) ?_
          refine e_0 rfl ?_
          refine e_9 rfl ?_
          refine s_pi hb rfl rfl (Or.inl rfl) (by decide) ?_
          exact e_rv rfl (by first | exact absurd (show hasF σ a by assumption) (by assumption) | (exact congrArg (SM μ q) (by unfold passF pumpedF; simp only [eq_false h1, eq_false h2, eq_false h3, eq_true h4, if_true, if_false, reduceIte]; rfl)))
      · refine e_4 rfl rfl ?_
        refine e_0 rfl ?_
        refine s_pi hb rfl rfl (Or.inl rfl) (by decide) ?_
        refine e_42 rfl ?_
        refine e_4 rfl rfl ?_
        refine e_0 rfl ?_
        refine e_4 rfl rfl ?_
        refine s_gi hb rfl rfl (by decide) (by decide) ?_
        refine e_2 rfl rfl ?_
        refine e_9 rfl ?_
        refine e_2 rfl rfl ?_
        refine e_10 rfl ?_
        refine e_66 rfl (Nat.le_of_ble_eq_true rfl) ?_
        refine s_pi hb rfl rfl (Or.inl rfl) (by decide) ?_
        refine e_4 rfl rfl ?_
        refine e_28 rfl rfl ?_
        refine s_gi hb rfl rfl (by decide) (by decide) ?_
        refine e_0 rfl ?_
        refine e_9 rfl ?_
        refine s_pi hb rfl rfl (Or.inl rfl) (by decide) ?_
        exact e_rv rfl (by first | exact absurd (show hasF σ a by assumption) (by assumption) | (exact congrArg (SM μ q) (by unfold passF pumpedF; simp only [eq_false h1, eq_false h2, eq_true h3, if_true, if_false, reduceIte]; rfl)))
    · refine e_4 rfl rfl ?_
      refine e_28 rfl rfl ?_
      refine s_gi hb rfl rfl (by decide) (by decide) ?_
      refine e_47 rfl ?_
      refine e_4 rfl rfl ?_
      refine s_g9 hb rfl rfl ?_
      refine e_2 rfl rfl ?_
      first | refine s_a1 hb (has_in h8 hg (by assumption)) rfl ?_ | refine s_a2 hb (has_in h8 hg (by assumption)) rfl ?_ | refine s_a3 hb (has_in h8 hg (by assumption)) rfl ?_
      rw [tiU_lo (show 9 + a.toNatClampNeg < 21 by have := ps_in6 (has_in h8 hg (show hasF σ a by assumption)); omega)]
      refine e_s2 rfl rfl rfl (Nat.le_of_ble_eq_true rfl) (sp_entryX (t := 3) (by decide) _) ?_
      refine e_9 rfl ?_
      refine s_pi hb rfl rfl (Or.inl rfl) (by decide) ?_
      refine e_42 rfl ?_
      refine e_4 rfl rfl ?_
      refine e_0 rfl ?_
      refine e_4 rfl rfl ?_
      refine s_gi hb rfl rfl (by decide) (by decide) ?_
      refine e_2 rfl rfl ?_
      refine e_9 rfl ?_
      refine e_2 rfl rfl ?_
      refine e_10 rfl ?_
      refine e_66 rfl (Nat.le_of_ble_eq_true rfl) ?_
      refine s_pi hb rfl rfl (Or.inl rfl) (by decide) ?_
      refine e_4 rfl rfl ?_
      refine e_28 rfl rfl ?_
      refine s_gi hb rfl rfl (by decide) (by decide) ?_
      refine e_0 rfl ?_
      refine e_9 rfl ?_
      refine s_pi hb rfl rfl (Or.inl rfl) (by decide) ?_
      exact e_rv rfl (by first | exact absurd (show hasF σ a by assumption) (by assumption) | (exact congrArg (SM μ q) (by unfold passF pumpedF; simp only [eq_false h1, eq_true h2, if_true, if_false, reduceIte]; rfl)))
  · refine e_4 rfl rfl ?_
    refine e_4 rfl rfl ?_
    refine s_g9 hb rfl rfl ?_
    refine e_2 rfl rfl ?_
    first | refine s_a1 hb (has_in h8 hg (by assumption)) rfl ?_ | refine s_a2 hb (has_in h8 hg (by assumption)) rfl ?_ | refine s_a3 hb (has_in h8 hg (by assumption)) rfl ?_
    refine e_4 rfl rfl ?_
    refine s_g11 hb rfl rfl ?_
    refine e_2 rfl rfl ?_
    first | refine s_a1 hb (has_in h8 hg (by assumption)) rfl ?_ | refine s_a2 hb (has_in h8 hg (by assumption)) rfl ?_ | refine s_a3 hb (has_in h8 hg (by assumption)) rfl ?_
    refine e_v2 rfl (by first | exact hb.1 | assumption | rfl) rfl (by decide) rfl (Nat.le_of_ble_eq_true rfl) (ss_wouldPump hb _ _) ?_
    refine e_42 rfl ?_
    refine e_5 rfl rfl ?_
    refine e_4 rfl rfl ?_
    refine e_2 rfl rfl ?_
    refine e_v1v rfl (by first | exact hb.1 | assumption | rfl) rfl (by decide) rfl (Nat.le_of_ble_eq_true rfl) (ss_tire hb a hg h8) ?_
    refine e_4 rfl rfl ?_
    refine e_2 rfl rfl ?_
    refine e_v1 rfl (by first | exact hb.1 | assumption | rfl) rfl (by decide) rfl (Nat.le_of_ble_eq_true rfl) (ss_has hb a) ?_
    refine e_30b rfl (fun h6 => ?_) (fun h6 => ?_)
    · refine e_2 rfl rfl ?_
      refine e_0 rfl ?_
      refine e_37 rfl (fun h7 => ?_) (fun h7 => ?_)
      · refine e_2 rfl rfl ?_
        refine e_0 rfl ?_
        refine e_37 rfl (fun h8 => ?_) (fun h8 => ?_)
        · refine e_2 rfl rfl ?_
          refine e_0 rfl ?_
          refine e_37 rfl (fun h9 => ?_) (fun h9 => ?_)
          · refine e_4 rfl rfl ?_
            refine e_0 rfl ?_
            refine e_4 rfl rfl ?_
            refine s_gi hb rfl rfl (by decide) (by decide) ?_
            refine e_2 rfl rfl ?_
            refine e_9 rfl ?_
            refine e_2 rfl rfl ?_
            refine e_10 rfl ?_
            refine e_66 rfl (Nat.le_of_ble_eq_true rfl) ?_
            refine s_pi hb rfl rfl (Or.inl rfl) (by decide) ?_
            refine e_4 rfl rfl ?_
            refine e_28 rfl rfl ?_
            refine s_gi hb rfl rfl (by decide) (by decide) ?_
            refine e_0 rfl ?_
            refine e_9 rfl ?_
            refine s_pi hb rfl rfl (Or.inl rfl) (by decide) ?_
            exact e_rv rfl (by first | exact absurd (show hasF σ a by assumption) (by assumption) | (exact congrArg (SM μ q) (by unfold passF pumpedF; simp only [eq_true h1, eq_false h6, eq_false h7, eq_false h8, eq_false h9, if_true, if_false, reduceIte]; rfl)))
          · refine e_4 rfl rfl ?_
            refine e_0 rfl ?_
            refine s_pi hb rfl rfl (Or.inr ⟨rfl, by first | decide | assumption⟩) (by decide) ?_
            refine e_4 rfl rfl ?_
            refine e_0 rfl ?_
            refine e_4 rfl rfl ?_
            refine s_gi hb rfl rfl (by decide) (by decide) ?_
            refine e_2 rfl rfl ?_
            refine e_9 rfl ?_
            refine e_2 rfl rfl ?_
            refine e_10 rfl ?_
            refine e_66 rfl (Nat.le_of_ble_eq_true rfl) ?_
            refine s_pi hb rfl rfl (Or.inl rfl) (by decide) ?_
            refine e_4 rfl rfl ?_
            refine e_28 rfl rfl ?_
            refine s_gi hb rfl rfl (by decide) (by decide) ?_
            refine e_0 rfl ?_
            refine e_9 rfl ?_
            refine s_pi hb rfl rfl (Or.inl rfl) (by decide) ?_
            exact e_rv rfl (by first | exact absurd (show hasF σ a by assumption) (by assumption) | (exact congrArg (SM μ q) (by unfold passF pumpedF; simp only [eq_true h1, eq_false h6, eq_false h7, eq_false h8, eq_true h9, if_true, if_false, reduceIte]; rfl)))
        · refine e_4 rfl rfl ?_
          refine e_28 rfl rfl ?_
          refine s_gi hb rfl rfl (by decide) (by decide) ?_
          refine e_0 rfl ?_
          refine e_10 rfl ?_
          refine s_pi hb rfl rfl (Or.inl rfl) (by decide) ?_
          refine e_4 rfl rfl ?_
          refine e_28 rfl rfl ?_
          refine s_gi hb rfl rfl (by decide) (by decide) ?_
          refine e_0 rfl ?_
          refine e_9 rfl ?_
          refine s_pi hb rfl rfl (Or.inl rfl) (by decide) ?_
          refine e_42 rfl ?_
          refine e_4 rfl rfl ?_
          refine e_0 rfl ?_
          refine e_4 rfl rfl ?_
          refine s_gi hb rfl rfl (by decide) (by decide) ?_
          refine e_2 rfl rfl ?_
          refine e_9 rfl ?_
          refine e_2 rfl rfl ?_
          refine e_10 rfl ?_
          refine e_66 rfl (Nat.le_of_ble_eq_true rfl) ?_
          refine s_pi hb rfl rfl (Or.inl rfl) (by decide) ?_
          refine e_4 rfl rfl ?_
          refine e_28 rfl rfl ?_
          refine s_gi hb rfl rfl (by decide) (by decide) ?_
          refine e_0 rfl ?_
          refine e_9 rfl ?_
          refine s_pi hb rfl rfl (Or.inl rfl) (by decide) ?_
          exact e_rv rfl (by first | exact absurd (show hasF σ a by assumption) (by assumption) | (exact congrArg (SM μ q) (by unfold passF pumpedF; simp only [eq_true h1, eq_false h6, eq_false h7, eq_true h8, if_true, if_false, reduceIte]; rfl)))
      · refine e_4 rfl rfl ?_
        refine e_0 rfl ?_
        refine s_pi hb rfl rfl (Or.inl rfl) (by decide) ?_
        refine e_42 rfl ?_
        refine e_4 rfl rfl ?_
        refine e_0 rfl ?_
        refine e_4 rfl rfl ?_
        refine s_gi hb rfl rfl (by decide) (by decide) ?_
        refine e_2 rfl rfl ?_
        refine e_9 rfl ?_
        refine e_2 rfl rfl ?_
        refine e_10 rfl ?_
        refine e_66 rfl (Nat.le_of_ble_eq_true rfl) ?_
        refine s_pi hb rfl rfl (Or.inl rfl) (by decide) ?_
        refine e_4 rfl rfl ?_
        refine e_28 rfl rfl ?_
        refine s_gi hb rfl rfl (by decide) (by decide) ?_
        refine e_0 rfl ?_
        refine e_9 rfl ?_
        refine s_pi hb rfl rfl (Or.inl rfl) (by decide) ?_
        exact e_rv rfl (by first | exact absurd (show hasF σ a by assumption) (by assumption) | (exact congrArg (SM μ q) (by unfold passF pumpedF; simp only [eq_true h1, eq_false h6, eq_true h7, if_true, if_false, reduceIte]; rfl)))
    · refine e_4 rfl rfl ?_
      refine e_28 rfl rfl ?_
      refine s_gi hb rfl rfl (by decide) (by decide) ?_
      refine e_47 rfl ?_
      refine e_4 rfl rfl ?_
      refine s_g9 hb rfl rfl ?_
      refine e_2 rfl rfl ?_
      first | refine s_a1 hb (has_in h8 hg (by assumption)) rfl ?_ | refine s_a2 hb (has_in h8 hg (by assumption)) rfl ?_ | refine s_a3 hb (has_in h8 hg (by assumption)) rfl ?_
      rw [tiU_lo (show 9 + a.toNatClampNeg < 21 by have := ps_in6 (has_in h8 hg (show hasF σ a by assumption)); omega)]
      refine e_s2 rfl rfl rfl (Nat.le_of_ble_eq_true rfl) (sp_entryX (t := 3) (by decide) _) ?_
      refine e_9 rfl ?_
      refine s_pi hb rfl rfl (Or.inl rfl) (by decide) ?_
      refine e_42 rfl ?_
      refine e_4 rfl rfl ?_
      refine e_0 rfl ?_
      refine e_4 rfl rfl ?_
      refine s_gi hb rfl rfl (by decide) (by decide) ?_
      refine e_2 rfl rfl ?_
      refine e_9 rfl ?_
      refine e_2 rfl rfl ?_
      refine e_10 rfl ?_
      refine e_66 rfl (Nat.le_of_ble_eq_true rfl) ?_
      refine s_pi hb rfl rfl (Or.inl rfl) (by decide) ?_
      refine e_4 rfl rfl ?_
      refine e_28 rfl rfl ?_
      refine s_gi hb rfl rfl (by decide) (by decide) ?_
      refine e_0 rfl ?_
      refine e_9 rfl ?_
      refine s_pi hb rfl rfl (Or.inl rfl) (by decide) ?_
      exact e_rv rfl (by first | exact absurd (show hasF σ a by assumption) (by assumption) | (exact congrArg (SM μ q) (by unfold passF pumpedF; simp only [eq_true h1, eq_true h6, if_true, if_false, reduceIte]; rfl)))
theorem ss_passOrRest (hb : isSh μ q) (hg : g ≤ 6) (h8 : σ 8 = nI g) (a : Int32) : ps_Ev (ps_XX L xs) (d + 5) j_X3_passOrRest [.ref q, .int a] (SM μ q (σ)) none (SM μ q (restF g σ a)) := by
  refine ⟨Nat.le_of_ble_eq_true rfl, ?_⟩
  refine e_4 rfl rfl ?_
  refine e_4 rfl rfl ?_
  refine e_2 rfl rfl ?_
  refine e_v1 rfl (by first | exact hb.1 | assumption | rfl) rfl (by decide) rfl (Nat.le_of_ble_eq_true rfl) (ss_allows hb a) ?_
  refine e_30b rfl (fun h1 => ?_) (fun h1 => ?_)
  · refine e_0 rfl ?_
    refine e_v1v rfl (by first | exact hb.1 | assumption | rfl) rfl (by decide) rfl (Nat.le_of_ble_eq_true rfl) (ss_pass hb hg h8 _) ?_
    exact e_rv rfl (by unfold restF; first | rw [if_neg h1] | rw [if_pos h1])
  · refine e_2 rfl rfl ?_
    refine e_42 rfl ?_
    refine e_v1v rfl (by first | exact hb.1 | assumption | rfl) rfl (by decide) rfl (Nat.le_of_ble_eq_true rfl) (ss_pass hb hg h8 _) ?_
    exact e_rv rfl (by unfold restF; first | rw [if_neg h1] | rw [if_pos h1])
/-- an act again and again -/
def againF (g : Nat) (a : Int32) : Nat → (Nat → Int32) → (Nat → Int32)
  | 0, σ => σ
  | n + 1, σ => if overF σ then σ else againF g a n (restF g σ a)
theorem ss_again_loop (hb : isSh μ q) (hg : g ≤ 6) (a : Int32) {N : Nat} (hN : N < 2 ^ 31) : ∀ (n i : Nat) (σ : Nat → Int32), i + n = N → σ 8 = nI g → ps_To (ps_XX L xs) (ps_Ev (ps_XX L xs) (d + 5)) j_X3_passAgain (ps_rt j_X3_passAgain none (SM μ q (againF g a n σ))) (2, [(3, .int (nI i)), (0, .ref q), (1, .int a), (2, .int (nI N))], [], SM μ q σ) := by
  intro n
  induction n with
  | zero =>
    intro i σ hi h8
    obtain rfl : i = N := by omega
    refine e_2 rfl rfl ?_
    refine e_2 rfl rfl ?_
    refine e_39 rfl (fun _ => ?_) (fun h1 => absurd (nI_le (Nat.le_refl i) hN) h1)
    exact e_rv rfl rfl
  | succ n ih =>
    intro i σ hi h8
    refine e_2 rfl rfl ?_
    refine e_2 rfl rfl ?_
    refine e_39 rfl (fun h1 => absurd h1 (nI_ge (by omega) hN)) (fun _ => ?_)
    refine e_4 rfl rfl ?_
    refine e_v0 rfl (by first | exact hb.1 | assumption | rfl) rfl (by decide) rfl (Nat.le_of_ble_eq_true rfl) (ss_isOver hb) ?_
    refine e_31b rfl (fun h1 => ?_) (fun h1 => ?_)
    · exact e_rv rfl (by unfold againF; rw [if_pos h1])
    · refine e_4 rfl rfl ?_
      refine e_2 rfl rfl ?_
      refine e_v1v rfl (by first | exact hb.1 | assumption | rfl) rfl (by decide) rfl (Nat.le_of_ble_eq_true rfl) (ss_passOrRest hb hg h8 a) ?_
      refine e_8 rfl rfl rfl ?_
      refine e_42 rfl ?_
      show ps_To _ _ _ _ (2, [(3, .int (nI i + 1)), (0, .ref q), (1, .int a), (2, .int (nI N))], [], SM μ q _)
      rw [nI_1]
      have h := ih (i + 1) (restF g σ a) (by omega) (restF_8.trans h8)
      unfold againF
      rw [if_neg h1]
      exact h
theorem ss_passAgain (hb : isSh μ q) (hg : g ≤ 6) (h8 : σ 8 = nI g) (a : Int32) {N : Nat} (hN : N < 2 ^ 31) : ps_Ev (ps_XX L xs) (d + 6) j_X3_passAgain [.ref q, .int a, .int (nI N)] (SM μ q (σ)) none (SM μ q (againF g a N σ)) := by
  refine ⟨Nat.le_of_ble_eq_true rfl, ?_⟩
  refine e_0 rfl ?_
  refine e_5 rfl rfl ?_
  exact ss_again_loop hb hg a hN N 0 σ (by omega) h8
theorem ss_passByChance (hb : isSh μ q) (hg : g ≤ 6) (h8 : σ 8 = nI g) (a c : Int32) : ps_Ev (ps_XX L xs) (d + 6) j_X3_passByChance [.ref q, .int a, .int c] (SM μ q (σ)) none (SM μ q (if overF σ then σ else if ¬ c = 0 ∧ hasF σ a then restF g (upd σ 6 (if σ 6 < 5 then 5 else σ 6)) a else restF g σ a)) := by
  refine ⟨Nat.le_of_ble_eq_true rfl, ?_⟩
  refine e_4 rfl rfl ?_
  refine e_v0 rfl (by first | exact hb.1 | assumption | rfl) rfl (by decide) rfl (Nat.le_of_ble_eq_true rfl) (ss_isOver hb) ?_
  refine e_30b rfl (fun h1 => ?_) (fun h1 => ?_)
  · refine e_2 rfl rfl ?_
    refine e_30 rfl (fun h2 => ?_) (fun h2 => ?_)
    · refine e_4 rfl rfl ?_
      refine e_2 rfl rfl ?_
      refine e_v1v rfl (by first | exact hb.1 | assumption | rfl) rfl (by decide) rfl (Nat.le_of_ble_eq_true rfl) (ss_passOrRest hb hg (by exact h8) a) ?_
      exact e_rv rfl (congrArg (SM μ q) (by simp only [eq_false h1, eq_true h2, if_true, if_false, and_true, true_and, and_false, false_and, not_true_eq_false, not_false_eq_true, reduceIte]))
    · refine e_4 rfl rfl ?_
      refine e_2 rfl rfl ?_
      refine e_v1 rfl (by first | exact hb.1 | assumption | rfl) rfl (by decide) rfl (Nat.le_of_ble_eq_true rfl) (ss_has hb a) ?_
      refine e_30b rfl (fun h3 => ?_) (fun h3 => ?_)
      · refine e_4 rfl rfl ?_
        refine e_2 rfl rfl ?_
        refine e_v1v rfl (by first | exact hb.1 | assumption | rfl) rfl (by decide) rfl (Nat.le_of_ble_eq_true rfl) (ss_passOrRest hb hg (by exact h8) a) ?_
        exact e_rv rfl (congrArg (SM μ q) (by simp only [eq_false h1, eq_false h2, eq_false h3, if_true, if_false, and_true, true_and, and_false, false_and, not_true_eq_false, not_false_eq_true, reduceIte]))
      · refine e_4 rfl rfl ?_
        refine e_4 rfl rfl ?_
        refine s_gi hb rfl rfl (by decide) (by decide) ?_
        refine e_0 rfl ?_
        refine e_66 rfl (Nat.le_of_ble_eq_true rfl) ?_
        refine s_pi hb rfl rfl (Or.inl rfl) (by decide) ?_
        refine e_4 rfl rfl ?_
        refine e_2 rfl rfl ?_
        refine e_v1v rfl (by first | exact hb.1 | assumption | rfl) rfl (by decide) rfl (Nat.le_of_ble_eq_true rfl) (ss_passOrRest hb hg (by exact h8) a) ?_
        exact e_rv rfl (congrArg (SM μ q) (by simp only [eq_false h1, eq_false h2, eq_true h3, if_true, if_false, and_true, true_and, and_false, false_and, not_true_eq_false, not_false_eq_true, reduceIte]))
  · exact e_rv rfl (congrArg (SM μ q) (by simp only [eq_true h1, if_true, if_false, and_true, true_and, and_false, false_and, not_true_eq_false, not_false_eq_true, reduceIte]))
/-- strengths no more than forces -/
def limU (σ : Nat → Int32) (n : Nat) : Nat → Int32 := fun k => if 21 ≤ k ∧ k < 21 + n then (if σ (k - 6) < σ k then σ (k - 6) else σ k) else σ k
theorem limU_lo {n k : Nat} (h : k < 21) : limU σ n k = σ k := if_neg (by omega)
theorem limU_hi {n k : Nat} (h : n ≤ k) : limU σ n (21 + k) = σ (21 + k) := if_neg (by omega)
theorem limU_0 : limU σ 0 = σ := by
  funext k
  exact if_neg (by omega)
theorem limU_s {i : Nat} {x : Int32} (hx : x = if σ (15 + i) < σ (21 + i) then σ (15 + i) else σ (21 + i)) : upd (limU σ i) (21 + i) x = limU σ (i + 1) := by
  funext k
  unfold upd limU
  subst hx
  by_cases hk : k = 21 + i
  · subst hk
    rw [if_pos rfl, if_pos (show 21 ≤ 21 + i ∧ 21 + i < 21 + (i + 1) by omega), show 21 + i - 6 = 15 + i by omega]
  · rw [if_neg hk]
    by_cases h2 : 21 ≤ k ∧ k < 21 + i
    · rw [if_pos h2, if_pos (show 21 ≤ k ∧ k < 21 + (i + 1) by omega)]
    · rw [if_neg h2, if_neg (show ¬ (21 ≤ k ∧ k < 21 + (i + 1)) by omega)]
theorem ss_limit_loop (hb : isSh μ q) (hg : g ≤ 6) (h8 : σ 8 = nI g) : ∀ (n i : Nat), i + n = g → ps_To (ps_XX L xs) (ps_Ev (ps_XX L xs) d) j_X3_limitStrengths (ps_rt j_X3_limitStrengths none (SM μ q (limU σ g))) (2, [(1, .int (nI i)), (0, .ref q)], [], SM μ q (limU σ i)) := by
  intro n
  induction n with
  | zero =>
    intro i hi
    obtain rfl : i = g := by omega
    refine e_2 rfl rfl ?_
    refine e_4 rfl rfl ?_
    refine s_gi hb rfl rfl (by decide) (by decide) ?_
    rw [limU_lo (by decide), h8]
    refine e_39 rfl (fun _ => ?_) (fun h1 => absurd (nI_le (Nat.le_refl i) (by omega)) h1)
    exact e_rv rfl rfl
  | succ n ih =>
    intro i hi
    have hi6 : i < 6 := by omega
    have hin : vp_in (nI i) 6 := vp_in_nI hi6 (by decide)
    have hcl : (nI i).toNatClampNeg = i := nI_clamp (by omega)
    refine e_2 rfl rfl ?_
    refine e_4 rfl rfl ?_
    refine s_gi hb rfl rfl (by decide) (by decide) ?_
    rw [limU_lo (by decide), h8]
    refine e_39 rfl (fun h1 => absurd h1 (nI_ge (by omega) (by omega))) (fun _ => ?_)
    refine e_4 rfl rfl ?_
    refine s_g11 hb rfl rfl ?_
    refine e_2 rfl rfl ?_
    refine e_4 rfl rfl ?_
    refine s_g11 hb rfl rfl ?_
    refine e_2 rfl rfl ?_
    first | refine s_a1 hb (hin) rfl ?_ | refine s_a2 hb (hin) rfl ?_ | refine s_a3 hb (hin) rfl ?_
    refine e_4 rfl rfl ?_
    refine s_g10 hb rfl rfl ?_
    refine e_2 rfl rfl ?_
    first | refine s_a1 hb (hin) rfl ?_ | refine s_a2 hb (hin) rfl ?_ | refine s_a3 hb (hin) rfl ?_
    refine e_67 rfl (Nat.le_of_ble_eq_true rfl) ?_
    first | refine s_p1 hb (hin) rfl ?_ | refine s_p2 hb (hin) rfl ?_ | refine s_p3 hb (hin) rfl ?_
    refine e_8 rfl rfl rfl ?_
    refine e_42 rfl ?_
    show ps_To _ _ _ _ (2, [(1, .int (nI i + 1)), (0, .ref q)], [], SM μ q _)
    rw [nI_1, hcl, limU_hi (Nat.le_refl i), limU_lo (by omega), limU_s rfl]
    exact ih (i + 1) (by omega)
theorem ss_limit (hb : isSh μ q) (hg : g ≤ 6) (h8 : σ 8 = nI g) : ps_Ev (ps_XX L xs) (d + 1) j_X3_limitStrengths [.ref q] (SM μ q (σ)) none (SM μ q (limU σ g)) := by
  refine ⟨Nat.le_of_ble_eq_true rfl, ?_⟩
  refine e_0 rfl ?_
  refine e_5 rfl rfl ?_
  have h := ss_limit_loop (L := L) (xs := xs) (d := d) hb hg h8 g 0 (by omega)
  rw [limU_0] at h
  exact h
end SHP
