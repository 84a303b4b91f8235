-- ===== sums and sets of a ship; follow; launch; enlist =====
def psum (f : Nat → Int32) : Nat → Int32
  | 0 => 0
  | n + 1 => psum f n + f n
def bitsN (p : Nat → Prop) [DecidablePred p] : Nat → Int32
  | 0 => 0
  | n + 1 => if p n then bitsN p n ||| ((1 : Int32) <<< (nI n &&& 31)) else bitsN p n
def cntN (p : Nat → Prop) [DecidablePred p] : Nat → Int32
  | 0 => 0
  | n + 1 => cntN p n + (if p n then 1 else 0)
abbrev isOfF (own kind : Int32) : Prop := own = kind ∨ (own = 4 ∧ kind = 1) ∨ (own = 5 ∧ kind = 2)
section SHQ
variable {L : Nat} {xs : Nat → Int32} {d : Nat} {μ : ps_M} {q : Nat} {σ : Nat → Int32} {g : Nat}
theorem ss_sum_loop (hb : isSh μ q) (hg : g ≤ 6) (h8 : σ 8 = nI g) : ∀ (n i : Nat), i + n = g → ps_To (ps_XX L xs) (ps_Ev (ps_XX L xs) (d + 0)) j_X3_sumStrengths (ps_rt j_X3_sumStrengths (some (.int (psum (fun k => σ (21 + k)) g))) (SM μ q σ)) (4, [(2, .int (nI i)), (1, .int (psum (fun k => σ (21 + k)) i)), (0, .ref q)], [], SM μ q σ) := by
  intro n
  induction n with
  | zero =>
    intro i hi
    obtain rfl : i = g := by omega
    refine e_2 rfl rfl ?_
    refine e_4 rfl rfl ?_
    refine s_gi hb rfl rfl (by decide) (by decide) ?_
    rw [h8]
    refine e_39 rfl (fun _ => ?_) (fun h1 => absurd (nI_le (Nat.le_refl _) (by omega)) h1)
    refine e_2 rfl rfl ?_
    exact e_ri rfl rfl (by rfl) (rfl)
  | succ n ih =>
    intro i hi
    have hin : vp_in (nI i) 6 := vp_in_nI (by omega) (by decide)
    have hcl : (nI i).toNatClampNeg = i := nI_clamp (by omega)
    refine e_2 rfl rfl ?_
    refine e_4 rfl rfl ?_
    refine s_gi hb rfl rfl (by decide) (by decide) ?_
    rw [h8]
    refine e_39 rfl (fun h1 => absurd h1 (nI_ge (by omega) (by omega))) (fun _ => ?_)
    refine e_2 rfl rfl ?_
    refine e_4 rfl rfl ?_
    refine s_g11 hb rfl rfl ?_
    refine e_2 rfl rfl ?_
    first | refine s_a1 hb (hin) rfl ?_ | refine s_a2 hb (hin) rfl ?_ | refine s_a3 hb (hin) rfl ?_
    refine e_9 rfl ?_
    refine e_5 rfl rfl ?_
    refine e_8 rfl rfl rfl ?_
    refine e_42 rfl ?_
    show ps_To _ _ _ _ (4, [(2, .int (nI i + 1)), (1, .int (psum (fun k => σ (21 + k)) i + σ (21 + (nI i).toNatClampNeg))), (0, .ref q)], [], SM μ q _)
    rw [nI_1, hcl]
    exact ih (i + 1) (by omega)
theorem ss_sum (hb : isSh μ q) (hg : g ≤ 6) (h8 : σ 8 = nI g) : ps_Ev (ps_XX L xs) (d + 1) j_X3_sumStrengths [.ref q] (SM μ q (σ)) (some (.int (psum (fun k => σ (21 + k)) g))) (SM μ q (σ)) := by
  refine ⟨Nat.le_of_ble_eq_true rfl, ?_⟩
  refine e_0 rfl ?_
  refine e_5 rfl rfl ?_
  refine e_0 rfl ?_
  refine e_5 rfl rfl ?_
  exact ss_sum_loop hb hg h8 g 0 (by omega)
theorem ss_cnt_loop (hb : isSh μ q) (hg : g ≤ 6) (h8 : σ 8 = nI g) (kind : Int32) : ∀ (n i : Nat), i + n = g → ps_To (ps_XX L xs) (ps_Ev (ps_XX L xs) (d + 1)) j_X3_countOf (ps_rt j_X3_countOf (some (.int (cntN (fun k => isOfF (σ (9 + k)) kind) g))) (SM μ q σ)) (4, [(3, .int (nI i)), (2, .int (cntN (fun k => isOfF (σ (9 + k)) kind) i)), (0, .ref q), (1, .int kind)], [], SM μ q σ) := by
  intro n
  induction n with
  | zero =>
    intro i hi
    obtain rfl : i = g := by omega
    refine e_2 rfl rfl ?_
    refine e_4 rfl rfl ?_
    refine s_gi hb rfl rfl (by decide) (by decide) ?_
    rw [h8]
    refine e_39 rfl (fun _ => ?_) (fun h1 => absurd (nI_le (Nat.le_refl _) (by omega)) h1)
    refine e_2 rfl rfl ?_
    exact e_ri rfl rfl (by rfl) (rfl)
  | succ n ih =>
    intro i hi
    have hin : vp_in (nI i) 6 := vp_in_nI (by omega) (by decide)
    have hcl : (nI i).toNatClampNeg = i := nI_clamp (by omega)
    refine e_2 rfl rfl ?_
    refine e_4 rfl rfl ?_
    refine s_gi hb rfl rfl (by decide) (by decide) ?_
    rw [h8]
    refine e_39 rfl (fun h1 => absurd h1 (nI_ge (by omega) (by omega))) (fun _ => ?_)
    refine e_2 rfl rfl ?_
    refine e_4 rfl rfl ?_
    refine s_g9 hb rfl rfl ?_
    refine e_2 rfl rfl ?_
    first | refine s_a1 hb (hin) rfl ?_ | refine s_a2 hb (hin) rfl ?_ | refine s_a3 hb (hin) rfl ?_
    refine e_2 rfl rfl ?_
    refine e_s2 rfl rfl rfl (Nat.le_of_ble_eq_true rfl) (sp_isOf _ _) ?_
    refine e_30b rfl (fun h1 => ?_) (fun h1 => ?_)
    · refine e_0 rfl ?_
      refine e_9 rfl ?_
      refine e_5 rfl rfl ?_
      refine e_8 rfl rfl rfl ?_
      refine e_42 rfl ?_
      show ps_To _ _ _ _ (4, [(3, .int (nI i + 1)), (2, .int (cntN (fun k => isOfF (σ (9 + k)) kind) i + 0)), (0, .ref q), (1, .int kind)], [], SM μ q _)
      have h := ih (i + 1) (by omega)
      simp only [cntN] at h
      rw [if_neg (by rw [hcl] at h1; exact h1)] at h
      rw [nI_1]
      exact h
    · refine e_0 rfl ?_
      refine e_42 rfl ?_
      refine e_9 rfl ?_
      refine e_5 rfl rfl ?_
      refine e_8 rfl rfl rfl ?_
      refine e_42 rfl ?_
      show ps_To _ _ _ _ (4, [(3, .int (nI i + 1)), (2, .int (cntN (fun k => isOfF (σ (9 + k)) kind) i + 1)), (0, .ref q), (1, .int kind)], [], SM μ q _)
      have h := ih (i + 1) (by omega)
      simp only [cntN] at h
      rw [if_pos (by rw [hcl] at h1; exact h1)] at h
      rw [nI_1]
      exact h
theorem ss_cnt (hb : isSh μ q) (hg : g ≤ 6) (h8 : σ 8 = nI g) (kind : Int32) : ps_Ev (ps_XX L xs) (d + 2) j_X3_countOf [.ref q, .int kind] (SM μ q (σ)) (some (.int (cntN (fun k => isOfF (σ (9 + k)) kind) g))) (SM μ q (σ)) := by
  refine ⟨Nat.le_of_ble_eq_true rfl, ?_⟩
  refine e_0 rfl ?_
  refine e_5 rfl rfl ?_
  refine e_0 rfl ?_
  refine e_5 rfl rfl ?_
  exact ss_cnt_loop hb hg h8 kind g 0 (by omega)
theorem ss_sng_loop (hb : isSh μ q) (hg : g ≤ 6) (h8 : σ 8 = nI g) : ∀ (n i : Nat), i + n = g → ps_To (ps_XX L xs) (ps_Ev (ps_XX L xs) (d + 1)) j_X3_countSingers (ps_rt j_X3_countSingers (some (.int (cntN (fun k => isOfF (σ (9 + k)) 2 ∧ ¬ σ (21 + k) < tbF 2 (σ (9 + k))) g))) (SM μ q σ)) (4, [(2, .int (nI i)), (1, .int (cntN (fun k => isOfF (σ (9 + k)) 2 ∧ ¬ σ (21 + k) < tbF 2 (σ (9 + k))) i)), (0, .ref q)], [], SM μ q σ) := by
  intro n
  induction n with
  | zero =>
    intro i hi
    obtain rfl : i = g := by omega
    refine e_2 rfl rfl ?_
    refine e_4 rfl rfl ?_
    refine s_gi hb rfl rfl (by decide) (by decide) ?_
    rw [h8]
    refine e_39 rfl (fun _ => ?_) (fun h1 => absurd (nI_le (Nat.le_refl _) (by omega)) h1)
    refine e_2 rfl rfl ?_
    exact e_ri rfl rfl (by rfl) (rfl)
  | succ n ih =>
    intro i hi
    have hin : vp_in (nI i) 6 := vp_in_nI (by omega) (by decide)
    have hcl : (nI i).toNatClampNeg = i := nI_clamp (by omega)
    refine e_2 rfl rfl ?_
    refine e_4 rfl rfl ?_
    refine s_gi hb rfl rfl (by decide) (by decide) ?_
    rw [h8]
    refine e_39 rfl (fun h1 => absurd h1 (nI_ge (by omega) (by omega))) (fun _ => ?_)
    refine e_4 rfl rfl ?_
    refine s_g9 hb rfl rfl ?_
    refine e_2 rfl rfl ?_
    first | refine s_a1 hb (hin) rfl ?_ | refine s_a2 hb (hin) rfl ?_ | refine s_a3 hb (hin) rfl ?_
    refine e_0 rfl ?_
    refine e_s2 rfl rfl rfl (Nat.le_of_ble_eq_true rfl) (sp_isOf _ _) ?_
    refine e_30b rfl (fun h1 => ?_) (fun h1 => ?_)
    · refine e_8 rfl rfl rfl ?_
      refine e_42 rfl ?_
      show ps_To _ _ _ _ (4, [(2, .int (nI i + 1)), (1, .int (cntN (fun k => isOfF (σ (9 + k)) 2 ∧ ¬ σ (21 + k) < tbF 2 (σ (9 + k))) i)), (0, .ref q)], [], SM μ q _)
      have h := ih (i + 1) (by omega)
      simp only [cntN] at h
      rw [if_neg (show ¬ (isOfF (σ (9 + i)) 2 ∧ ¬ σ (21 + i) < tbF 2 (σ (9 + i))) from fun z => h1 (by rw [hcl]; exact z.1)), Int32.add_zero] at h
      rw [nI_1]
      exact h
    · refine e_4 rfl rfl ?_
      refine s_g11 hb rfl rfl ?_
      refine e_2 rfl rfl ?_
      first | refine s_a1 hb (hin) rfl ?_ | refine s_a2 hb (hin) rfl ?_ | refine s_a3 hb (hin) rfl ?_
      refine e_47 rfl ?_
      refine e_4 rfl rfl ?_
      refine s_g9 hb rfl rfl ?_
      refine e_2 rfl rfl ?_
      first | refine s_a1 hb (hin) rfl ?_ | refine s_a2 hb (hin) rfl ?_ | refine s_a3 hb (hin) rfl ?_
      refine e_s2 rfl rfl rfl (Nat.le_of_ble_eq_true rfl) (sp_entryX (t := 2) (by decide) _) ?_
      refine e_38 rfl (fun h2 => ?_) (fun h2 => ?_)
      · refine e_8 rfl rfl rfl ?_
        refine e_42 rfl ?_
        show ps_To _ _ _ _ (4, [(2, .int (nI i + 1)), (1, .int (cntN (fun k => isOfF (σ (9 + k)) 2 ∧ ¬ σ (21 + k) < tbF 2 (σ (9 + k))) i)), (0, .ref q)], [], SM μ q _)
        have h := ih (i + 1) (by omega)
        simp only [cntN] at h
        rw [if_neg (show ¬ (isOfF (σ (9 + i)) 2 ∧ ¬ σ (21 + i) < tbF 2 (σ (9 + i))) from fun z => z.2 (by rw [hcl] at h2; exact h2)), Int32.add_zero] at h
        rw [nI_1]
        exact h
      · refine e_8 rfl rfl rfl ?_
        refine e_8 rfl rfl rfl ?_
        refine e_42 rfl ?_
        show ps_To _ _ _ _ (4, [(2, .int (nI i + 1)), (1, .int (cntN (fun k => isOfF (σ (9 + k)) 2 ∧ ¬ σ (21 + k) < tbF 2 (σ (9 + k))) i + 1)), (0, .ref q)], [], SM μ q _)
        have h := ih (i + 1) (by omega)
        simp only [cntN] at h
        rw [if_pos (show (isOfF (σ (9 + i)) 2 ∧ ¬ σ (21 + i) < tbF 2 (σ (9 + i))) from ⟨by rw [hcl] at h1; exact h1, by rw [hcl] at h2; exact h2⟩)] at h
        rw [nI_1]
        exact h
theorem ss_singers (hb : isSh μ q) (hg : g ≤ 6) (h8 : σ 8 = nI g) : ps_Ev (ps_XX L xs) (d + 2) j_X3_countSingers [.ref q] (SM μ q (σ)) (some (.int (cntN (fun k => isOfF (σ (9 + k)) 2 ∧ ¬ σ (21 + k) < tbF 2 (σ (9 + k))) g))) (SM μ q (σ)) := by
  refine ⟨Nat.le_of_ble_eq_true rfl, ?_⟩
  refine e_0 rfl ?_
  refine e_5 rfl rfl ?_
  refine e_0 rfl ?_
  refine e_5 rfl rfl ?_
  exact ss_sng_loop hb hg h8 g 0 (by omega)
theorem ss_set_loop (hb : isSh μ q) : ∀ (n i : Nat), i + n = 10 → ps_To (ps_XX L xs) (ps_Ev (ps_XX L xs) (d + 3)) j_X3_setOfActs (ps_rt j_X3_setOfActs (some (.int (bitsN (fun k => canF σ (nI k)) 10))) (SM μ q σ)) (4, [(2, .int (nI i)), (1, .int (bitsN (fun k => canF σ (nI k)) i)), (0, .ref q)], [], SM μ q σ) := by
  intro n
  induction n with
  | zero =>
    intro i hi
    obtain rfl : i = 10 := by omega
    refine e_2 rfl rfl ?_
    refine e_0 rfl ?_
    rw [show (10 : Int32) = nI 10 from rfl]
    refine e_39 rfl (fun _ => ?_) (fun h1 => absurd (nI_le (Nat.le_refl _) (by omega)) h1)
    refine e_2 rfl rfl ?_
    exact e_ri rfl rfl (by rfl) (rfl)
  | succ n ih =>
    intro i hi
    refine e_2 rfl rfl ?_
    refine e_0 rfl ?_
    rw [show (10 : Int32) = nI 10 from rfl]
    refine e_39 rfl (fun h1 => absurd h1 (nI_ge (by omega) (by omega))) (fun _ => ?_)
    refine e_4 rfl rfl ?_
    refine e_2 rfl rfl ?_
    refine e_v1 rfl (by first | exact hb.1 | assumption | rfl) rfl (by decide) rfl (Nat.le_of_ble_eq_true rfl) (ss_canNow hb _) ?_
    refine e_30b rfl (fun h1 => ?_) (fun h1 => ?_)
    · refine e_8 rfl rfl rfl ?_
      refine e_42 rfl ?_
      show ps_To _ _ _ _ (4, [(2, .int (nI i + 1)), (1, .int (bitsN (fun k => canF σ (nI k)) i)), (0, .ref q)], [], SM μ q _)
      have h := ih (i + 1) (by omega)
      simp only [bitsN] at h
      rw [if_neg h1] at h
      rw [nI_1]
      exact h
    · refine e_2 rfl rfl ?_
      refine e_0 rfl ?_
      refine e_2 rfl rfl ?_
      refine e_14 rfl ?_
      refine e_13 rfl ?_
      refine e_5 rfl rfl ?_
      refine e_8 rfl rfl rfl ?_
      refine e_42 rfl ?_
      show ps_To _ _ _ _ (4, [(2, .int (nI i + 1)), (1, .int (bitsN (fun k => canF σ (nI k)) i ||| (1 <<< (nI i &&& 31)))), (0, .ref q)], [], SM μ q _)
      have h := ih (i + 1) (by omega)
      simp only [bitsN] at h
      rw [if_pos h1] at h
      rw [nI_1]
      exact h
theorem ss_setOfActs (hb : isSh μ q) : ps_Ev (ps_XX L xs) (d + 4) j_X3_setOfActs [.ref q] (SM μ q (σ)) (some (.int (bitsN (fun k => canF σ (nI k)) 10))) (SM μ q (σ)) := by
  refine ⟨Nat.le_of_ble_eq_true rfl, ?_⟩
  refine e_0 rfl ?_
  refine e_5 rfl rfl ?_
  refine e_0 rfl ?_
  refine e_5 rfl rfl ?_
  exact ss_set_loop hb 10 0 (by omega)
theorem ss_launch (hb : isSh μ q) (a b c e : Int32) : ps_Ev (ps_XX L xs) (d + 1) j_X3_launch [.ref q, .int a, .int b, .int c, .int e] (SM μ q (σ)) none (SM μ q (upd (upd (upd (upd (upd (upd (upd (upd (upd σ 0 a) 1 b) 2 c) 3 0) 4 e) 5 0) 6 0) 7 0) 8 0)) := by
  refine ⟨Nat.le_of_ble_eq_true rfl, ?_⟩
  refine e_4 rfl rfl ?_
  refine e_2 rfl rfl ?_
  refine s_pi hb rfl rfl (Or.inl rfl) (by decide) ?_
  refine e_4 rfl rfl ?_
  refine e_2 rfl rfl ?_
  refine s_pi hb rfl rfl (Or.inl rfl) (by decide) ?_
  refine e_4 rfl rfl ?_
  refine e_2 rfl rfl ?_
  refine s_pi hb rfl rfl (Or.inl rfl) (by decide) ?_
  refine e_4 rfl rfl ?_
  refine e_0 rfl ?_
  refine s_pi hb rfl rfl (Or.inl rfl) (by decide) ?_
  refine e_4 rfl rfl ?_
  refine e_2 rfl rfl ?_
  refine s_pi hb rfl rfl (Or.inl rfl) (by decide) ?_
  refine e_4 rfl rfl ?_
  refine e_0 rfl ?_
  refine s_pi hb rfl rfl (Or.inl rfl) (by decide) ?_
  refine e_4 rfl rfl ?_
  refine e_0 rfl ?_
  refine s_pi hb rfl rfl (Or.inl rfl) (by decide) ?_
  refine e_4 rfl rfl ?_
  refine e_0 rfl ?_
  refine s_pi hb rfl rfl (Or.inr ⟨rfl, by decide⟩) (by decide) ?_
  refine e_4 rfl rfl ?_
  refine e_0 rfl ?_
  refine s_pi hb rfl rfl (Or.inl rfl) (by decide) ?_
  exact e_rv rfl (rfl)
theorem ss_enlist (hb : isSh μ q) (hg : g ≤ 6) (h8 : σ 8 = nI g) (k f : Int32) : ps_Ev (ps_XX L xs) (d + 1) j_X3_enlist [.ref q, .int k, .int f] (SM μ q (σ)) none (SM μ q (if 6 ≤ σ 8 then σ else upd (upd (upd (upd σ (9 + g) k) (15 + g) f) (21 + g) f) 8 (nI (g + 1)))) := by
  refine ⟨Nat.le_of_ble_eq_true rfl, ?_⟩
  refine e_4 rfl rfl ?_
  refine s_gi hb rfl rfl (by decide) (by decide) ?_
  refine e_0 rfl ?_
  refine e_39 rfl (fun h1 => ?_) (fun h1 => ?_)
  · exact e_rv rfl (congrArg (SM μ q) (by first | (simp only [eq_true h1, if_true, if_false, reduceIte]; done) | (rw [h8] at h1; simp only [eq_true h1, if_true, if_false, reduceIte])))
  · have hlt : g < 6 := by
      rcases Nat.lt_or_ge g 6 with z | z
      · exact z
      · exact absurd (show (6 : Int32) ≤ σ 8 by rw [h8]; exact nI_le z (by omega)) h1
    have hin : vp_in (nI g) 6 := vp_in_nI hlt (by decide)
    have hcl : (nI g).toNatClampNeg = g := nI_clamp (by omega)
    refine e_4 rfl rfl ?_
    refine s_g9 hb rfl rfl ?_
    refine e_4 rfl rfl ?_
    refine s_gi hb rfl rfl (by decide) (by decide) ?_
    rw [h8]
    refine e_2 rfl rfl ?_
    first | refine s_p1 hb (hin) rfl ?_ | refine s_p2 hb (hin) rfl ?_ | refine s_p3 hb (hin) rfl ?_
    rw [hcl]
    refine e_4 rfl rfl ?_
    refine s_g10 hb rfl rfl ?_
    refine e_4 rfl rfl ?_
    refine s_gi hb rfl rfl (by decide) (by decide) ?_
    rw [show upd σ (9 + g) k 8 = nI g from (if_neg (by omega)).trans h8]
    refine e_2 rfl rfl ?_
    first | refine s_p1 hb (hin) rfl ?_ | refine s_p2 hb (hin) rfl ?_ | refine s_p3 hb (hin) rfl ?_
    rw [hcl]
    refine e_4 rfl rfl ?_
    refine s_g11 hb rfl rfl ?_
    refine e_4 rfl rfl ?_
    refine s_gi hb rfl rfl (by decide) (by decide) ?_
    rw [show upd (upd σ (9 + g) k) (15 + g) f 8 = nI g from (if_neg (by omega)).trans ((if_neg (by omega)).trans h8)]
    refine e_2 rfl rfl ?_
    first | refine s_p1 hb (hin) rfl ?_ | refine s_p2 hb (hin) rfl ?_ | refine s_p3 hb (hin) rfl ?_
    rw [hcl]
    refine e_4 rfl rfl ?_
    refine e_28 rfl rfl ?_
    refine s_gi hb rfl rfl (by decide) (by decide) ?_
    rw [show upd (upd (upd σ (9 + g) k) (15 + g) f) (21 + g) f 8 = nI g from (if_neg (by omega)).trans ((if_neg (by omega)).trans ((if_neg (by omega)).trans h8))]
    refine e_0 rfl ?_
    refine e_9 rfl ?_
    rw [nI_1]
    refine s_pi hb rfl rfl (Or.inl rfl) (by decide) ?_
    exact e_rv rfl (congrArg (SM μ q) (by first | (simp only [eq_false h1, if_true, if_false, reduceIte]; done) | (rw [h8] at h1; simp only [eq_false h1, if_true, if_false, reduceIte])))
/-- another ship's field is read -/
theorem s_go {X : Nat → Nat × (Nat → Int32)} {Cl : Nat → List Value → ps_M → Option Value → ps_M → Prop} {j : Nat} {K : ps_F → Prop} {pc : Nat} {v : Int32} {w : Int64} {nx b : Nat} {lv : List (Nat × Value)} {st : List Value} {c sl tc : Nat} (hc : isSh μ c) (hd : c + 3 < q ∨ q + 3 < c) (h0 : ps_ins j pc = some (45, v, w, nx, b)) (h2 : ps_f2 b 3 = some (sl, tc)) (ht : tc = 0 ∨ tc = 3) (h3 : ps_To X Cl j K (nx, lv, .int (ps_i μ c sl) :: st, SM μ q σ)) : ps_To X Cl j K (pc, lv, .ref c :: st, SM μ q σ) := e_gi h0 hc.1 h2 ht (by rw [SM_off (by omega)]; exact h3)
theorem s_gor {X : Nat → Nat × (Nat → Int32)} {Cl : Nat → List Value → ps_M → Option Value → ps_M → Prop} {j : Nat} {K : ps_F → Prop} {pc : Nat} {v : Int32} {w : Int64} {nx b : Nat} {lv : List (Nat × Value)} {st : List Value} {c sl r : Nat} (hc : isSh μ c) (h0 : ps_ins j pc = some (45, v, w, nx, b)) (h2 : ps_f2 b 3 = some (sl, 2)) (hr : ps_r μ c sl = some r) (h3 : ps_To X Cl j K (nx, lv, .ref r :: st, SM μ q σ)) : ps_To X Cl j K (pc, lv, .ref c :: st, SM μ q σ) := e_gr h0 hc.1 h2 hr h3
/-- six of another ship's row are copied -/
theorem s_cp {X : Nat → Nat × (Nat → Int32)} {Cl : Nat → List Value → ps_M → Option Value → ps_M → Prop} {j : Nat} {K : ps_F → Prop} {pc : Nat} {v : Int32} {w : Int64} {nx b : Nat} {lv : List (Nat × Value)} {st : List Value} {k0 r o : Nat} (ho : r = 1 ∧ o = 9 ∨ r = 2 ∧ o = 15 ∨ r = 3 ∧ o = 21) (hb : isSh μ q) (hk0 : ps_s μ k0 = (10, 6)) (hd : k0 < q ∨ q + 3 < k0) (h0 : ps_ins j pc = some (62, v, w, nx, b)) (hs : (st.map fun v => v.category).sum ≤ 8) (h3 : ps_To X Cl j K (nx, lv, st, SM μ q (fun k => if o ≤ k ∧ k < o + 6 then ps_i μ k0 (k - o) else σ k))) : ps_To X Cl j K (pc, lv, .int 6 :: .int 0 :: .ref (q + r) :: .int 0 :: .ref k0 :: st, SM μ q σ) := by
  have hk1 : ps_s μ (q + r) = (10, 6) := by
    rcases ho with ⟨rfl, -⟩ | ⟨rfl, -⟩ | ⟨rfl, -⟩
    · exact hb.2.1
    · exact hb.2.2.1
    · exact hb.2.2.2.1
  refine e_62 (n0 := 6) (n1 := 6) h0 hk0 hk1 (by decide) (by decide) (by decide) (by decide) (by decide) hs ?_
  have e : ps_cp (SM μ q σ) k0 (Int32.toNatClampNeg 0) (q + r) (Int32.toNatClampNeg 0) (Int32.toNatClampNeg 6) = SM μ q (fun k => if o ≤ k ∧ k < o + 6 then ps_i μ k0 (k - o) else σ k) := by
    refine ps_M_ext rfl rfl rfl ?_ rfl rfl
    funext a i
    show (if a = q + r then va_cpy (ps_i (SM μ q σ) k0) (ps_i (SM μ q σ) (q + r)) 0 0 6 i else ps_i (SM μ q σ) a i) = shP (ps_i μ) q (fun k => if o ≤ k ∧ k < o + 6 then ps_i μ k0 (k - o) else σ k) a i
    have hoff : ∀ i, ps_i (SM μ q σ) k0 i = ps_i μ k0 i := fun i => SM_off hd
    unfold va_cpy
    rw [hoff, ps_i_SM]
    unfold shP
    rcases ho with ⟨rfl, rfl⟩ | ⟨rfl, rfl⟩ | ⟨rfl, rfl⟩ <;> grind
  rw [e]
  exact h3
theorem ss_follow {c : Nat} (hb : isSh μ q) (hc : isSh μ c) (hd : c + 3 < q ∨ q + 3 < c) (h7 : ps_i μ c 7 = 0 ∨ ps_i μ c 7 = 1) : ps_Ev (ps_XX L xs) (d + 1) j_X3_follow [.ref q, .ref c] (SM μ q σ) none (SM μ q (shG (ps_i μ) c)) := by
  refine ⟨Nat.le_of_ble_eq_true rfl, ?_⟩
  refine e_4 rfl rfl ?_
  refine e_4 rfl rfl ?_
  refine s_go hc hd rfl rfl (by decide) ?_
  refine s_pi hb rfl rfl (Or.inl rfl) (by decide) ?_
  refine e_4 rfl rfl ?_
  refine e_4 rfl rfl ?_
  refine s_go hc hd rfl rfl (by decide) ?_
  refine s_pi hb rfl rfl (Or.inl rfl) (by decide) ?_
  refine e_4 rfl rfl ?_
  refine e_4 rfl rfl ?_
  refine s_go hc hd rfl rfl (by decide) ?_
  refine s_pi hb rfl rfl (Or.inl rfl) (by decide) ?_
  refine e_4 rfl rfl ?_
  refine e_4 rfl rfl ?_
  refine s_go hc hd rfl rfl (by decide) ?_
  refine s_pi hb rfl rfl (Or.inl rfl) (by decide) ?_
  refine e_4 rfl rfl ?_
  refine e_4 rfl rfl ?_
  refine s_go hc hd rfl rfl (by decide) ?_
  refine s_pi hb rfl rfl (Or.inl rfl) (by decide) ?_
  refine e_4 rfl rfl ?_
  refine e_4 rfl rfl ?_
  refine s_go hc hd rfl rfl (by decide) ?_
  refine s_pi hb rfl rfl (Or.inl rfl) (by decide) ?_
  refine e_4 rfl rfl ?_
  refine e_4 rfl rfl ?_
  refine s_go hc hd rfl rfl (by decide) ?_
  refine s_pi hb rfl rfl (Or.inl rfl) (by decide) ?_
  refine e_4 rfl rfl ?_
  refine e_4 rfl rfl ?_
  refine s_go hc hd rfl rfl (by decide) ?_
  refine s_pi hb rfl rfl (Or.inr ⟨rfl, h7⟩) (by decide) ?_
  refine e_4 rfl rfl ?_
  refine e_4 rfl rfl ?_
  refine s_go hc hd rfl rfl (by decide) ?_
  refine s_pi hb rfl rfl (Or.inl rfl) (by decide) ?_
  refine e_4 rfl rfl ?_
  refine s_gor hc rfl rfl hc.2.2.2.2.1 ?_
  refine e_0 rfl ?_
  refine e_4 rfl rfl ?_
  refine s_g9 hb rfl rfl ?_
  refine e_0 rfl ?_
  refine e_0 rfl ?_
  refine s_cp (r := 1) (o := 9) (by omega) hb hc.2.1 (by omega) rfl (Nat.le_of_ble_eq_true rfl) ?_
  refine e_4 rfl rfl ?_
  refine s_gor hc rfl rfl hc.2.2.2.2.2.1 ?_
  refine e_0 rfl ?_
  refine e_4 rfl rfl ?_
  refine s_g10 hb rfl rfl ?_
  refine e_0 rfl ?_
  refine e_0 rfl ?_
  refine s_cp (r := 2) (o := 15) (by omega) hb hc.2.2.1 (by omega) rfl (Nat.le_of_ble_eq_true rfl) ?_
  refine e_4 rfl rfl ?_
  refine s_gor hc rfl rfl hc.2.2.2.2.2.2 ?_
  refine e_0 rfl ?_
  refine e_4 rfl rfl ?_
  refine s_g11 hb rfl rfl ?_
  refine e_0 rfl ?_
  refine e_0 rfl ?_
  refine s_cp (r := 3) (o := 21) (by omega) hb hc.2.2.2.1 (by omega) rfl (Nat.le_of_ble_eq_true rfl) ?_
  exact e_rv rfl (SM_eq (fun k hk => by unfold shG upd; grind (splits := 60)))
end SHQ
