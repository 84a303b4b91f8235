-- ===== rows; plans, rotas, soundings of a ship =====
def isRo (μ : ps_M) (r : Nat) : Prop := ps_s μ r = (1, 0) ∧ ps_s μ (r + 1) = (10, 40) ∧ ps_r μ r 1 = some (r + 1)
def isTx (μ : ps_M) (t : Nat) : Prop := ps_s μ t = (4, 0) ∧ ps_s μ (t + 1) = (11, 60) ∧ ps_r μ t 1 = some (t + 1)
/-- a plan judged: how far, and the ship then -/
def planF (g : Nat) (p : Nat → Int32) : Nat → Nat → (Nat → Int32) → Int32 × (Nat → Int32)
  | 0, i, σ => (nI i, σ)
  | n + 1, i, σ => if ¬ canF σ (p i) then (nI i, σ) else if sunkF (passF g σ (p i)) then (nI i, passF g σ (p i)) else planF g p n (i + 1) (passF g σ (p i))
/-- pairs of act and water -/
def soF (g : Nat) (p : Nat → Int32) : Nat → Nat → (Nat → Int32) → Int32 × (Nat → Int32)
  | 0, _, σ => (1, σ)
  | n + 1, i, σ => if passF g σ (p i) 0 = p (i + 1) then soF g p n (i + 2) (passF g σ (p i)) else (0, passF g σ (p i))
/-- a rota kept up -/
def rotaF (g : Nat) (p : Nat → Int32) (m : Nat) : Nat → Nat → (Nat → Int32) → (Nat → Int32)
  | 0, _, σ => σ
  | h + 1, x, σ => if overF σ then σ else rotaF g p m h (if x + 1 < m then x + 1 else 0) (restF g σ (p x))
section SHR
variable {L : Nat} {xs : Nat → Int32} {d : Nat} {μ : ps_M} {q r k len : Nat} {σ : Nat → Int32} {g : Nat}
theorem sp_entryI (hs : ps_s μ k = (10, len)) (hl : len < 2 ^ 31) {i : Nat} (hi : i < len) : ps_Ev (ps_XX L xs) (d + 1) j_X7_entry [.ref k, .int (nI i)] μ (some (.int (ps_i μ k i))) μ := by
  refine ⟨Nat.le_of_ble_eq_true rfl, ?_⟩
  refine e_2 rfl rfl ?_
  refine e_32 rfl (fun h1 => absurd h1 (nI_pos (by omega))) (fun h1 => ?_)
  refine e_2 rfl rfl ?_
  refine e_4 rfl rfl ?_
  refine e_54 rfl hs (by decide) (by decide) ?_
  refine e_39 rfl (fun h2 => absurd h2 (nI_ge hi hl)) (fun h2 => ?_)
  refine e_4 rfl rfl ?_
  refine e_2 rfl rfl ?_
  refine e_48 rfl hs (vp_in_nI hi hl) ?_
  refine e_42 rfl ?_
  exact e_ri rfl rfl (by rw [nI_clamp (by omega)]) rfl
theorem ss_rota_loop (hb : isSh μ q) (hg : g ≤ 6) (hk : ps_s μ k = (10, len)) (hd : k < q ∨ q + 3 < k) (hlen : len < 2 ^ 31) {m : Nat} (hm : 0 < m) (hml : m ≤ len) : ∀ (n i : Nat) (x : Nat) (σ : Nat → Int32), i + n = 40 → x < m → σ 8 = nI g → ps_To (ps_XX L xs) (ps_Ev (ps_XX L xs) (d + 5)) j_X3_passRota (ps_rt j_X3_passRota none (SM μ q (rotaF g (ps_i μ k) m n x σ))) (5, [(4, .int (nI i)), (3, .int (nI x)), (0, .ref q), (1, .ref k), (2, .int (nI m))], [], SM μ q σ) := by
  intro n
  induction n with
  | zero =>
    intro i x σ hi hxm h8
    obtain rfl : i = 40 := by omega
    refine e_2 rfl rfl ?_
    refine e_0 rfl ?_
    rw [show (40 : Int32) = nI 40 from rfl]
    refine e_39 rfl (fun _ => ?_) (fun h1 => absurd (nI_le (Nat.le_refl _) (by omega)) h1)
    exact e_rv rfl (by unfold rotaF; first | rfl | rw [if_pos h1])
  | succ n ih =>
    intro i x σ hi hxm h8
    refine e_2 rfl rfl ?_
    refine e_0 rfl ?_
    rw [show (40 : Int32) = nI 40 from rfl]
    refine e_39 rfl (fun h1 => absurd h1 (nI_ge (by omega) (by omega))) (fun _ => ?_)
    refine e_4 rfl rfl ?_
    refine e_v0 rfl (by first | exact hb.1 | exact hr.1 | exact hr.2.1 | exact hr.2.2 | assumption | rfl) rfl (by decide) rfl (Nat.le_of_ble_eq_true rfl) (ss_isOver hb) ?_
    refine e_31b rfl (fun h1 => ?_) (fun h1 => ?_)
    · exact e_rv rfl (by unfold rotaF; first | rfl | rw [if_pos h1])
    · refine e_4 rfl rfl ?_
      refine e_4 rfl rfl ?_
      refine e_2 rfl rfl ?_
      refine e_s2 rfl rfl rfl (Nat.le_of_ble_eq_true rfl) (sp_entryI (μ := SM μ q σ) hk hlen (by omega)) ?_
      rw [SM_off hd]
      refine e_v1v rfl (by first | exact hb.1 | exact hr.1 | exact hr.2.1 | exact hr.2.2 | assumption | rfl) rfl (by decide) rfl (Nat.le_of_ble_eq_true rfl) (ss_passOrRest hb hg h8 _) ?_
      refine e_2 rfl rfl ?_
      refine e_0 rfl ?_
      refine e_9 rfl ?_
      refine e_2 rfl rfl ?_
      refine e_39 rfl (fun h2 => ?_) (fun h2 => ?_)
      · refine e_0 rfl ?_
        refine e_5 rfl rfl ?_
        refine e_8 rfl rfl rfl ?_
        refine e_42 rfl ?_
        show ps_To _ _ _ _ (5, [(4, .int (nI i + 1)), (3, .int 0), (0, .ref q), (1, .ref k), (2, .int (nI m))], [], SM μ q _)
        have h := ih (i + 1) (if x + 1 < m then x + 1 else 0) (restF g σ (ps_i μ k x)) (by omega) (by split <;> omega) (restF_8.trans h8)
        rw [nI_1] at h2 ⊢
        have h2' : ¬ x + 1 < m := fun z => absurd h2 (nI_ge z (by omega))
        unfold rotaF
        rw [if_neg h1]
        rw [if_neg h2'] at h ⊢
        exact h
      · refine e_2 rfl rfl ?_
        refine e_0 rfl ?_
        refine e_9 rfl ?_
        refine e_42 rfl ?_
        refine e_5 rfl rfl ?_
        refine e_8 rfl rfl rfl ?_
        refine e_42 rfl ?_
        show ps_To _ _ _ _ (5, [(4, .int (nI i + 1)), (3, .int (nI x + 1)), (0, .ref q), (1, .ref k), (2, .int (nI m))], [], SM μ q _)
        have h := ih (i + 1) (if x + 1 < m then x + 1 else 0) (restF g σ (ps_i μ k x)) (by omega) (by split <;> omega) (restF_8.trans h8)
        rw [nI_1] at h2
        have h2' : x + 1 < m := by
          rcases Nat.lt_or_ge (x + 1) m with z | z
          · exact z
          · exact absurd (nI_le z (by omega)) h2
        unfold rotaF
        rw [if_neg h1]
        rw [if_pos h2'] at h ⊢
        rw [nI_1, nI_1]
        exact h
theorem ss_rota (hb : isSh μ q) (hg : g ≤ 6) (h8 : σ 8 = nI g) (hk : ps_s μ k = (10, len)) (hd : k < q ∨ q + 3 < k) (hlen : len < 2 ^ 31) {m : Nat} (hm : 0 < m) (hml : m ≤ len) : ps_Ev (ps_XX L xs) (d + 6) j_X3_passRota [.ref q, .ref k, .int (nI m)] (SM μ q (σ)) none (SM μ q (rotaF g (ps_i μ k) m 40 0 σ)) := by
  refine ⟨Nat.le_of_ble_eq_true rfl, ?_⟩
  refine e_0 rfl ?_
  refine e_5 rfl rfl ?_
  refine e_0 rfl ?_
  refine e_5 rfl rfl ?_
  exact ss_rota_loop hb hg hk hd hlen hm hml 40 0 0 σ (by omega) hm h8
theorem ss_plan_loop (hb : isSh μ q) (hg : g ≤ 6) (hr : isRo μ r) (hd : r + 1 < q ∨ q + 3 < r) {S : Nat} (hS : ps_i μ r 0 = nI S) (hS40 : S ≤ 40) : ∀ (n i : Nat) (σ : Nat → Int32), i + n = S → σ 8 = nI g → ps_To (ps_XX L xs) (ps_Ev (ps_XX L xs) (d + 4)) j_X3_passPlan (ps_rt j_X3_passPlan (some (.int (planF g (ps_i μ (r + 1)) n i σ).1)) (SM μ q (planF g (ps_i μ (r + 1)) n i σ).2)) (2, [(2, .int (nI i)), (0, .ref q), (1, .ref r)], [], SM μ q σ) := by
  intro n
  induction n with
  | zero =>
    intro i σ hi h8
    obtain rfl : i = S := by omega
    refine e_2 rfl rfl ?_
    refine e_4 rfl rfl ?_
    refine e_gi rfl (by first | exact hb.1 | exact hr.1 | exact hr.2.1 | exact hr.2.2 | assumption | rfl) rfl (by decide) ?_
    rw [SM_off (by omega), hS]
    refine e_39 rfl (fun _ => ?_) (fun h1 => absurd (nI_le (Nat.le_refl _) (by omega)) h1)
    skip
    refine e_4 rfl rfl ?_
    refine e_gi rfl (by first | exact hb.1 | exact hr.1 | exact hr.2.1 | exact hr.2.2 | assumption | rfl) rfl (by decide) ?_
    rw [SM_off (by omega), hS]
    exact e_ri rfl rfl (by first | rfl | (simp only [planF]; rw [if_pos h1]) | (simp only [planF]; rw [if_neg (Classical.not_not.mpr h1), if_pos h2])) (by first | rfl | (simp only [planF]; rw [if_pos h1]) | (simp only [planF]; rw [if_neg (Classical.not_not.mpr h1), if_pos h2]))
  | succ n ih =>
    intro i σ hi h8
    have hin : vp_in (nI i) 40 := vp_in_nI (by omega) (by decide)
    have hcl : (nI i).toNatClampNeg = i := nI_clamp (by omega)
    refine e_2 rfl rfl ?_
    refine e_4 rfl rfl ?_
    refine e_gi rfl (by first | exact hb.1 | exact hr.1 | exact hr.2.1 | exact hr.2.2 | assumption | rfl) rfl (by decide) ?_
    rw [SM_off (by omega), hS]
    refine e_39 rfl (fun h1 => absurd h1 (nI_ge (by omega) (by omega))) (fun _ => ?_)
    refine e_4 rfl rfl ?_
    refine e_4 rfl rfl ?_
    refine e_gr rfl (by first | exact hb.1 | exact hr.1 | exact hr.2.1 | exact hr.2.2 | assumption | rfl) rfl (by first | exact hb.1 | exact hr.1 | exact hr.2.1 | exact hr.2.2 | assumption | rfl) ?_
    refine e_2 rfl rfl ?_
    refine e_48 rfl (by first | exact hb.1 | exact hr.1 | exact hr.2.1 | exact hr.2.2 | assumption | rfl) (hin) ?_
    rw [SM_off (by omega), hcl]
    refine e_v1 rfl (by first | exact hb.1 | exact hr.1 | exact hr.2.1 | exact hr.2.2 | assumption | rfl) rfl (by decide) rfl (Nat.le_of_ble_eq_true rfl) (ss_canNow hb _) ?_
    refine e_31b rfl (fun h1 => ?_) (fun h1 => ?_)
    · refine e_4 rfl rfl ?_
      refine e_4 rfl rfl ?_
      refine e_gr rfl (by first | exact hb.1 | exact hr.1 | exact hr.2.1 | exact hr.2.2 | assumption | rfl) rfl (by first | exact hb.1 | exact hr.1 | exact hr.2.1 | exact hr.2.2 | assumption | rfl) ?_
      refine e_2 rfl rfl ?_
      refine e_48 rfl (by first | exact hb.1 | exact hr.1 | exact hr.2.1 | exact hr.2.2 | assumption | rfl) (hin) ?_
      rw [SM_off (by omega), hcl]
      refine e_v1v rfl (by first | exact hb.1 | exact hr.1 | exact hr.2.1 | exact hr.2.2 | assumption | rfl) rfl (by decide) rfl (Nat.le_of_ble_eq_true rfl) (ss_pass hb hg h8 _) ?_
      refine e_4 rfl rfl ?_
      refine e_v0 rfl (by first | exact hb.1 | exact hr.1 | exact hr.2.1 | exact hr.2.2 | assumption | rfl) rfl (by decide) rfl (Nat.le_of_ble_eq_true rfl) (ss_isSunk hb) ?_
      refine e_30b rfl (fun h2 => ?_) (fun h2 => ?_)
      · refine e_8 rfl rfl rfl ?_
        refine e_42 rfl ?_
        show ps_To _ _ _ _ (2, [(2, .int (nI i + 1)), (0, .ref q), (1, .ref r)], [], SM μ q _)
        have h := ih (i + 1) (passF g σ (ps_i μ (r + 1) i)) (by omega) (passF_8.trans h8)
        rw [nI_1]
        simp only [planF]
        rw [if_neg (Classical.not_not.mpr h1), if_neg h2]
        exact h
      · refine e_2 rfl rfl ?_
        exact e_ri rfl rfl (by first | rfl | (simp only [planF]; rw [if_pos h1]) | (simp only [planF]; rw [if_neg (Classical.not_not.mpr h1), if_pos h2])) (by first | rfl | (simp only [planF]; rw [if_pos h1]) | (simp only [planF]; rw [if_neg (Classical.not_not.mpr h1), if_pos h2]))
    · refine e_2 rfl rfl ?_
      exact e_ri rfl rfl (by first | rfl | (simp only [planF]; rw [if_pos h1]) | (simp only [planF]; rw [if_neg (Classical.not_not.mpr h1), if_pos h2])) (by first | rfl | (simp only [planF]; rw [if_pos h1]) | (simp only [planF]; rw [if_neg (Classical.not_not.mpr h1), if_pos h2]))
theorem ss_plan (hb : isSh μ q) (hg : g ≤ 6) (h8 : σ 8 = nI g) (hr : isRo μ r) (hd : r + 1 < q ∨ q + 3 < r) {S : Nat} (hS : ps_i μ r 0 = nI S) (hS40 : S ≤ 40) : ps_Ev (ps_XX L xs) (d + 5) j_X3_passPlan [.ref q, .ref r] (SM μ q (σ)) (some (.int ((planF g (ps_i μ (r + 1)) S 0 σ).1))) (SM μ q ((planF g (ps_i μ (r + 1)) S 0 σ).2)) := by
  refine ⟨Nat.le_of_ble_eq_true rfl, ?_⟩
  refine e_0 rfl ?_
  refine e_5 rfl rfl ?_
  exact ss_plan_loop hb hg hr hd hS hS40 S 0 σ (by omega) h8
theorem ss_so_loop (hb : isSh μ q) (hg : g ≤ 6) (hr : isRo μ r) (hd : r + 1 < q ∨ q + 3 < r) {S : Nat} (hS : ps_i μ r 0 = nI (2 * S)) (hS40 : S ≤ 20) : ∀ (n i : Nat) (σ : Nat → Int32), i + n = S → σ 8 = nI g → ps_To (ps_XX L xs) (ps_Ev (ps_XX L xs) (d + 4)) j_X3_isSo (ps_rt j_X3_isSo (some (.int (soF g (ps_i μ (r + 1)) n (2 * i) σ).1)) (SM μ q (soF g (ps_i μ (r + 1)) n (2 * i) σ).2)) (2, [(2, .int (nI (2 * i))), (0, .ref q), (1, .ref r)], [], SM μ q σ) := by
  intro n
  induction n with
  | zero =>
    intro i σ hi h8
    obtain rfl : i = S := by omega
    refine e_2 rfl rfl ?_
    refine e_0 rfl ?_
    refine e_9 rfl ?_
    refine e_4 rfl rfl ?_
    refine e_gi rfl (by first | exact hb.1 | exact hr.1 | exact hr.2.1 | exact hr.2.2 | assumption | rfl) rfl (by decide) ?_
    rw [SM_off (by omega), hS]
    refine e_39 rfl (fun _ => ?_) (fun h1 => absurd (show nI (2 * i) ≤ nI (2 * i) + 1 by rw [nI_1]; exact nI_le (by omega) (by omega)) h1)
    refine e_0 rfl ?_
    exact e_rz rfl rfl (by first | decide | exact b2i_01 | assumption) (by first | rfl | (simp only [soF]; rw [if_neg h2])) (by first | rfl | (simp only [soF]; rw [if_neg h2]))
  | succ n ih =>
    intro i σ hi h8
    have hin : vp_in (nI (2 * i)) 40 := vp_in_nI (by omega) (by decide)
    have hcl : (nI (2 * i)).toNatClampNeg = 2 * i := nI_clamp (by omega)
    have hin2 : vp_in (nI (2 * i) + 1) 40 := by rw [nI_1]; exact vp_in_nI (by omega) (by decide)
    have hcl2 : (nI (2 * i) + 1).toNatClampNeg = 2 * i + 1 := by rw [nI_1]; exact nI_clamp (by omega)
    refine e_2 rfl rfl ?_
    refine e_0 rfl ?_
    refine e_9 rfl ?_
    refine e_4 rfl rfl ?_
    refine e_gi rfl (by first | exact hb.1 | exact hr.1 | exact hr.2.1 | exact hr.2.2 | assumption | rfl) rfl (by decide) ?_
    rw [SM_off (by omega), hS]
    refine e_39 rfl (fun h1 => absurd h1 (by rw [nI_1]; exact nI_ge (by omega) (by omega))) (fun _ => ?_)
    refine e_4 rfl rfl ?_
    refine e_4 rfl rfl ?_
    refine e_gr rfl (by first | exact hb.1 | exact hr.1 | exact hr.2.1 | exact hr.2.2 | assumption | rfl) rfl (by first | exact hb.1 | exact hr.1 | exact hr.2.1 | exact hr.2.2 | assumption | rfl) ?_
    refine e_2 rfl rfl ?_
    refine e_48 rfl (by first | exact hb.1 | exact hr.1 | exact hr.2.1 | exact hr.2.2 | assumption | rfl) (by first | exact hin | exact hin2) ?_
    rw [SM_off (by omega), hcl]
    refine e_v1v rfl (by first | exact hb.1 | exact hr.1 | exact hr.2.1 | exact hr.2.2 | assumption | rfl) rfl (by decide) rfl (Nat.le_of_ble_eq_true rfl) (ss_pass hb hg h8 _) ?_
    refine e_4 rfl rfl ?_
    refine e_gi rfl (by first | exact hb.1 | exact hr.1 | exact hr.2.1 | exact hr.2.2 | assumption | rfl) rfl (by decide) ?_
    skip
    refine e_4 rfl rfl ?_
    refine e_gr rfl (by first | exact hb.1 | exact hr.1 | exact hr.2.1 | exact hr.2.2 | assumption | rfl) rfl (by first | exact hb.1 | exact hr.1 | exact hr.2.1 | exact hr.2.2 | assumption | rfl) ?_
    refine e_2 rfl rfl ?_
    refine e_0 rfl ?_
    refine e_9 rfl ?_
    refine e_48 rfl (by first | exact hb.1 | exact hr.1 | exact hr.2.1 | exact hr.2.2 | assumption | rfl) (by first | exact hin | exact hin2) ?_
    rw [SM_off (by omega), hcl2, SM_g (by decide)]
    refine e_36 rfl (fun h2 => ?_) (fun h2 => ?_)
    · refine e_8 rfl rfl rfl ?_
      refine e_42 rfl ?_
      show ps_To _ _ _ _ (2, [(2, .int (nI (2 * i) + 2)), (0, .ref q), (1, .ref r)], [], SM μ q _)
      have h := ih (i + 1) (passF g σ (ps_i μ (r + 1) (2 * i))) (by omega) (passF_8.trans h8)
      simp only [soF]
      rw [if_pos h2]
      rw [show nI (2 * i) + 2 = nI (2 * (i + 1)) from nI_add (2 * i) 2]
      exact h
    · refine e_0 rfl ?_
      exact e_rz rfl rfl (by first | decide | exact b2i_01 | assumption) (by first | rfl | (simp only [soF]; rw [if_neg h2])) (by first | rfl | (simp only [soF]; rw [if_neg h2]))
theorem ss_so (hb : isSh μ q) (hg : g ≤ 6) (h8 : σ 8 = nI g) (hr : isRo μ r) (hd : r + 1 < q ∨ q + 3 < r) {S : Nat} (hS : ps_i μ r 0 = nI (2 * S)) (hS40 : S ≤ 20) : ps_Ev (ps_XX L xs) (d + 5) j_X3_isSo [.ref q, .ref r] (SM μ q (σ)) (some (.int ((soF g (ps_i μ (r + 1)) S 0 σ).1))) (SM μ q ((soF g (ps_i μ (r + 1)) S 0 σ).2)) := by
  refine ⟨Nat.le_of_ble_eq_true rfl, ?_⟩
  refine e_0 rfl ?_
  refine e_5 rfl rfl ?_
  exact ss_so_loop hb hg hr hd hS hS40 S 0 σ (by omega) h8
end SHR
