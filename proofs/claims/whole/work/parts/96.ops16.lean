-- ===== calls answered alike: ship =====
theorem hull_le {c : Nat → Int32} {q : Nat} : hullN c q ≤ 7 := by
  unfold hullN
  repeat' split
  all_goals omega
theorem flt_hull {b : Nat → Int32} {E : Nat} (hE : E ≤ 60) (h : fltF (chF0 b E) E = -9) : hullN (chF0 b E) (skF (chF0 b E) 60 0) = 7 := by
  refine Classical.byContradiction fun z => ?_
  have s := sk_le (b := b) (E := E) 60 0 (Nat.zero_le _)
  have l := hull_le (c := chF0 b E) (q := skF (chF0 b E) 60 0)
  unfold fltF at h
  rw [if_pos z] at h
  exact nI_n9 (by omega) h
theorem KD_at {ξ : ps_M} {j a i : Nat} : ps_i (KD ξ j) a i = if i = 1 ∧ 65 ≤ a ∧ a < 65 + 6 * j ∧ (a - 65) % 6 = 0 then 0 else ps_i ξ a i := rfl
theorem hrs_40 {c : Nat → Int32} {q : Nat} (h5 : dvF c (q + 5) ≤ 4) (h6 : dvF c (q + 6) ≤ hhN (dvF c (q + 5))) : 10 * dvF c (q + 5) + dvF c (q + 6) ≤ 40 := by
  unfold hhN at h6
  by_cases z : dvF c (q + 5) = 4
  · rw [if_pos z] at h6; omega
  · rw [if_neg z] at h6; omega
section OPS16
variable {L : Nat} {xs : Nat → Int32} {e W : Nat} {μ : ps_M}
theorem op_ship (h : Inv W μ) (r : Int32) : opI (ps_XX L xs) e j_X7_ship j_X8_ship [.int r] W μ := by
  by_cases b1 : ¬ textP r
  · obtain ⟨p, s, s0, c, -⟩ := kq_ship (L := L) (xs := xs) (d := e + 12) h.1 (r := r) (k := 0) (fun q => absurd q b1) (E := (ps_i μ (57 + 2 * 0) 0).toNatClampNeg) (fun h0 => sz_S (by omega) (by rw [(h.tx (k := 0) (by omega)).1]; exact (h.tx (k := 0) (by omega)).2.1) h0)
    obtain ⟨p', s', s2, m⟩ := mq_ship (L := L) (xs := xs) (d := e + 15) h.2.1 (r := r) (k := 0) (fun q => absurd q b1) (E := (ps_i μ (83 + 5) 0).toNatClampNeg) (fun h0 => sz_S (by omega) (h.tx (k := 0) (by omega)).2.1 h0)
    rw [if_pos b1] at c m
    exact ⟨_, _, _, c, m, (by first | exact h.2.1.1 | exact hm.1 | exact hi.2.1.1 | exact hi1.2.1.1 | exact (hi1.2.1.of fν.2.2.1 fν.2.2.2.1).1 | (rw [hs.2.2.1]; exact h.2.1.1)), h⟩
  have b1' := Classical.not_not.mp b1
  have hr := text_k b1'
  have hz := h.tx hr.2
  generalize r.toNatClampNeg = k at hr hz
  have hsz := hz.2.1
  rw [← hz.1] at hsz
  have hEE := fun h0 => sz_S (by omega) hsz h0
  have hit : ∀ i, i < (ps_i μ (57 + 2 * k) 0).toNatClampNeg → ps_i μ (57 + 2 * k + 1) i = ps_i μ 89 (60 * k + i) := fun i hi => hz.2.2 i (by rw [← hz.1]; exact hi)
  have hE60 := sz_bd (by omega) hsz
  generalize (ps_i μ (57 + 2 * k) 0).toNatClampNeg = E at hEE hit hE60
  obtain ⟨pl, σ1, σ2, c, hx⟩ := kq_ship (L := L) (xs := xs) (d := e + 12) h.1 (r := r) (k := k) (fun _ => hr) (E := E) hEE
  have m := fun (ν : ps_M) (hm : isMd ν 83) (ez : ps_i ν (83 + 5) k = ps_i μ (57 + 2 * k) 0) => mq_ship (L := L) (xs := xs) (d := e + 15) hm (r := r) (k := k) (fun _ => hr) (E := E) (fun h0 => by rw [ez] at h0 ⊢; exact hEE h0)
  rw [if_neg b1] at c
  by_cases b2 : ¬ 0 ≤ ps_i μ (57 + 2 * k) 0
  · rw [if_pos b2] at c
    have ez : ps_i (FC μ 1) (83 + 5) k = ps_i μ (57 + 2 * k) 0 := by rw [FC_hi (by omega)]; exact hz.1.symm
    obtain ⟨_, _, _, m⟩ := m (FC μ 1) (h.2.1.of rfl rfl) ez
    rw [ez, if_neg b1, if_pos b2] at m
    exact ⟨_, _, _, c, m, (by first | exact h.2.1.1 | exact hm.1 | exact hi.2.1.1 | exact hi1.2.1.1 | exact (hi1.2.1.of fν.2.2.1 fν.2.2.2.1).1 | (rw [hs.2.2.1]; exact h.2.1.1)), FCM h (by omega)⟩
  rw [if_neg b2] at c
  have hs : ScE μ (RC (ps_sR μ 14 1 (some (57 + 2 * k))) pl σ1) := RC_scr
  generalize hν1 : RC (ps_sR μ 14 1 (some (57 + 2 * k))) pl σ1 = μ1 at c hs
  have hi1 := h.sc hs
  have hm1 : ∀ a i, ¬ ((10 ≤ a ∧ a ≤ 43) ∨ (a = 83 ∧ 14 ≤ i) ∨ a = 91 ∨ (a = 84 ∧ 1832 ≤ i)) → ps_i μ1 a i = ps_i μ a i := hs.2.2.2.2.2
  have ecv : ∀ ν : ps_M, (∀ i, ps_i ν 89 i = ps_i μ 89 i) → chF0 (fun x => ps_i ν (83 + 6) (60 * k + x)) E = chF0 (ps_i μ (57 + 2 * k + 1)) E := fun ν hv => chF0_c (fun i hi => by
    rw [show ps_i ν (83 + 6) (60 * k + i) = ps_i μ 89 (60 * k + i) from hv _]
    exact (hit i hi).symm)
  by_cases b3 : ¬ fltF (chF0 (ps_i μ (57 + 2 * k + 1)) E) E = -9
  · rw [if_pos b3] at c
    have ez : ps_i μ1 (83 + 5) k = ps_i μ (57 + 2 * k) 0 := by rw [hm1 _ _ (by omega)]; exact hz.1.symm
    obtain ⟨p', s', s2, m⟩ := m μ1 hi1.2.1 ez
    rw [ez, if_neg b1, if_neg b2, ecv μ1 (fun i => hm1 _ _ (by omega)), if_pos b3] at m
    exact ⟨_, _, _, c, m, (by first | exact h.2.1.1 | exact hm.1 | exact hi.2.1.1 | exact hi1.2.1.1 | exact (hi1.2.1.of fν.2.2.1 fν.2.2.2.1).1 | (rw [hs.2.2.1]; exact h.2.1.1)), hi1.sc RD_scr⟩
  rw [if_neg b3] at c
  have b3' := Classical.not_not.mp b3
  obtain ⟨σ3, hσ⟩ := hx b1' (Classical.not_not.mp b2) b3'
  have hG : (gaR (chF0 (ps_i μ (57 + 2 * k + 1)) E) E).2.2.1 ≤ 6 := gaG_6 (b := ps_i μ (57 + 2 * k + 1))
  have hgp : gpP (gaR (chF0 (ps_i μ (57 + 2 * k + 1)) E) E).2.2.1 (gaR (chF0 (ps_i μ (57 + 2 * k + 1)) E) E).2.2.2.1 (gaR (chF0 (ps_i μ (57 + 2 * k + 1)) E) E).2.2.2.2 := ga_ok 60 _ 0 z0F z0F (fun i hi => absurd hi (Nat.not_lt_zero i))
  obtain ⟨f1, f2, f3, f4, f5, f6⟩ := hull7_figs (flt_hull hE60 b3')
  have d1 := (fig_dv f1 (by omega) (by omega)).2.2
  have d2 := (fig_dv f2 (by omega) (by omega)).2.2
  have d4 := (fig_dv f4 (by omega) (by omega)).2.2
  have d5 := (fig_dv f5 (by omega) (by omega)).2.2
  have d6 := (fig_dv f6 (hl_9 _) (hh_9 _)).2.2
  have h40 := hrs_40 d5 d6
  have d69 := Nat.le_trans d6 (hh_9 _)
  have t1 := ten_nI _ (Nat.lt_succ_of_le d1) _ (Nat.lt_succ_of_le d2)
  have t5 := ten_nI _ (Nat.lt_of_le_of_lt d5 (show 4 < 10 by omega)) _ (Nat.lt_succ_of_le d69)
  obtain ⟨ν, hν⟩ : ∃ ν, ν = KD (SM μ1 4 σ2) 3 := ⟨_, rfl⟩
  rw [← hν] at c
  have fν : fldP ν μ1 := by rw [hν]; exact ⟨rfl, rfl, rfl, rfl, rfl⟩
  have hv : ∀ a i, ¬ (4 ≤ a ∧ a ≤ 7) → ¬ (65 ≤ a ∧ a ≤ 82) → ps_i ν a i = ps_i μ1 a i := fun a i z1 z2 => by rw [hν, KD_at, if_neg (by omega), SM_off (by omega)]
  have hv4 : ∀ a i, 4 ≤ a → a ≤ 4 + 3 → ps_i ν a i = ps_i (SM μ1 4 σ2) a i := fun a i z1 z2 => by rw [hν, KD_at, if_neg (by omega)]
  have hK : ∀ j, j < 3 → ps_i ν (65 + 6 * j) 1 = 0 := fun j hj => by rw [hν, KD_at, if_pos ⟨rfl, by omega, by omega, by omega⟩]
  have ez : ps_i ν (83 + 5) k = ps_i μ (57 + 2 * k) 0 := by rw [hv _ _ (by omega) (by omega), hm1 _ _ (by omega)]; exact hz.1.symm
  obtain ⟨p', ρ', γ', m⟩ := m ν (hi1.2.1.of fν.2.2.1 fν.2.2.2.1) ez
  rw [ez, if_neg b1, if_neg b2, ecv ν (fun i => by rw [hv _ _ (by omega) (by omega), hm1 _ _ (by omega)]), if_neg b3, t5, t1] at m
  obtain ⟨η, hη⟩ : ∃ η, η = RD ν 83 (60 * k) p' E ρ' γ' := ⟨_, rfl⟩
  rw [← hη] at m
  have se : ScE ν η := by rw [hη]; exact RD_scr
  have fη : fldP η μ1 := by rw [hη]; exact fldP.tr ⟨rfl, rfl, rfl, rfl, rfl⟩ fν
  have hq : ∀ a i, ¬ ((10 ≤ a ∧ a ≤ 43) ∨ (a = 83 ∧ 14 ≤ i) ∨ a = 91 ∨ (a = 84 ∧ 1832 ≤ i)) → ps_i η a i = ps_i ν a i := se.2.2.2.2.2
  have hS := fun (i : Nat) (hi : i < 27) => (show shG (ps_i η) 4 i = σ2 i by rw [shG_cells (J := ps_i (SM μ1 4 σ2)) (fun a i z1 z2 => by rw [hq a i (by omega)]; exact hv4 a i z1 z2)]; exact shG_SM hi).trans (hσ i hi)
  exact ⟨_, _, _, c, m, (by first | exact h.2.1.1 | exact hm.1 | exact hi.2.1.1 | exact hi1.2.1.1 | exact (hi1.2.1.of fν.2.2.1 fν.2.2.2.1).1 | (rw [hs.2.2.1]; exact h.2.1.1)), inv_new hi1 fη (fun a i z1 z2 z3 => (hq a i z3).trans (hv a i z1 z2)) hS (fun j hj => by rw [hq _ _ (by omega)]; exact hK j hj) hG hgp (by rw [← t1]; rfl) (by omega) rfl rfl d4 rfl (by rw [← t5]; rfl) h40 rfl rfl rfl⟩
end OPS16
