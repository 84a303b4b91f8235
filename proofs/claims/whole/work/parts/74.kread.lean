-- ===== the class: its reader =====
def RC (ν : ps_M) (p : Nat) (σ : Nat → Int32) : ps_M := SM (ps_sI ν 14 2 (nI p)) 15 σ
theorem RC_off {ν : ps_M} {p a i : Nat} {σ : Nat → Int32} (h : a ≠ 14 ∧ (a < 15 ∨ 18 < a)) : ps_i (RC ν p σ) a i = ps_i ν a i := (SM_off (by omega)).trans (sI_off (by omega))
theorem RC_p {ν : ps_M} {p : Nat} {σ : Nat → Int32} : ps_i (RC ν p σ) 14 2 = nI p := (SM_off (by omega)).trans sI_at
theorem RC_pp {ν : ps_M} {p x : Nat} {σ : Nat → Int32} : ps_sI (RC ν p σ) 14 2 (nI x) = RC ν x σ := by
  unfold RC
  rw [SM_sIo (by omega), sI_sI]
/-- a reader over a text -/
def isRd (ν : ps_M) (t : Nat) : Prop := isPs ν ∧ isTx ν t ∧ ps_r ν 14 1 = some t ∧ 57 ≤ t
section ERC
variable {X : Nat → Nat × (Nat → Int32)} {Cl : Nat → List Value → ps_M → Option Value → ps_M → Prop} {j : Nat} {K : ps_F → Prop} {pc : Nat} {v : Int32} {w : Int64} {nx b : Nat} {lv : List (Nat × Value)} {st : List Value} {ν : ps_M} {p : Nat} {σ : Nat → Int32}
theorem c_gp (hp : isPs ν) (h0 : ps_ins j pc = some (45, v, w, nx, b)) (h2 : ps_f2 b 0 = some (2, 0)) (h3 : ps_To X Cl j K (nx, lv, .int (nI p) :: st, RC ν p σ)) : ps_To X Cl j K (pc, lv, .ref 14 :: st, RC ν p σ) := e_gi h0 (p_14 hp) h2 (by decide) (by rw [RC_p]; exact h3)
theorem c_pp {x : Int32} {p' : Nat} (hp : isPs ν) (h0 : ps_ins j pc = some (46, v, w, nx, b)) (h2 : ps_f2 b 0 = some (2, 0)) (hx : x = nI p') (h3 : ps_To X Cl j K (nx, lv, st, RC ν p' σ)) : ps_To X Cl j K (pc, lv, .int x :: .ref 14 :: st, RC ν p σ) := e_pi h0 (p_14 hp) h2 (Or.inl rfl) (by rw [hx, RC_pp]; exact h3)
theorem c_gi {sl tc : Nat} (hp : isPs ν) (h0 : ps_ins j pc = some (45, v, w, nx, b)) (h2 : ps_f2 b 3 = some (sl, tc)) (ht : tc = 0 ∨ tc = 3) (h9 : sl < 9) (h3 : ps_To X Cl j K (nx, lv, .int (σ sl) :: st, RC ν p σ)) : ps_To X Cl j K (pc, lv, .ref 15 :: st, RC ν p σ) := s_gi (μ := ps_sI ν 14 2 (nI p)) (p_sh15 hp.sI) h0 h2 ht h9 h3
end ERC
theorem fig_cl {c : Nat → Int32} {lo hi p : Nat} (hl : lo ≤ 9) (hh : hi ≤ 9) : (¬ c p - 48 < nI lo ∧ c p - 48 ≤ nI hi) ↔ figP c lo hi p := by
  constructor
  · intro h
    obtain ⟨k, h1, h2, e⟩ := rng_nat (lo := lo) (hi := hi) (by omega) ⟨Int32.not_lt.mp h.1, h.2⟩ (by omega)
    have e2 : c p = nI (48 + k) := by
      have : c p = (c p - 48) + 48 := by rw [Int32.sub_add_cancel]
      rw [this, e, Nat.add_comm]; exact nI_add k 48
    show nI (48 + lo) ≤ c p ∧ c p ≤ nI (48 + hi)
    rw [e2]
    exact ⟨nI_le (by omega) (by omega), nI_le (by omega) (by omega)⟩
  · intro h
    obtain ⟨e, h1, h2⟩ := fig_dv h hl hh
    rw [e]
    exact ⟨nI_nlt h1 (by omega), nI_le h2 (by omega)⟩
def kdF (c : Int32) : Int32 := if letterM c = -9 then -1 else letterM c
theorem kd_tab : ∀ i, i < 6 → kdF ((ps_tab 0).getD i 0) = nI i := by decide
theorem kd_none {c : Int32} (h : ∀ i, i < 6 → ¬ (ps_tab 0).getD i 0 = c) : kdF c = -1 := by
  have h0 : ¬ c = 103 := fun z => h 0 (by omega) z.symm
  have h1 : ¬ c = 114 := fun z => h 1 (by omega) z.symm
  have h2 : ¬ c = 115 := fun z => h 2 (by omega) z.symm
  have h3 : ¬ c = 102 := fun z => h 3 (by omega) z.symm
  have h4 : ¬ c = 108 := fun z => h 4 (by omega) z.symm
  have h5 : ¬ c = 99 := fun z => h 5 (by omega) z.symm
  unfold kdF letterM
  rw [if_neg h0, if_neg h1, if_neg h2, if_neg h3, if_neg h4, if_neg h5, if_pos rfl]
section KRC
variable {L : Nat} {xs : Nat → Int32} {d : Nat} {ν : ps_M} {t p E : Nat} {σ : Nat → Int32}
theorem kt_val (hr : isRd ν t) (eE : ps_i ν t 0 = nI E) (hE : E ≤ 60) (hp : p < 2 ^ 31) : ps_Ev (ps_XX L xs) (d + 2) j_X5_valueAt [.ref t, .int (nI p)] (RC ν p σ) (some (.int ((chF0 (ps_i ν (t + 1)) E) p))) (RC ν p σ) := by
  have h57 := hr.2.2.2
  have eR : ps_i (RC ν p σ) t 0 = nI E := (RC_off (by omega)).trans eE
  by_cases hpE : p < E
  · have h := kt_valueAt (L := L) (xs := xs) (d := d) (μ := RC ν p σ) (r := t) (i := p) (by exact hr.2.1) (by omega) (c := (chF0 (ps_i ν (t + 1)) E) p) (by
      rw [eR, if_pos ⟨nI_pos hp, nI_ge hpE (by omega)⟩, RC_off (by omega)]
      exact if_pos hpE)
    exact h
  · refine ⟨Nat.le_of_ble_eq_true rfl, ?_⟩
    refine e_4 rfl rfl ?_
    refine e_2 rfl rfl ?_
    refine e_v1 rfl (by exact hr.2.1.1) rfl (by decide) rfl (Nat.le_of_ble_eq_true rfl) (kt_has (by exact hr.2.1) _) ?_
    refine e_30b rfl (fun h1 => ?_) (fun h1 => ?_)
    · refine e_0 rfl ?_
      exact e_ri rfl rfl (by exact (if_neg hpE).symm) (rfl)
    · exact absurd h1.2 (Classical.not_not.mpr (by rw [eR]; exact nI_le (by omega) hp))
theorem kc_here (hr : isRd ν t) (eE : ps_i ν t 0 = nI E) (hE : E ≤ 60) (hp : p < 2 ^ 31) : ps_Ev (ps_XX L xs) (d + 3) j_X0_byteHere [.ref 14] (RC ν (p) (σ)) (some (.int ((chF0 (ps_i ν (t + 1)) E) p))) (RC ν (p) (σ)) := by
  refine ⟨Nat.le_of_ble_eq_true rfl, ?_⟩
  refine e_4 rfl rfl ?_
  refine e_gr rfl (p_14 hr.1) rfl hr.2.2.1 ?_
  refine e_43 rfl ?_
  refine e_4 rfl rfl ?_
  refine e_gr rfl (p_14 hr.1) rfl hr.2.2.1 ?_
  refine e_4 rfl rfl ?_
  refine c_gp hr.1 rfl rfl ?_
  refine e_v1 rfl (by first | exact p_14 hr.1 | exact hr.2.1.1 | exact (p_sh15 hr.1).1) rfl (by decide) rfl (Nat.le_of_ble_eq_true rfl) (kt_val hr eE hE hp) ?_
  exact e_ri rfl rfl (by rfl) (rfl)
theorem kc_skip_loop (hr : isRd ν t) (eE : ps_i ν t 0 = nI E) (hE : E ≤ 60) : ∀ (n i : Nat) (p : Nat), i + n = 60 → p < 2 ^ 30 + i → ps_To (ps_XX L xs) (ps_Ev (ps_XX L xs) (d + 3)) j_X0_skipBlanks (ps_rt j_X0_skipBlanks none (RC ν (skF (chF0 (ps_i ν (t + 1)) E) n p) (σ))) (2, [(1, .int (nI i)), (0, .ref (14))], [], RC ν (p) (σ)) := by
  intro n
  induction n with
  | zero =>
    intro i p hi hp
    obtain rfl : i = 60 := by omega
    skip
    refine e_2 rfl rfl ?_
    refine e_0 rfl ?_
    refine e_39 rfl (fun h1 => ?_) (fun h1 => ?_)
    · exact e_rv rfl (by first | rfl | (unfold skF; rw [if_neg h2]))
    · exact absurd (show nI 60 ≤ nI 60 from nI_le (Nat.le_refl _) (by omega)) h1
  | succ n ih =>
    intro i p hi hp
    refine e_2 rfl rfl ?_
    refine e_0 rfl ?_
    refine e_39 rfl (fun h1 => ?_) (fun h1 => ?_)
    · exact absurd (show nI 60 ≤ nI i from h1) (nI_ge (by omega) (by omega))
    · refine e_4 rfl rfl ?_
      refine e_v0 rfl (by first | exact p_14 hr.1 | exact hr.2.1.1 | exact (p_sh15 hr.1).1) rfl (by decide) rfl (Nat.le_of_ble_eq_true rfl) (kc_here hr eE hE (by omega)) ?_
      refine e_0 rfl ?_
      refine e_37 rfl (fun h2 => ?_) (fun h2 => ?_)
      · exact e_rv rfl (by first | rfl | (unfold skF; rw [if_neg h2]))
      · refine e_4 rfl rfl ?_
        refine e_28 rfl rfl ?_
        refine c_gp hr.1 rfl rfl ?_
        refine e_0 rfl ?_
        refine e_9 rfl ?_
        refine c_pp (p' := (p + 1)) hr.1 rfl rfl (by first | rfl | (simp only [← nI_add, ← pk_mul]; rfl) | (simp only [nI_add, pk_mul, nI_1]; done)) ?_
        refine e_8 rfl rfl rfl ?_
        refine e_42 rfl ?_
        refine e_lv [0, 1] rfl rfl ?_
        show ps_To _ _ _ _ (2, [(1, .int _), (0, .ref _)], [], _)
        rw [nI_1]
        have h := ih (i + 1) (p + 1) (by omega) (by omega)
        unfold skF
        rw [if_pos h2]
        exact h
theorem kc_skip (hr : isRd ν t) (eE : ps_i ν t 0 = nI E) (hE : E ≤ 60) (hp : p < 2 ^ 30) : ps_Ev (ps_XX L xs) (d + 4) j_X0_skipBlanks [.ref 14] (RC ν (p) (σ)) none (RC ν (skF (chF0 (ps_i ν (t + 1)) E) 60 p) (σ)) := by
  refine ⟨Nat.le_of_ble_eq_true rfl, ?_⟩
  refine e_0 rfl ?_
  refine e_5 rfl rfl ?_
  exact kc_skip_loop (L := L) (xs := xs) (d := d) hr eE hE 60 0 p (by omega) (by omega)
theorem kc_fig_ok (hr : isRd ν t) (eE : ps_i ν t 0 = nI E) (hE : E ≤ 60) (hp : p < 2 ^ 30) {lo hi : Nat} (hlo : lo ≤ 9) (hhi : hi ≤ 9) (hh : figP (chF0 (ps_i ν (t + 1)) E) lo hi p) : ps_Ev (ps_XX L xs) (d + 4) j_X0_takeFigure [.ref 14, .int (nI lo), .int (nI hi)] (RC ν (p) (σ)) (some (.int (nI (dvF (chF0 (ps_i ν (t + 1)) E) p)))) (RC ν (p + 1) (σ)) := by
  refine ⟨Nat.le_of_ble_eq_true rfl, ?_⟩
  have hcl := fig_cl (c := (chF0 (ps_i ν (t + 1)) E)) (p := p) hlo hhi
  refine e_4 rfl rfl ?_
  refine e_v0 rfl (by first | exact p_14 hr.1 | exact hr.2.1.1 | exact (p_sh15 hr.1).1) rfl (by decide) rfl (Nat.le_of_ble_eq_true rfl) (kc_here hr eE hE (by omega)) ?_
  refine e_0 rfl ?_
  refine e_10 rfl ?_
  refine e_5 rfl rfl ?_
  refine e_2 rfl rfl ?_
  refine e_2 rfl rfl ?_
  refine e_38 rfl (fun h1 => ?_) (fun h1 => ?_)
  · exact absurd h1 (hcl.mpr hh).1
  · refine e_2 rfl rfl ?_
    refine e_2 rfl rfl ?_
    refine e_41 rfl (fun h2 => ?_) (fun h2 => ?_)
    · refine e_4 rfl rfl ?_
      refine e_28 rfl rfl ?_
      refine c_gp hr.1 rfl rfl ?_
      refine e_0 rfl ?_
      refine e_9 rfl ?_
      refine c_pp (p' := (p + 1)) hr.1 rfl rfl (by first | rfl | (simp only [← nI_add, ← pk_mul]; rfl) | (simp only [nI_add, pk_mul, nI_1]; done)) ?_
      refine e_2 rfl rfl ?_
      exact e_ri rfl rfl (by exact (fig_dv hh hlo hhi).1) (rfl)
    · exact absurd (hcl.mpr hh).2 h2
theorem kc_fig_no (hr : isRd ν t) (eE : ps_i ν t 0 = nI E) (hE : E ≤ 60) (hp : p < 2 ^ 30) {lo hi : Nat} (hlo : lo ≤ 9) (hhi : hi ≤ 9) (hh : ¬ figP (chF0 (ps_i ν (t + 1)) E) lo hi p) : ps_Ev (ps_XX L xs) (d + 4) j_X0_takeFigure [.ref 14, .int (nI lo), .int (nI hi)] (RC ν (p) (σ)) (some (.int (-1))) (RC ν (p) (σ)) := by
  refine ⟨Nat.le_of_ble_eq_true rfl, ?_⟩
  have hcl := fig_cl (c := (chF0 (ps_i ν (t + 1)) E)) (p := p) hlo hhi
  refine e_4 rfl rfl ?_
  refine e_v0 rfl (by first | exact p_14 hr.1 | exact hr.2.1.1 | exact (p_sh15 hr.1).1) rfl (by decide) rfl (Nat.le_of_ble_eq_true rfl) (kc_here hr eE hE (by omega)) ?_
  refine e_0 rfl ?_
  refine e_10 rfl ?_
  refine e_5 rfl rfl ?_
  refine e_2 rfl rfl ?_
  refine e_2 rfl rfl ?_
  refine e_38 rfl (fun h1 => ?_) (fun h1 => ?_)
  · refine e_0 rfl ?_
    exact e_ri rfl rfl (by rfl) (rfl)
  · refine e_2 rfl rfl ?_
    refine e_2 rfl rfl ?_
    refine e_41 rfl (fun h2 => ?_) (fun h2 => ?_)
    · exact absurd (hcl.mp ⟨h1, h2⟩) hh
    · refine e_0 rfl ?_
      exact e_ri rfl rfl (by rfl) (rfl)
theorem kc_kind_loop (hr : isRd ν t) (eE : ps_i ν t 0 = nI E) (hE : E ≤ 60) (hp : p < 2 ^ 31) : ∀ (n i : Nat), i + n = 6 → (∀ j, j < i → ¬ (ps_tab 0).getD j 0 = (chF0 (ps_i ν (t + 1)) E) p) → ps_To (ps_XX L xs) (ps_Ev (ps_XX L xs) (d + 3)) j_X0_kindHere (ps_rt j_X0_kindHere (some (.int (kdF ((chF0 (ps_i ν (t + 1)) E) p)))) (RC ν p σ)) (2, [(1, .int (nI i)), (0, .ref 14)], [], RC ν p σ) := by
  intro n
  induction n with
  | zero =>
    intro i hi hj
    obtain rfl : i = 6 := by omega
    refine e_2 rfl rfl ?_
    refine e_47 rfl ?_
    refine e_54x rfl (by decide) ?_
    rw [show (ps_XX L xs (Int32.toNatClampNeg 0)).1 = 6 by rw [show Int32.toNatClampNeg 0 = 0 from rfl, ps_XXt (by omega)]]
    refine e_39 rfl (fun h1 => ?_) (fun h1 => ?_)
    · refine e_0 rfl ?_
      exact e_ri rfl rfl (by exact (kd_none hj).symm) (rfl)
    · exact absurd (nI_le (a := 6) (Nat.le_refl _) (by omega)) h1
  | succ n ih =>
    intro i hi hj
    refine e_2 rfl rfl ?_
    refine e_47 rfl ?_
    refine e_54x rfl (by decide) ?_
    rw [show (ps_XX L xs (Int32.toNatClampNeg 0)).1 = 6 by rw [show Int32.toNatClampNeg 0 = 0 from rfl, ps_XXt (by omega)]]
    refine e_39 rfl (fun h1 => ?_) (fun h1 => ?_)
    · exact absurd (show nI 6 ≤ nI i from h1) (nI_ge (by omega) (by omega))
    · refine e_47 rfl ?_
      refine e_2 rfl rfl ?_
      refine e_48x rfl (by decide) (by rw [show (ps_XX L xs (Int32.toNatClampNeg 0)).1 = 6 by rw [show Int32.toNatClampNeg 0 = 0 from rfl, ps_XXt (by omega)]]; exact vp_in_nI (by omega) (by omega)) ?_
      rw [show (ps_XX L xs (Int32.toNatClampNeg 0)).2 (nI i).toNatClampNeg = (ps_tab 0).getD i 0 by rw [show Int32.toNatClampNeg 0 = 0 from rfl, ps_XXt (by omega), nI_clamp (by omega)]]
      refine e_4 rfl rfl ?_
      refine e_v0 rfl (by first | exact p_14 hr.1 | exact hr.2.1.1 | exact (p_sh15 hr.1).1) rfl (by decide) rfl (Nat.le_of_ble_eq_true rfl) (kc_here hr eE hE hp) ?_
      refine e_37 rfl (fun h2 => ?_) (fun h2 => ?_)
      · refine e_8 rfl rfl rfl ?_
        refine e_42 rfl ?_
        rw [nI_1]
        exact ih (i + 1) (by omega) (fun j hji => by rcases (show j = i ∨ j < i by omega) with rfl | z; exact h2; exact hj j z)
      · refine e_2 rfl rfl ?_
        exact e_ri rfl rfl (by rw [← h2]; exact (kd_tab i (by omega)).symm) (rfl)
theorem kc_kind (hr : isRd ν t) (eE : ps_i ν t 0 = nI E) (hE : E ≤ 60) (hp : p < 2 ^ 31) : ps_Ev (ps_XX L xs) (d + 4) j_X0_kindHere [.ref 14] (RC ν (p) (σ)) (some (.int (kdF ((chF0 (ps_i ν (t + 1)) E) p)))) (RC ν (p) (σ)) := by
  refine ⟨Nat.le_of_ble_eq_true rfl, ?_⟩
  refine e_0 rfl ?_
  refine e_5 rfl rfl ?_
  exact kc_kind_loop (L := L) (xs := xs) (d := d) hr eE hE hp 6 0 (by omega) (fun j hj => absurd hj (by omega))
theorem kc_hull (hr : isRd ν t) (eE : ps_i ν t 0 = nI E) (hE : E ≤ 60) {q : Nat} (hq : q < 2 ^ 20) : ps_Ev (ps_XX L xs) (d + 5) j_X0_takesHull [.ref 14] (RC ν q σ) (some (.int (b2i (hullN (chF0 (ps_i ν (t + 1)) E) q = 7)))) (RC ν (q + hullN (chF0 (ps_i ν (t + 1)) E) q) (if hullN (chF0 (ps_i ν (t + 1)) E) q = 7 then upd (upd (upd (upd (upd (upd (upd (upd (upd σ 0 (10 * (nI (dvF (chF0 (ps_i ν (t + 1)) E) (q + 1))) + (nI (dvF (chF0 (ps_i ν (t + 1)) E) (q + 2))))) 1 (nI (dvF (chF0 (ps_i ν (t + 1)) E) (q + 3)))) 2 (nI (dvF (chF0 (ps_i ν (t + 1)) E) (q + 4)))) 3 0) 4 (10 * (nI (dvF (chF0 (ps_i ν (t + 1)) E) (q + 5))) + (nI (dvF (chF0 (ps_i ν (t + 1)) E) (q + 6))))) 5 0) 6 0) 7 0) 8 0 else σ)) := by
  by_cases ha : (chF0 (ps_i ν (t + 1)) E) q = 119
  · skip
    by_cases hb : figP (chF0 (ps_i ν (t + 1)) E) 0 9 (q + 1)
    · have hdv1 := fig_dv hb (by omega) (by omega)
      by_cases hc : figP (chF0 (ps_i ν (t + 1)) E) 0 9 (q + 2)
      · have hdv2 := fig_dv hc (by omega) (by omega)
        by_cases hd : figP (chF0 (ps_i ν (t + 1)) E) 1 9 (q + 3)
        · have hdv3 := fig_dv hd (by omega) (by omega)
          by_cases he : figP (chF0 (ps_i ν (t + 1)) E) 0 9 (q + 4)
          · have hdv4 := fig_dv he (by omega) (by omega)
            by_cases hf : figP (chF0 (ps_i ν (t + 1)) E) 0 4 (q + 5)
            · have hdv5 := fig_dv hf (by omega) (by omega)
              by_cases hd0 : dvF (chF0 (ps_i ν (t + 1)) E) (q + 5) = 0
              · skip
                have ehl : hlN (dvF (chF0 (ps_i ν (t + 1)) E) (q + 5)) = 1 := by unfold hlN; rw [if_pos hd0]
                have ehh : hhN (dvF (chF0 (ps_i ν (t + 1)) E) (q + 5)) = 9 := by unfold hhN; rw [hd0]; rfl
                by_cases hg : figP (chF0 (ps_i ν (t + 1)) E) (hlN (dvF (chF0 (ps_i ν (t + 1)) E) (q + 5))) (hhN (dvF (chF0 (ps_i ν (t + 1)) E) (q + 5))) (q + 6)
                · have hgx := hg
                  rw [ehl, ehh] at hgx
                  have hdv6 := fig_dv hgx (by omega) (by omega)
                  have e : hullN (chF0 (ps_i ν (t + 1)) E) q = 7 := by
                    unfold hullN
                    rw [if_neg (Classical.not_not.mpr ha), if_neg (Classical.not_not.mpr hb), if_neg (Classical.not_not.mpr hc), if_neg (Classical.not_not.mpr hd), if_neg (Classical.not_not.mpr he), if_neg (Classical.not_not.mpr hf), if_neg (Classical.not_not.mpr hg)]
                  rw [e]
                  refine ⟨Nat.le_of_ble_eq_true rfl, ?_⟩
                  refine e_4 rfl rfl ?_
                  refine e_v0 rfl (by first | exact p_14 hr.1 | exact hr.2.1.1 | exact (p_sh15 hr.1).1) rfl (by decide) rfl (Nat.le_of_ble_eq_true rfl) (kc_here hr eE hE (by omega)) ?_
                  refine e_0 rfl ?_
                  refine e_36 rfl (fun h1 => ?_) (fun h1 => ?_)
                  · refine e_4 rfl rfl ?_
                    refine e_28 rfl rfl ?_
                    refine c_gp hr.1 rfl rfl ?_
                    refine e_0 rfl ?_
                    refine e_9 rfl ?_
                    refine c_pp (p' := (q + 1)) hr.1 rfl rfl (by first | rfl | (simp only [← nI_add, ← pk_mul]; rfl) | (simp only [nI_add, pk_mul, nI_1]; done)) ?_
                    refine e_4 rfl rfl ?_
                    refine e_0 rfl ?_
                    refine e_0 rfl ?_
                    refine e_v2 rfl (by first | exact p_14 hr.1 | exact hr.2.1.1 | exact (p_sh15 hr.1).1) rfl (by decide) rfl (Nat.le_of_ble_eq_true rfl) (kc_fig_ok (p := q + 1) (lo := 0) (hi := 9) hr eE hE (by omega) (by omega) (by omega) hb) ?_
                    refine e_5 rfl rfl ?_
                    refine e_2 rfl rfl ?_
                    refine e_33 rfl (fun h2 => ?_) (fun h2 => ?_)
                    · refine e_4 rfl rfl ?_
                      refine e_0 rfl ?_
                      refine e_0 rfl ?_
                      refine e_v2 rfl (by first | exact p_14 hr.1 | exact hr.2.1.1 | exact (p_sh15 hr.1).1) rfl (by decide) rfl (Nat.le_of_ble_eq_true rfl) (kc_fig_ok (p := q + 2) (lo := 0) (hi := 9) hr eE hE (by omega) (by omega) (by omega) hc) ?_
                      refine e_5 rfl rfl ?_
                      refine e_2 rfl rfl ?_
                      refine e_33 rfl (fun h3 => ?_) (fun h3 => ?_)
                      · refine e_4 rfl rfl ?_
                        refine e_0 rfl ?_
                        refine e_0 rfl ?_
                        refine e_v2 rfl (by first | exact p_14 hr.1 | exact hr.2.1.1 | exact (p_sh15 hr.1).1) rfl (by decide) rfl (Nat.le_of_ble_eq_true rfl) (kc_fig_ok (p := q + 3) (lo := 1) (hi := 9) hr eE hE (by omega) (by omega) (by omega) hd) ?_
                        refine e_5 rfl rfl ?_
                        refine e_2 rfl rfl ?_
                        refine e_33 rfl (fun h4 => ?_) (fun h4 => ?_)
                        · refine e_4 rfl rfl ?_
                          refine e_0 rfl ?_
                          refine e_0 rfl ?_
                          refine e_v2 rfl (by first | exact p_14 hr.1 | exact hr.2.1.1 | exact (p_sh15 hr.1).1) rfl (by decide) rfl (Nat.le_of_ble_eq_true rfl) (kc_fig_ok (p := q + 4) (lo := 0) (hi := 9) hr eE hE (by omega) (by omega) (by omega) he) ?_
                          refine e_5 rfl rfl ?_
                          refine e_2 rfl rfl ?_
                          refine e_33 rfl (fun h5 => ?_) (fun h5 => ?_)
                          · refine e_4 rfl rfl ?_
                            refine e_0 rfl ?_
                            refine e_0 rfl ?_
                            refine e_v2 rfl (by first | exact p_14 hr.1 | exact hr.2.1.1 | exact (p_sh15 hr.1).1) rfl (by decide) rfl (Nat.le_of_ble_eq_true rfl) (kc_fig_ok (p := q + 5) (lo := 0) (hi := 4) hr eE hE (by omega) (by omega) (by omega) hf) ?_
                            refine e_5 rfl rfl ?_
                            refine e_2 rfl rfl ?_
                            refine e_33 rfl (fun h6 => ?_) (fun h6 => ?_)
                            · refine e_4 rfl rfl ?_
                              refine e_2 rfl rfl ?_
                              refine e_31 rfl (fun h7 => ?_) (fun h7 => ?_)
                              · exact absurd (by rw [hd0]; rfl) h7
                              · refine e_0 rfl ?_
                                refine e_42 rfl ?_
                                refine e_2 rfl rfl ?_
                                refine e_0 rfl ?_
                                refine e_37 rfl (fun h8 => ?_) (fun h8 => ?_)
                                · refine e_0 rfl ?_
                                  refine e_v2 rfl (by first | exact p_14 hr.1 | exact hr.2.1.1 | exact (p_sh15 hr.1).1) rfl (by decide) rfl (Nat.le_of_ble_eq_true rfl) (kc_fig_ok (p := q + 6) (lo := 1) (hi := 9) hr eE hE (by omega) (by omega) (by omega) hgx) ?_
                                  refine e_5 rfl rfl ?_
                                  refine e_2 rfl rfl ?_
                                  refine e_33 rfl (fun h9 => ?_) (fun h9 => ?_)
                                  · refine e_4 rfl rfl ?_
                                    refine e_gr rfl (p_14 hr.1) rfl (p_r14 hr.1) ?_
                                    refine e_0 rfl ?_
                                    refine e_2 rfl rfl ?_
                                    refine e_11 rfl ?_
                                    refine e_2 rfl rfl ?_
                                    refine e_9 rfl ?_
                                    refine e_2 rfl rfl ?_
                                    refine e_2 rfl rfl ?_
                                    refine e_0 rfl ?_
                                    refine e_2 rfl rfl ?_
                                    refine e_11 rfl ?_
                                    refine e_2 rfl rfl ?_
                                    refine e_9 rfl ?_
                                    refine e_v4v rfl (by first | exact p_14 hr.1 | exact hr.2.1.1 | exact (p_sh15 hr.1).1) rfl (by decide) rfl (Nat.le_of_ble_eq_true rfl) (ss_launch (μ := ps_sI ν 14 2 (nI (q + 7))) (p_sh15 hr.1.sI) _ _ _ _) ?_
                                    refine e_0 rfl ?_
                                    exact e_rz rfl rfl (by decide) (by rfl) (rfl)
                                  · exact absurd (nI_pos' (by omega)) h9
                                · exact absurd h8 (by rw [hd0]; decide)
                            · exact absurd (nI_pos' (by omega)) h6
                          · exact absurd (nI_pos' (by omega)) h5
                        · exact absurd (nI_pos' (by omega)) h4
                      · exact absurd (nI_pos' (by omega)) h3
                    · exact absurd (nI_pos' (by omega)) h2
                  · exact absurd ha h1
                · have hgx := hg
                  rw [ehl, ehh] at hgx
                  have e : hullN (chF0 (ps_i ν (t + 1)) E) q = 6 := by
                    unfold hullN
                    rw [if_neg (Classical.not_not.mpr ha), if_neg (Classical.not_not.mpr hb), if_neg (Classical.not_not.mpr hc), if_neg (Classical.not_not.mpr hd), if_neg (Classical.not_not.mpr he), if_neg (Classical.not_not.mpr hf), if_pos hg]
                  rw [e]
                  refine ⟨Nat.le_of_ble_eq_true rfl, ?_⟩
                  refine e_4 rfl rfl ?_
                  refine e_v0 rfl (by first | exact p_14 hr.1 | exact hr.2.1.1 | exact (p_sh15 hr.1).1) rfl (by decide) rfl (Nat.le_of_ble_eq_true rfl) (kc_here hr eE hE (by omega)) ?_
                  refine e_0 rfl ?_
                  refine e_36 rfl (fun h1 => ?_) (fun h1 => ?_)
                  · refine e_4 rfl rfl ?_
                    refine e_28 rfl rfl ?_
                    refine c_gp hr.1 rfl rfl ?_
                    refine e_0 rfl ?_
                    refine e_9 rfl ?_
                    refine c_pp (p' := (q + 1)) hr.1 rfl rfl (by first | rfl | (simp only [← nI_add, ← pk_mul]; rfl) | (simp only [nI_add, pk_mul, nI_1]; done)) ?_
                    refine e_4 rfl rfl ?_
                    refine e_0 rfl ?_
                    refine e_0 rfl ?_
                    refine e_v2 rfl (by first | exact p_14 hr.1 | exact hr.2.1.1 | exact (p_sh15 hr.1).1) rfl (by decide) rfl (Nat.le_of_ble_eq_true rfl) (kc_fig_ok (p := q + 1) (lo := 0) (hi := 9) hr eE hE (by omega) (by omega) (by omega) hb) ?_
                    refine e_5 rfl rfl ?_
                    refine e_2 rfl rfl ?_
                    refine e_33 rfl (fun h2 => ?_) (fun h2 => ?_)
                    · refine e_4 rfl rfl ?_
                      refine e_0 rfl ?_
                      refine e_0 rfl ?_
                      refine e_v2 rfl (by first | exact p_14 hr.1 | exact hr.2.1.1 | exact (p_sh15 hr.1).1) rfl (by decide) rfl (Nat.le_of_ble_eq_true rfl) (kc_fig_ok (p := q + 2) (lo := 0) (hi := 9) hr eE hE (by omega) (by omega) (by omega) hc) ?_
                      refine e_5 rfl rfl ?_
                      refine e_2 rfl rfl ?_
                      refine e_33 rfl (fun h3 => ?_) (fun h3 => ?_)
                      · refine e_4 rfl rfl ?_
                        refine e_0 rfl ?_
                        refine e_0 rfl ?_
                        refine e_v2 rfl (by first | exact p_14 hr.1 | exact hr.2.1.1 | exact (p_sh15 hr.1).1) rfl (by decide) rfl (Nat.le_of_ble_eq_true rfl) (kc_fig_ok (p := q + 3) (lo := 1) (hi := 9) hr eE hE (by omega) (by omega) (by omega) hd) ?_
                        refine e_5 rfl rfl ?_
                        refine e_2 rfl rfl ?_
                        refine e_33 rfl (fun h4 => ?_) (fun h4 => ?_)
                        · refine e_4 rfl rfl ?_
                          refine e_0 rfl ?_
                          refine e_0 rfl ?_
                          refine e_v2 rfl (by first | exact p_14 hr.1 | exact hr.2.1.1 | exact (p_sh15 hr.1).1) rfl (by decide) rfl (Nat.le_of_ble_eq_true rfl) (kc_fig_ok (p := q + 4) (lo := 0) (hi := 9) hr eE hE (by omega) (by omega) (by omega) he) ?_
                          refine e_5 rfl rfl ?_
                          refine e_2 rfl rfl ?_
                          refine e_33 rfl (fun h5 => ?_) (fun h5 => ?_)
                          · refine e_4 rfl rfl ?_
                            refine e_0 rfl ?_
                            refine e_0 rfl ?_
                            refine e_v2 rfl (by first | exact p_14 hr.1 | exact hr.2.1.1 | exact (p_sh15 hr.1).1) rfl (by decide) rfl (Nat.le_of_ble_eq_true rfl) (kc_fig_ok (p := q + 5) (lo := 0) (hi := 4) hr eE hE (by omega) (by omega) (by omega) hf) ?_
                            refine e_5 rfl rfl ?_
                            refine e_2 rfl rfl ?_
                            refine e_33 rfl (fun h6 => ?_) (fun h6 => ?_)
                            · refine e_4 rfl rfl ?_
                              refine e_2 rfl rfl ?_
                              refine e_31 rfl (fun h7 => ?_) (fun h7 => ?_)
                              · exact absurd (by rw [hd0]; rfl) h7
                              · refine e_0 rfl ?_
                                refine e_42 rfl ?_
                                refine e_2 rfl rfl ?_
                                refine e_0 rfl ?_
                                refine e_37 rfl (fun h8 => ?_) (fun h8 => ?_)
                                · refine e_0 rfl ?_
                                  refine e_v2 rfl (by first | exact p_14 hr.1 | exact hr.2.1.1 | exact (p_sh15 hr.1).1) rfl (by decide) rfl (Nat.le_of_ble_eq_true rfl) (kc_fig_no (p := q + 6) (lo := 1) (hi := 9) hr eE hE (by omega) (by omega) (by omega) hgx) ?_
                                  refine e_5 rfl rfl ?_
                                  refine e_2 rfl rfl ?_
                                  refine e_33 rfl (fun h9 => ?_) (fun h9 => ?_)
                                  · exact absurd h9 (by decide)
                                  · refine e_0 rfl ?_
                                    exact e_rz rfl rfl (by decide) (by rfl) (rfl)
                                · exact absurd h8 (by rw [hd0]; decide)
                            · exact absurd (nI_pos' (by omega)) h6
                          · exact absurd (nI_pos' (by omega)) h5
                        · exact absurd (nI_pos' (by omega)) h4
                      · exact absurd (nI_pos' (by omega)) h3
                    · exact absurd (nI_pos' (by omega)) h2
                  · exact absurd ha h1
              · skip
                by_cases hd4 : dvF (chF0 (ps_i ν (t + 1)) E) (q + 5) = 4
                · skip
                  have ehl : hlN (dvF (chF0 (ps_i ν (t + 1)) E) (q + 5)) = 0 := by unfold hlN; rw [hd4]; rfl
                  have ehh : hhN (dvF (chF0 (ps_i ν (t + 1)) E) (q + 5)) = 0 := by unfold hhN; rw [if_pos hd4]
                  by_cases hg : figP (chF0 (ps_i ν (t + 1)) E) (hlN (dvF (chF0 (ps_i ν (t + 1)) E) (q + 5))) (hhN (dvF (chF0 (ps_i ν (t + 1)) E) (q + 5))) (q + 6)
                  · have hgx := hg
                    rw [ehl, ehh] at hgx
                    have hdv6 := fig_dv hgx (by omega) (by omega)
                    have e : hullN (chF0 (ps_i ν (t + 1)) E) q = 7 := by
                      unfold hullN
                      rw [if_neg (Classical.not_not.mpr ha), if_neg (Classical.not_not.mpr hb), if_neg (Classical.not_not.mpr hc), if_neg (Classical.not_not.mpr hd), if_neg (Classical.not_not.mpr he), if_neg (Classical.not_not.mpr hf), if_neg (Classical.not_not.mpr hg)]
                    rw [e]
                    refine ⟨Nat.le_of_ble_eq_true rfl, ?_⟩
                    refine e_4 rfl rfl ?_
                    refine e_v0 rfl (by first | exact p_14 hr.1 | exact hr.2.1.1 | exact (p_sh15 hr.1).1) rfl (by decide) rfl (Nat.le_of_ble_eq_true rfl) (kc_here hr eE hE (by omega)) ?_
                    refine e_0 rfl ?_
                    refine e_36 rfl (fun h1 => ?_) (fun h1 => ?_)
                    · refine e_4 rfl rfl ?_
                      refine e_28 rfl rfl ?_
                      refine c_gp hr.1 rfl rfl ?_
                      refine e_0 rfl ?_
                      refine e_9 rfl ?_
                      refine c_pp (p' := (q + 1)) hr.1 rfl rfl (by first | rfl | (simp only [← nI_add, ← pk_mul]; rfl) | (simp only [nI_add, pk_mul, nI_1]; done)) ?_
                      refine e_4 rfl rfl ?_
                      refine e_0 rfl ?_
                      refine e_0 rfl ?_
                      refine e_v2 rfl (by first | exact p_14 hr.1 | exact hr.2.1.1 | exact (p_sh15 hr.1).1) rfl (by decide) rfl (Nat.le_of_ble_eq_true rfl) (kc_fig_ok (p := q + 1) (lo := 0) (hi := 9) hr eE hE (by omega) (by omega) (by omega) hb) ?_
                      refine e_5 rfl rfl ?_
                      refine e_2 rfl rfl ?_
                      refine e_33 rfl (fun h2 => ?_) (fun h2 => ?_)
                      · refine e_4 rfl rfl ?_
                        refine e_0 rfl ?_
                        refine e_0 rfl ?_
                        refine e_v2 rfl (by first | exact p_14 hr.1 | exact hr.2.1.1 | exact (p_sh15 hr.1).1) rfl (by decide) rfl (Nat.le_of_ble_eq_true rfl) (kc_fig_ok (p := q + 2) (lo := 0) (hi := 9) hr eE hE (by omega) (by omega) (by omega) hc) ?_
                        refine e_5 rfl rfl ?_
                        refine e_2 rfl rfl ?_
                        refine e_33 rfl (fun h3 => ?_) (fun h3 => ?_)
                        · refine e_4 rfl rfl ?_
                          refine e_0 rfl ?_
                          refine e_0 rfl ?_
                          refine e_v2 rfl (by first | exact p_14 hr.1 | exact hr.2.1.1 | exact (p_sh15 hr.1).1) rfl (by decide) rfl (Nat.le_of_ble_eq_true rfl) (kc_fig_ok (p := q + 3) (lo := 1) (hi := 9) hr eE hE (by omega) (by omega) (by omega) hd) ?_
                          refine e_5 rfl rfl ?_
                          refine e_2 rfl rfl ?_
                          refine e_33 rfl (fun h4 => ?_) (fun h4 => ?_)
                          · refine e_4 rfl rfl ?_
                            refine e_0 rfl ?_
                            refine e_0 rfl ?_
                            refine e_v2 rfl (by first | exact p_14 hr.1 | exact hr.2.1.1 | exact (p_sh15 hr.1).1) rfl (by decide) rfl (Nat.le_of_ble_eq_true rfl) (kc_fig_ok (p := q + 4) (lo := 0) (hi := 9) hr eE hE (by omega) (by omega) (by omega) he) ?_
                            refine e_5 rfl rfl ?_
                            refine e_2 rfl rfl ?_
                            refine e_33 rfl (fun h5 => ?_) (fun h5 => ?_)
                            · refine e_4 rfl rfl ?_
                              refine e_0 rfl ?_
                              refine e_0 rfl ?_
                              refine e_v2 rfl (by first | exact p_14 hr.1 | exact hr.2.1.1 | exact (p_sh15 hr.1).1) rfl (by decide) rfl (Nat.le_of_ble_eq_true rfl) (kc_fig_ok (p := q + 5) (lo := 0) (hi := 4) hr eE hE (by omega) (by omega) (by omega) hf) ?_
                              refine e_5 rfl rfl ?_
                              refine e_2 rfl rfl ?_
                              refine e_33 rfl (fun h6 => ?_) (fun h6 => ?_)
                              · refine e_4 rfl rfl ?_
                                refine e_2 rfl rfl ?_
                                refine e_31 rfl (fun h7 => ?_) (fun h7 => ?_)
                                · refine e_0 rfl ?_
                                  refine e_2 rfl rfl ?_
                                  refine e_0 rfl ?_
                                  refine e_37 rfl (fun h8 => ?_) (fun h8 => ?_)
                                  · exact absurd (by rw [hd4]; rfl) h8
                                  · refine e_0 rfl ?_
                                    refine e_42 rfl ?_
                                    refine e_v2 rfl (by first | exact p_14 hr.1 | exact hr.2.1.1 | exact (p_sh15 hr.1).1) rfl (by decide) rfl (Nat.le_of_ble_eq_true rfl) (kc_fig_ok (p := q + 6) (lo := 0) (hi := 0) hr eE hE (by omega) (by omega) (by omega) hgx) ?_
                                    refine e_5 rfl rfl ?_
                                    refine e_2 rfl rfl ?_
                                    refine e_33 rfl (fun h9 => ?_) (fun h9 => ?_)
                                    · refine e_4 rfl rfl ?_
                                      refine e_gr rfl (p_14 hr.1) rfl (p_r14 hr.1) ?_
                                      refine e_0 rfl ?_
                                      refine e_2 rfl rfl ?_
                                      refine e_11 rfl ?_
                                      refine e_2 rfl rfl ?_
                                      refine e_9 rfl ?_
                                      refine e_2 rfl rfl ?_
                                      refine e_2 rfl rfl ?_
                                      refine e_0 rfl ?_
                                      refine e_2 rfl rfl ?_
                                      refine e_11 rfl ?_
                                      refine e_2 rfl rfl ?_
                                      refine e_9 rfl ?_
                                      refine e_v4v rfl (by first | exact p_14 hr.1 | exact hr.2.1.1 | exact (p_sh15 hr.1).1) rfl (by decide) rfl (Nat.le_of_ble_eq_true rfl) (ss_launch (μ := ps_sI ν 14 2 (nI (q + 7))) (p_sh15 hr.1.sI) _ _ _ _) ?_
                                      refine e_0 rfl ?_
                                      exact e_rz rfl rfl (by decide) (by rfl) (rfl)
                                    · exact absurd (nI_pos' (by omega)) h9
                                · exact absurd h7 (by rw [hd4]; decide)
                              · exact absurd (nI_pos' (by omega)) h6
                            · exact absurd (nI_pos' (by omega)) h5
                          · exact absurd (nI_pos' (by omega)) h4
                        · exact absurd (nI_pos' (by omega)) h3
                      · exact absurd (nI_pos' (by omega)) h2
                    · exact absurd ha h1
                  · have hgx := hg
                    rw [ehl, ehh] at hgx
                    have e : hullN (chF0 (ps_i ν (t + 1)) E) q = 6 := by
                      unfold hullN
                      rw [if_neg (Classical.not_not.mpr ha), if_neg (Classical.not_not.mpr hb), if_neg (Classical.not_not.mpr hc), if_neg (Classical.not_not.mpr hd), if_neg (Classical.not_not.mpr he), if_neg (Classical.not_not.mpr hf), if_pos hg]
                    rw [e]
                    refine ⟨Nat.le_of_ble_eq_true rfl, ?_⟩
                    refine e_4 rfl rfl ?_
                    refine e_v0 rfl (by first | exact p_14 hr.1 | exact hr.2.1.1 | exact (p_sh15 hr.1).1) rfl (by decide) rfl (Nat.le_of_ble_eq_true rfl) (kc_here hr eE hE (by omega)) ?_
                    refine e_0 rfl ?_
                    refine e_36 rfl (fun h1 => ?_) (fun h1 => ?_)
                    · refine e_4 rfl rfl ?_
                      refine e_28 rfl rfl ?_
                      refine c_gp hr.1 rfl rfl ?_
                      refine e_0 rfl ?_
                      refine e_9 rfl ?_
                      refine c_pp (p' := (q + 1)) hr.1 rfl rfl (by first | rfl | (simp only [← nI_add, ← pk_mul]; rfl) | (simp only [nI_add, pk_mul, nI_1]; done)) ?_
                      refine e_4 rfl rfl ?_
                      refine e_0 rfl ?_
                      refine e_0 rfl ?_
                      refine e_v2 rfl (by first | exact p_14 hr.1 | exact hr.2.1.1 | exact (p_sh15 hr.1).1) rfl (by decide) rfl (Nat.le_of_ble_eq_true rfl) (kc_fig_ok (p := q + 1) (lo := 0) (hi := 9) hr eE hE (by omega) (by omega) (by omega) hb) ?_
                      refine e_5 rfl rfl ?_
                      refine e_2 rfl rfl ?_
                      refine e_33 rfl (fun h2 => ?_) (fun h2 => ?_)
                      · refine e_4 rfl rfl ?_
                        refine e_0 rfl ?_
                        refine e_0 rfl ?_
                        refine e_v2 rfl (by first | exact p_14 hr.1 | exact hr.2.1.1 | exact (p_sh15 hr.1).1) rfl (by decide) rfl (Nat.le_of_ble_eq_true rfl) (kc_fig_ok (p := q + 2) (lo := 0) (hi := 9) hr eE hE (by omega) (by omega) (by omega) hc) ?_
                        refine e_5 rfl rfl ?_
                        refine e_2 rfl rfl ?_
                        refine e_33 rfl (fun h3 => ?_) (fun h3 => ?_)
                        · refine e_4 rfl rfl ?_
                          refine e_0 rfl ?_
                          refine e_0 rfl ?_
                          refine e_v2 rfl (by first | exact p_14 hr.1 | exact hr.2.1.1 | exact (p_sh15 hr.1).1) rfl (by decide) rfl (Nat.le_of_ble_eq_true rfl) (kc_fig_ok (p := q + 3) (lo := 1) (hi := 9) hr eE hE (by omega) (by omega) (by omega) hd) ?_
                          refine e_5 rfl rfl ?_
                          refine e_2 rfl rfl ?_
                          refine e_33 rfl (fun h4 => ?_) (fun h4 => ?_)
                          · refine e_4 rfl rfl ?_
                            refine e_0 rfl ?_
                            refine e_0 rfl ?_
                            refine e_v2 rfl (by first | exact p_14 hr.1 | exact hr.2.1.1 | exact (p_sh15 hr.1).1) rfl (by decide) rfl (Nat.le_of_ble_eq_true rfl) (kc_fig_ok (p := q + 4) (lo := 0) (hi := 9) hr eE hE (by omega) (by omega) (by omega) he) ?_
                            refine e_5 rfl rfl ?_
                            refine e_2 rfl rfl ?_
                            refine e_33 rfl (fun h5 => ?_) (fun h5 => ?_)
                            · refine e_4 rfl rfl ?_
                              refine e_0 rfl ?_
                              refine e_0 rfl ?_
                              refine e_v2 rfl (by first | exact p_14 hr.1 | exact hr.2.1.1 | exact (p_sh15 hr.1).1) rfl (by decide) rfl (Nat.le_of_ble_eq_true rfl) (kc_fig_ok (p := q + 5) (lo := 0) (hi := 4) hr eE hE (by omega) (by omega) (by omega) hf) ?_
                              refine e_5 rfl rfl ?_
                              refine e_2 rfl rfl ?_
                              refine e_33 rfl (fun h6 => ?_) (fun h6 => ?_)
                              · refine e_4 rfl rfl ?_
                                refine e_2 rfl rfl ?_
                                refine e_31 rfl (fun h7 => ?_) (fun h7 => ?_)
                                · refine e_0 rfl ?_
                                  refine e_2 rfl rfl ?_
                                  refine e_0 rfl ?_
                                  refine e_37 rfl (fun h8 => ?_) (fun h8 => ?_)
                                  · exact absurd (by rw [hd4]; rfl) h8
                                  · refine e_0 rfl ?_
                                    refine e_42 rfl ?_
                                    refine e_v2 rfl (by first | exact p_14 hr.1 | exact hr.2.1.1 | exact (p_sh15 hr.1).1) rfl (by decide) rfl (Nat.le_of_ble_eq_true rfl) (kc_fig_no (p := q + 6) (lo := 0) (hi := 0) hr eE hE (by omega) (by omega) (by omega) hgx) ?_
                                    refine e_5 rfl rfl ?_
                                    refine e_2 rfl rfl ?_
                                    refine e_33 rfl (fun h9 => ?_) (fun h9 => ?_)
                                    · exact absurd h9 (by decide)
                                    · refine e_0 rfl ?_
                                      exact e_rz rfl rfl (by decide) (by rfl) (rfl)
                                · exact absurd h7 (by rw [hd4]; decide)
                              · exact absurd (nI_pos' (by omega)) h6
                            · exact absurd (nI_pos' (by omega)) h5
                          · exact absurd (nI_pos' (by omega)) h4
                        · exact absurd (nI_pos' (by omega)) h3
                      · exact absurd (nI_pos' (by omega)) h2
                    · exact absurd ha h1
                · skip
                  have ehl : hlN (dvF (chF0 (ps_i ν (t + 1)) E) (q + 5)) = 0 := by unfold hlN; rw [if_neg hd0]
                  have ehh : hhN (dvF (chF0 (ps_i ν (t + 1)) E) (q + 5)) = 9 := by unfold hhN; rw [if_neg hd4]
                  by_cases hg : figP (chF0 (ps_i ν (t + 1)) E) (hlN (dvF (chF0 (ps_i ν (t + 1)) E) (q + 5))) (hhN (dvF (chF0 (ps_i ν (t + 1)) E) (q + 5))) (q + 6)
                  · have hgx := hg
                    rw [ehl, ehh] at hgx
                    have hdv6 := fig_dv hgx (by omega) (by omega)
                    have e : hullN (chF0 (ps_i ν (t + 1)) E) q = 7 := by
                      unfold hullN
                      rw [if_neg (Classical.not_not.mpr ha), if_neg (Classical.not_not.mpr hb), if_neg (Classical.not_not.mpr hc), if_neg (Classical.not_not.mpr hd), if_neg (Classical.not_not.mpr he), if_neg (Classical.not_not.mpr hf), if_neg (Classical.not_not.mpr hg)]
                    rw [e]
                    refine ⟨Nat.le_of_ble_eq_true rfl, ?_⟩
                    refine e_4 rfl rfl ?_
                    refine e_v0 rfl (by first | exact p_14 hr.1 | exact hr.2.1.1 | exact (p_sh15 hr.1).1) rfl (by decide) rfl (Nat.le_of_ble_eq_true rfl) (kc_here hr eE hE (by omega)) ?_
                    refine e_0 rfl ?_
                    refine e_36 rfl (fun h1 => ?_) (fun h1 => ?_)
                    · refine e_4 rfl rfl ?_
                      refine e_28 rfl rfl ?_
                      refine c_gp hr.1 rfl rfl ?_
                      refine e_0 rfl ?_
                      refine e_9 rfl ?_
                      refine c_pp (p' := (q + 1)) hr.1 rfl rfl (by first | rfl | (simp only [← nI_add, ← pk_mul]; rfl) | (simp only [nI_add, pk_mul, nI_1]; done)) ?_
                      refine e_4 rfl rfl ?_
                      refine e_0 rfl ?_
                      refine e_0 rfl ?_
                      refine e_v2 rfl (by first | exact p_14 hr.1 | exact hr.2.1.1 | exact (p_sh15 hr.1).1) rfl (by decide) rfl (Nat.le_of_ble_eq_true rfl) (kc_fig_ok (p := q + 1) (lo := 0) (hi := 9) hr eE hE (by omega) (by omega) (by omega) hb) ?_
                      refine e_5 rfl rfl ?_
                      refine e_2 rfl rfl ?_
                      refine e_33 rfl (fun h2 => ?_) (fun h2 => ?_)
                      · refine e_4 rfl rfl ?_
                        refine e_0 rfl ?_
                        refine e_0 rfl ?_
                        refine e_v2 rfl (by first | exact p_14 hr.1 | exact hr.2.1.1 | exact (p_sh15 hr.1).1) rfl (by decide) rfl (Nat.le_of_ble_eq_true rfl) (kc_fig_ok (p := q + 2) (lo := 0) (hi := 9) hr eE hE (by omega) (by omega) (by omega) hc) ?_
                        refine e_5 rfl rfl ?_
                        refine e_2 rfl rfl ?_
                        refine e_33 rfl (fun h3 => ?_) (fun h3 => ?_)
                        · refine e_4 rfl rfl ?_
                          refine e_0 rfl ?_
                          refine e_0 rfl ?_
                          refine e_v2 rfl (by first | exact p_14 hr.1 | exact hr.2.1.1 | exact (p_sh15 hr.1).1) rfl (by decide) rfl (Nat.le_of_ble_eq_true rfl) (kc_fig_ok (p := q + 3) (lo := 1) (hi := 9) hr eE hE (by omega) (by omega) (by omega) hd) ?_
                          refine e_5 rfl rfl ?_
                          refine e_2 rfl rfl ?_
                          refine e_33 rfl (fun h4 => ?_) (fun h4 => ?_)
                          · refine e_4 rfl rfl ?_
                            refine e_0 rfl ?_
                            refine e_0 rfl ?_
                            refine e_v2 rfl (by first | exact p_14 hr.1 | exact hr.2.1.1 | exact (p_sh15 hr.1).1) rfl (by decide) rfl (Nat.le_of_ble_eq_true rfl) (kc_fig_ok (p := q + 4) (lo := 0) (hi := 9) hr eE hE (by omega) (by omega) (by omega) he) ?_
                            refine e_5 rfl rfl ?_
                            refine e_2 rfl rfl ?_
                            refine e_33 rfl (fun h5 => ?_) (fun h5 => ?_)
                            · refine e_4 rfl rfl ?_
                              refine e_0 rfl ?_
                              refine e_0 rfl ?_
                              refine e_v2 rfl (by first | exact p_14 hr.1 | exact hr.2.1.1 | exact (p_sh15 hr.1).1) rfl (by decide) rfl (Nat.le_of_ble_eq_true rfl) (kc_fig_ok (p := q + 5) (lo := 0) (hi := 4) hr eE hE (by omega) (by omega) (by omega) hf) ?_
                              refine e_5 rfl rfl ?_
                              refine e_2 rfl rfl ?_
                              refine e_33 rfl (fun h6 => ?_) (fun h6 => ?_)
                              · refine e_4 rfl rfl ?_
                                refine e_2 rfl rfl ?_
                                refine e_31 rfl (fun h7 => ?_) (fun h7 => ?_)
                                · refine e_0 rfl ?_
                                  refine e_2 rfl rfl ?_
                                  refine e_0 rfl ?_
                                  refine e_37 rfl (fun h8 => ?_) (fun h8 => ?_)
                                  · refine e_0 rfl ?_
                                    refine e_v2 rfl (by first | exact p_14 hr.1 | exact hr.2.1.1 | exact (p_sh15 hr.1).1) rfl (by decide) rfl (Nat.le_of_ble_eq_true rfl) (kc_fig_ok (p := q + 6) (lo := 0) (hi := 9) hr eE hE (by omega) (by omega) (by omega) hgx) ?_
                                    refine e_5 rfl rfl ?_
                                    refine e_2 rfl rfl ?_
                                    refine e_33 rfl (fun h9 => ?_) (fun h9 => ?_)
                                    · refine e_4 rfl rfl ?_
                                      refine e_gr rfl (p_14 hr.1) rfl (p_r14 hr.1) ?_
                                      refine e_0 rfl ?_
                                      refine e_2 rfl rfl ?_
                                      refine e_11 rfl ?_
                                      refine e_2 rfl rfl ?_
                                      refine e_9 rfl ?_
                                      refine e_2 rfl rfl ?_
                                      refine e_2 rfl rfl ?_
                                      refine e_0 rfl ?_
                                      refine e_2 rfl rfl ?_
                                      refine e_11 rfl ?_
                                      refine e_2 rfl rfl ?_
                                      refine e_9 rfl ?_
                                      refine e_v4v rfl (by first | exact p_14 hr.1 | exact hr.2.1.1 | exact (p_sh15 hr.1).1) rfl (by decide) rfl (Nat.le_of_ble_eq_true rfl) (ss_launch (μ := ps_sI ν 14 2 (nI (q + 7))) (p_sh15 hr.1.sI) _ _ _ _) ?_
                                      refine e_0 rfl ?_
                                      exact e_rz rfl rfl (by decide) (by rfl) (rfl)
                                    · exact absurd (nI_pos' (by omega)) h9
                                  · exact absurd ((nI_eq (b := 4) (by omega) (by omega)).mp h8) hd4
                                · exact absurd ((nI_eq (b := 0) (by omega) (by omega)).mp h7) hd0
                              · exact absurd (nI_pos' (by omega)) h6
                            · exact absurd (nI_pos' (by omega)) h5
                          · exact absurd (nI_pos' (by omega)) h4
                        · exact absurd (nI_pos' (by omega)) h3
                      · exact absurd (nI_pos' (by omega)) h2
                    · exact absurd ha h1
                  · have hgx := hg
                    rw [ehl, ehh] at hgx
                    have e : hullN (chF0 (ps_i ν (t + 1)) E) q = 6 := by
                      unfold hullN
                      rw [if_neg (Classical.not_not.mpr ha), if_neg (Classical.not_not.mpr hb), if_neg (Classical.not_not.mpr hc), if_neg (Classical.not_not.mpr hd), if_neg (Classical.not_not.mpr he), if_neg (Classical.not_not.mpr hf), if_pos hg]
                    rw [e]
                    refine ⟨Nat.le_of_ble_eq_true rfl, ?_⟩
                    refine e_4 rfl rfl ?_
                    refine e_v0 rfl (by first | exact p_14 hr.1 | exact hr.2.1.1 | exact (p_sh15 hr.1).1) rfl (by decide) rfl (Nat.le_of_ble_eq_true rfl) (kc_here hr eE hE (by omega)) ?_
                    refine e_0 rfl ?_
                    refine e_36 rfl (fun h1 => ?_) (fun h1 => ?_)
                    · refine e_4 rfl rfl ?_
                      refine e_28 rfl rfl ?_
                      refine c_gp hr.1 rfl rfl ?_
                      refine e_0 rfl ?_
                      refine e_9 rfl ?_
                      refine c_pp (p' := (q + 1)) hr.1 rfl rfl (by first | rfl | (simp only [← nI_add, ← pk_mul]; rfl) | (simp only [nI_add, pk_mul, nI_1]; done)) ?_
                      refine e_4 rfl rfl ?_
                      refine e_0 rfl ?_
                      refine e_0 rfl ?_
                      refine e_v2 rfl (by first | exact p_14 hr.1 | exact hr.2.1.1 | exact (p_sh15 hr.1).1) rfl (by decide) rfl (Nat.le_of_ble_eq_true rfl) (kc_fig_ok (p := q + 1) (lo := 0) (hi := 9) hr eE hE (by omega) (by omega) (by omega) hb) ?_
                      refine e_5 rfl rfl ?_
                      refine e_2 rfl rfl ?_
                      refine e_33 rfl (fun h2 => ?_) (fun h2 => ?_)
                      · refine e_4 rfl rfl ?_
                        refine e_0 rfl ?_
                        refine e_0 rfl ?_
                        refine e_v2 rfl (by first | exact p_14 hr.1 | exact hr.2.1.1 | exact (p_sh15 hr.1).1) rfl (by decide) rfl (Nat.le_of_ble_eq_true rfl) (kc_fig_ok (p := q + 2) (lo := 0) (hi := 9) hr eE hE (by omega) (by omega) (by omega) hc) ?_
                        refine e_5 rfl rfl ?_
                        refine e_2 rfl rfl ?_
                        refine e_33 rfl (fun h3 => ?_) (fun h3 => ?_)
                        · refine e_4 rfl rfl ?_
                          refine e_0 rfl ?_
                          refine e_0 rfl ?_
                          refine e_v2 rfl (by first | exact p_14 hr.1 | exact hr.2.1.1 | exact (p_sh15 hr.1).1) rfl (by decide) rfl (Nat.le_of_ble_eq_true rfl) (kc_fig_ok (p := q + 3) (lo := 1) (hi := 9) hr eE hE (by omega) (by omega) (by omega) hd) ?_
                          refine e_5 rfl rfl ?_
                          refine e_2 rfl rfl ?_
                          refine e_33 rfl (fun h4 => ?_) (fun h4 => ?_)
                          · refine e_4 rfl rfl ?_
                            refine e_0 rfl ?_
                            refine e_0 rfl ?_
                            refine e_v2 rfl (by first | exact p_14 hr.1 | exact hr.2.1.1 | exact (p_sh15 hr.1).1) rfl (by decide) rfl (Nat.le_of_ble_eq_true rfl) (kc_fig_ok (p := q + 4) (lo := 0) (hi := 9) hr eE hE (by omega) (by omega) (by omega) he) ?_
                            refine e_5 rfl rfl ?_
                            refine e_2 rfl rfl ?_
                            refine e_33 rfl (fun h5 => ?_) (fun h5 => ?_)
                            · refine e_4 rfl rfl ?_
                              refine e_0 rfl ?_
                              refine e_0 rfl ?_
                              refine e_v2 rfl (by first | exact p_14 hr.1 | exact hr.2.1.1 | exact (p_sh15 hr.1).1) rfl (by decide) rfl (Nat.le_of_ble_eq_true rfl) (kc_fig_ok (p := q + 5) (lo := 0) (hi := 4) hr eE hE (by omega) (by omega) (by omega) hf) ?_
                              refine e_5 rfl rfl ?_
                              refine e_2 rfl rfl ?_
                              refine e_33 rfl (fun h6 => ?_) (fun h6 => ?_)
                              · refine e_4 rfl rfl ?_
                                refine e_2 rfl rfl ?_
                                refine e_31 rfl (fun h7 => ?_) (fun h7 => ?_)
                                · refine e_0 rfl ?_
                                  refine e_2 rfl rfl ?_
                                  refine e_0 rfl ?_
                                  refine e_37 rfl (fun h8 => ?_) (fun h8 => ?_)
                                  · refine e_0 rfl ?_
                                    refine e_v2 rfl (by first | exact p_14 hr.1 | exact hr.2.1.1 | exact (p_sh15 hr.1).1) rfl (by decide) rfl (Nat.le_of_ble_eq_true rfl) (kc_fig_no (p := q + 6) (lo := 0) (hi := 9) hr eE hE (by omega) (by omega) (by omega) hgx) ?_
                                    refine e_5 rfl rfl ?_
                                    refine e_2 rfl rfl ?_
                                    refine e_33 rfl (fun h9 => ?_) (fun h9 => ?_)
                                    · exact absurd h9 (by decide)
                                    · refine e_0 rfl ?_
                                      exact e_rz rfl rfl (by decide) (by rfl) (rfl)
                                  · exact absurd ((nI_eq (b := 4) (by omega) (by omega)).mp h8) hd4
                                · exact absurd ((nI_eq (b := 0) (by omega) (by omega)).mp h7) hd0
                              · exact absurd (nI_pos' (by omega)) h6
                            · exact absurd (nI_pos' (by omega)) h5
                          · exact absurd (nI_pos' (by omega)) h4
                        · exact absurd (nI_pos' (by omega)) h3
                      · exact absurd (nI_pos' (by omega)) h2
                    · exact absurd ha h1
            · skip
              have e : hullN (chF0 (ps_i ν (t + 1)) E) q = 5 := by
                unfold hullN
                rw [if_neg (Classical.not_not.mpr ha), if_neg (Classical.not_not.mpr hb), if_neg (Classical.not_not.mpr hc), if_neg (Classical.not_not.mpr hd), if_neg (Classical.not_not.mpr he), if_pos hf]
              rw [e]
              refine ⟨Nat.le_of_ble_eq_true rfl, ?_⟩
              refine e_4 rfl rfl ?_
              refine e_v0 rfl (by first | exact p_14 hr.1 | exact hr.2.1.1 | exact (p_sh15 hr.1).1) rfl (by decide) rfl (Nat.le_of_ble_eq_true rfl) (kc_here hr eE hE (by omega)) ?_
              refine e_0 rfl ?_
              refine e_36 rfl (fun h1 => ?_) (fun h1 => ?_)
              · refine e_4 rfl rfl ?_
                refine e_28 rfl rfl ?_
                refine c_gp hr.1 rfl rfl ?_
                refine e_0 rfl ?_
                refine e_9 rfl ?_
                refine c_pp (p' := (q + 1)) hr.1 rfl rfl (by first | rfl | (simp only [← nI_add, ← pk_mul]; rfl) | (simp only [nI_add, pk_mul, nI_1]; done)) ?_
                refine e_4 rfl rfl ?_
                refine e_0 rfl ?_
                refine e_0 rfl ?_
                refine e_v2 rfl (by first | exact p_14 hr.1 | exact hr.2.1.1 | exact (p_sh15 hr.1).1) rfl (by decide) rfl (Nat.le_of_ble_eq_true rfl) (kc_fig_ok (p := q + 1) (lo := 0) (hi := 9) hr eE hE (by omega) (by omega) (by omega) hb) ?_
                refine e_5 rfl rfl ?_
                refine e_2 rfl rfl ?_
                refine e_33 rfl (fun h2 => ?_) (fun h2 => ?_)
                · refine e_4 rfl rfl ?_
                  refine e_0 rfl ?_
                  refine e_0 rfl ?_
                  refine e_v2 rfl (by first | exact p_14 hr.1 | exact hr.2.1.1 | exact (p_sh15 hr.1).1) rfl (by decide) rfl (Nat.le_of_ble_eq_true rfl) (kc_fig_ok (p := q + 2) (lo := 0) (hi := 9) hr eE hE (by omega) (by omega) (by omega) hc) ?_
                  refine e_5 rfl rfl ?_
                  refine e_2 rfl rfl ?_
                  refine e_33 rfl (fun h3 => ?_) (fun h3 => ?_)
                  · refine e_4 rfl rfl ?_
                    refine e_0 rfl ?_
                    refine e_0 rfl ?_
                    refine e_v2 rfl (by first | exact p_14 hr.1 | exact hr.2.1.1 | exact (p_sh15 hr.1).1) rfl (by decide) rfl (Nat.le_of_ble_eq_true rfl) (kc_fig_ok (p := q + 3) (lo := 1) (hi := 9) hr eE hE (by omega) (by omega) (by omega) hd) ?_
                    refine e_5 rfl rfl ?_
                    refine e_2 rfl rfl ?_
                    refine e_33 rfl (fun h4 => ?_) (fun h4 => ?_)
                    · refine e_4 rfl rfl ?_
                      refine e_0 rfl ?_
                      refine e_0 rfl ?_
                      refine e_v2 rfl (by first | exact p_14 hr.1 | exact hr.2.1.1 | exact (p_sh15 hr.1).1) rfl (by decide) rfl (Nat.le_of_ble_eq_true rfl) (kc_fig_ok (p := q + 4) (lo := 0) (hi := 9) hr eE hE (by omega) (by omega) (by omega) he) ?_
                      refine e_5 rfl rfl ?_
                      refine e_2 rfl rfl ?_
                      refine e_33 rfl (fun h5 => ?_) (fun h5 => ?_)
                      · refine e_4 rfl rfl ?_
                        refine e_0 rfl ?_
                        refine e_0 rfl ?_
                        refine e_v2 rfl (by first | exact p_14 hr.1 | exact hr.2.1.1 | exact (p_sh15 hr.1).1) rfl (by decide) rfl (Nat.le_of_ble_eq_true rfl) (kc_fig_no (p := q + 5) (lo := 0) (hi := 4) hr eE hE (by omega) (by omega) (by omega) hf) ?_
                        refine e_5 rfl rfl ?_
                        refine e_2 rfl rfl ?_
                        refine e_33 rfl (fun h6 => ?_) (fun h6 => ?_)
                        · exact absurd h6 (by decide)
                        · refine e_0 rfl ?_
                          refine e_42 rfl ?_
                          refine e_5 rfl rfl ?_
                          refine e_2 rfl rfl ?_
                          refine e_33 rfl (fun h7 => ?_) (fun h7 => ?_)
                          · exact absurd h7 (by decide)
                          · refine e_0 rfl ?_
                            exact e_rz rfl rfl (by decide) (by rfl) (rfl)
                      · exact absurd (nI_pos' (by omega)) h5
                    · exact absurd (nI_pos' (by omega)) h4
                  · exact absurd (nI_pos' (by omega)) h3
                · exact absurd (nI_pos' (by omega)) h2
              · exact absurd ha h1
          · skip
            have e : hullN (chF0 (ps_i ν (t + 1)) E) q = 4 := by
              unfold hullN
              rw [if_neg (Classical.not_not.mpr ha), if_neg (Classical.not_not.mpr hb), if_neg (Classical.not_not.mpr hc), if_neg (Classical.not_not.mpr hd), if_pos he]
            rw [e]
            refine ⟨Nat.le_of_ble_eq_true rfl, ?_⟩
            refine e_4 rfl rfl ?_
            refine e_v0 rfl (by first | exact p_14 hr.1 | exact hr.2.1.1 | exact (p_sh15 hr.1).1) rfl (by decide) rfl (Nat.le_of_ble_eq_true rfl) (kc_here hr eE hE (by omega)) ?_
            refine e_0 rfl ?_
            refine e_36 rfl (fun h1 => ?_) (fun h1 => ?_)
            · refine e_4 rfl rfl ?_
              refine e_28 rfl rfl ?_
              refine c_gp hr.1 rfl rfl ?_
              refine e_0 rfl ?_
              refine e_9 rfl ?_
              refine c_pp (p' := (q + 1)) hr.1 rfl rfl (by first | rfl | (simp only [← nI_add, ← pk_mul]; rfl) | (simp only [nI_add, pk_mul, nI_1]; done)) ?_
              refine e_4 rfl rfl ?_
              refine e_0 rfl ?_
              refine e_0 rfl ?_
              refine e_v2 rfl (by first | exact p_14 hr.1 | exact hr.2.1.1 | exact (p_sh15 hr.1).1) rfl (by decide) rfl (Nat.le_of_ble_eq_true rfl) (kc_fig_ok (p := q + 1) (lo := 0) (hi := 9) hr eE hE (by omega) (by omega) (by omega) hb) ?_
              refine e_5 rfl rfl ?_
              refine e_2 rfl rfl ?_
              refine e_33 rfl (fun h2 => ?_) (fun h2 => ?_)
              · refine e_4 rfl rfl ?_
                refine e_0 rfl ?_
                refine e_0 rfl ?_
                refine e_v2 rfl (by first | exact p_14 hr.1 | exact hr.2.1.1 | exact (p_sh15 hr.1).1) rfl (by decide) rfl (Nat.le_of_ble_eq_true rfl) (kc_fig_ok (p := q + 2) (lo := 0) (hi := 9) hr eE hE (by omega) (by omega) (by omega) hc) ?_
                refine e_5 rfl rfl ?_
                refine e_2 rfl rfl ?_
                refine e_33 rfl (fun h3 => ?_) (fun h3 => ?_)
                · refine e_4 rfl rfl ?_
                  refine e_0 rfl ?_
                  refine e_0 rfl ?_
                  refine e_v2 rfl (by first | exact p_14 hr.1 | exact hr.2.1.1 | exact (p_sh15 hr.1).1) rfl (by decide) rfl (Nat.le_of_ble_eq_true rfl) (kc_fig_ok (p := q + 3) (lo := 1) (hi := 9) hr eE hE (by omega) (by omega) (by omega) hd) ?_
                  refine e_5 rfl rfl ?_
                  refine e_2 rfl rfl ?_
                  refine e_33 rfl (fun h4 => ?_) (fun h4 => ?_)
                  · refine e_4 rfl rfl ?_
                    refine e_0 rfl ?_
                    refine e_0 rfl ?_
                    refine e_v2 rfl (by first | exact p_14 hr.1 | exact hr.2.1.1 | exact (p_sh15 hr.1).1) rfl (by decide) rfl (Nat.le_of_ble_eq_true rfl) (kc_fig_no (p := q + 4) (lo := 0) (hi := 9) hr eE hE (by omega) (by omega) (by omega) he) ?_
                    refine e_5 rfl rfl ?_
                    refine e_2 rfl rfl ?_
                    refine e_33 rfl (fun h5 => ?_) (fun h5 => ?_)
                    · exact absurd h5 (by decide)
                    · refine e_0 rfl ?_
                      refine e_42 rfl ?_
                      refine e_5 rfl rfl ?_
                      refine e_2 rfl rfl ?_
                      refine e_33 rfl (fun h6 => ?_) (fun h6 => ?_)
                      · exact absurd h6 (by decide)
                      · refine e_0 rfl ?_
                        refine e_42 rfl ?_
                        refine e_5 rfl rfl ?_
                        refine e_2 rfl rfl ?_
                        refine e_33 rfl (fun h7 => ?_) (fun h7 => ?_)
                        · exact absurd h7 (by decide)
                        · refine e_0 rfl ?_
                          exact e_rz rfl rfl (by decide) (by rfl) (rfl)
                  · exact absurd (nI_pos' (by omega)) h4
                · exact absurd (nI_pos' (by omega)) h3
              · exact absurd (nI_pos' (by omega)) h2
            · exact absurd ha h1
        · skip
          have e : hullN (chF0 (ps_i ν (t + 1)) E) q = 3 := by
            unfold hullN
            rw [if_neg (Classical.not_not.mpr ha), if_neg (Classical.not_not.mpr hb), if_neg (Classical.not_not.mpr hc), if_pos hd]
          rw [e]
          refine ⟨Nat.le_of_ble_eq_true rfl, ?_⟩
          refine e_4 rfl rfl ?_
          refine e_v0 rfl (by first | exact p_14 hr.1 | exact hr.2.1.1 | exact (p_sh15 hr.1).1) rfl (by decide) rfl (Nat.le_of_ble_eq_true rfl) (kc_here hr eE hE (by omega)) ?_
          refine e_0 rfl ?_
          refine e_36 rfl (fun h1 => ?_) (fun h1 => ?_)
          · refine e_4 rfl rfl ?_
            refine e_28 rfl rfl ?_
            refine c_gp hr.1 rfl rfl ?_
            refine e_0 rfl ?_
            refine e_9 rfl ?_
            refine c_pp (p' := (q + 1)) hr.1 rfl rfl (by first | rfl | (simp only [← nI_add, ← pk_mul]; rfl) | (simp only [nI_add, pk_mul, nI_1]; done)) ?_
            refine e_4 rfl rfl ?_
            refine e_0 rfl ?_
            refine e_0 rfl ?_
            refine e_v2 rfl (by first | exact p_14 hr.1 | exact hr.2.1.1 | exact (p_sh15 hr.1).1) rfl (by decide) rfl (Nat.le_of_ble_eq_true rfl) (kc_fig_ok (p := q + 1) (lo := 0) (hi := 9) hr eE hE (by omega) (by omega) (by omega) hb) ?_
            refine e_5 rfl rfl ?_
            refine e_2 rfl rfl ?_
            refine e_33 rfl (fun h2 => ?_) (fun h2 => ?_)
            · refine e_4 rfl rfl ?_
              refine e_0 rfl ?_
              refine e_0 rfl ?_
              refine e_v2 rfl (by first | exact p_14 hr.1 | exact hr.2.1.1 | exact (p_sh15 hr.1).1) rfl (by decide) rfl (Nat.le_of_ble_eq_true rfl) (kc_fig_ok (p := q + 2) (lo := 0) (hi := 9) hr eE hE (by omega) (by omega) (by omega) hc) ?_
              refine e_5 rfl rfl ?_
              refine e_2 rfl rfl ?_
              refine e_33 rfl (fun h3 => ?_) (fun h3 => ?_)
              · refine e_4 rfl rfl ?_
                refine e_0 rfl ?_
                refine e_0 rfl ?_
                refine e_v2 rfl (by first | exact p_14 hr.1 | exact hr.2.1.1 | exact (p_sh15 hr.1).1) rfl (by decide) rfl (Nat.le_of_ble_eq_true rfl) (kc_fig_no (p := q + 3) (lo := 1) (hi := 9) hr eE hE (by omega) (by omega) (by omega) hd) ?_
                refine e_5 rfl rfl ?_
                refine e_2 rfl rfl ?_
                refine e_33 rfl (fun h4 => ?_) (fun h4 => ?_)
                · exact absurd h4 (by decide)
                · refine e_0 rfl ?_
                  refine e_42 rfl ?_
                  refine e_5 rfl rfl ?_
                  refine e_2 rfl rfl ?_
                  refine e_33 rfl (fun h5 => ?_) (fun h5 => ?_)
                  · exact absurd h5 (by decide)
                  · refine e_0 rfl ?_
                    refine e_42 rfl ?_
                    refine e_5 rfl rfl ?_
                    refine e_2 rfl rfl ?_
                    refine e_33 rfl (fun h6 => ?_) (fun h6 => ?_)
                    · exact absurd h6 (by decide)
                    · refine e_0 rfl ?_
                      refine e_42 rfl ?_
                      refine e_5 rfl rfl ?_
                      refine e_2 rfl rfl ?_
                      refine e_33 rfl (fun h7 => ?_) (fun h7 => ?_)
                      · exact absurd h7 (by decide)
                      · refine e_0 rfl ?_
                        exact e_rz rfl rfl (by decide) (by rfl) (rfl)
              · exact absurd (nI_pos' (by omega)) h3
            · exact absurd (nI_pos' (by omega)) h2
          · exact absurd ha h1
      · skip
        have e : hullN (chF0 (ps_i ν (t + 1)) E) q = 2 := by
          unfold hullN
          rw [if_neg (Classical.not_not.mpr ha), if_neg (Classical.not_not.mpr hb), if_pos hc]
        rw [e]
        refine ⟨Nat.le_of_ble_eq_true rfl, ?_⟩
        refine e_4 rfl rfl ?_
        refine e_v0 rfl (by first | exact p_14 hr.1 | exact hr.2.1.1 | exact (p_sh15 hr.1).1) rfl (by decide) rfl (Nat.le_of_ble_eq_true rfl) (kc_here hr eE hE (by omega)) ?_
        refine e_0 rfl ?_
        refine e_36 rfl (fun h1 => ?_) (fun h1 => ?_)
        · refine e_4 rfl rfl ?_
          refine e_28 rfl rfl ?_
          refine c_gp hr.1 rfl rfl ?_
          refine e_0 rfl ?_
          refine e_9 rfl ?_
          refine c_pp (p' := (q + 1)) hr.1 rfl rfl (by first | rfl | (simp only [← nI_add, ← pk_mul]; rfl) | (simp only [nI_add, pk_mul, nI_1]; done)) ?_
          refine e_4 rfl rfl ?_
          refine e_0 rfl ?_
          refine e_0 rfl ?_
          refine e_v2 rfl (by first | exact p_14 hr.1 | exact hr.2.1.1 | exact (p_sh15 hr.1).1) rfl (by decide) rfl (Nat.le_of_ble_eq_true rfl) (kc_fig_ok (p := q + 1) (lo := 0) (hi := 9) hr eE hE (by omega) (by omega) (by omega) hb) ?_
          refine e_5 rfl rfl ?_
          refine e_2 rfl rfl ?_
          refine e_33 rfl (fun h2 => ?_) (fun h2 => ?_)
          · refine e_4 rfl rfl ?_
            refine e_0 rfl ?_
            refine e_0 rfl ?_
            refine e_v2 rfl (by first | exact p_14 hr.1 | exact hr.2.1.1 | exact (p_sh15 hr.1).1) rfl (by decide) rfl (Nat.le_of_ble_eq_true rfl) (kc_fig_no (p := q + 2) (lo := 0) (hi := 9) hr eE hE (by omega) (by omega) (by omega) hc) ?_
            refine e_5 rfl rfl ?_
            refine e_2 rfl rfl ?_
            refine e_33 rfl (fun h3 => ?_) (fun h3 => ?_)
            · exact absurd h3 (by decide)
            · refine e_0 rfl ?_
              refine e_42 rfl ?_
              refine e_5 rfl rfl ?_
              refine e_2 rfl rfl ?_
              refine e_33 rfl (fun h4 => ?_) (fun h4 => ?_)
              · exact absurd h4 (by decide)
              · refine e_0 rfl ?_
                refine e_42 rfl ?_
                refine e_5 rfl rfl ?_
                refine e_2 rfl rfl ?_
                refine e_33 rfl (fun h5 => ?_) (fun h5 => ?_)
                · exact absurd h5 (by decide)
                · refine e_0 rfl ?_
                  refine e_42 rfl ?_
                  refine e_5 rfl rfl ?_
                  refine e_2 rfl rfl ?_
                  refine e_33 rfl (fun h6 => ?_) (fun h6 => ?_)
                  · exact absurd h6 (by decide)
                  · refine e_0 rfl ?_
                    refine e_42 rfl ?_
                    refine e_5 rfl rfl ?_
                    refine e_2 rfl rfl ?_
                    refine e_33 rfl (fun h7 => ?_) (fun h7 => ?_)
                    · exact absurd h7 (by decide)
                    · refine e_0 rfl ?_
                      exact e_rz rfl rfl (by decide) (by rfl) (rfl)
          · exact absurd (nI_pos' (by omega)) h2
        · exact absurd ha h1
    · skip
      have e : hullN (chF0 (ps_i ν (t + 1)) E) q = 1 := by
        unfold hullN
        rw [if_neg (Classical.not_not.mpr ha), if_pos hb]
      rw [e]
      refine ⟨Nat.le_of_ble_eq_true rfl, ?_⟩
      refine e_4 rfl rfl ?_
      refine e_v0 rfl (by first | exact p_14 hr.1 | exact hr.2.1.1 | exact (p_sh15 hr.1).1) rfl (by decide) rfl (Nat.le_of_ble_eq_true rfl) (kc_here hr eE hE (by omega)) ?_
      refine e_0 rfl ?_
      refine e_36 rfl (fun h1 => ?_) (fun h1 => ?_)
      · refine e_4 rfl rfl ?_
        refine e_28 rfl rfl ?_
        refine c_gp hr.1 rfl rfl ?_
        refine e_0 rfl ?_
        refine e_9 rfl ?_
        refine c_pp (p' := (q + 1)) hr.1 rfl rfl (by first | rfl | (simp only [← nI_add, ← pk_mul]; rfl) | (simp only [nI_add, pk_mul, nI_1]; done)) ?_
        refine e_4 rfl rfl ?_
        refine e_0 rfl ?_
        refine e_0 rfl ?_
        refine e_v2 rfl (by first | exact p_14 hr.1 | exact hr.2.1.1 | exact (p_sh15 hr.1).1) rfl (by decide) rfl (Nat.le_of_ble_eq_true rfl) (kc_fig_no (p := q + 1) (lo := 0) (hi := 9) hr eE hE (by omega) (by omega) (by omega) hb) ?_
        refine e_5 rfl rfl ?_
        refine e_2 rfl rfl ?_
        refine e_33 rfl (fun h2 => ?_) (fun h2 => ?_)
        · exact absurd h2 (by decide)
        · refine e_0 rfl ?_
          refine e_42 rfl ?_
          refine e_5 rfl rfl ?_
          refine e_2 rfl rfl ?_
          refine e_33 rfl (fun h3 => ?_) (fun h3 => ?_)
          · exact absurd h3 (by decide)
          · refine e_0 rfl ?_
            refine e_42 rfl ?_
            refine e_5 rfl rfl ?_
            refine e_2 rfl rfl ?_
            refine e_33 rfl (fun h4 => ?_) (fun h4 => ?_)
            · exact absurd h4 (by decide)
            · refine e_0 rfl ?_
              refine e_42 rfl ?_
              refine e_5 rfl rfl ?_
              refine e_2 rfl rfl ?_
              refine e_33 rfl (fun h5 => ?_) (fun h5 => ?_)
              · exact absurd h5 (by decide)
              · refine e_0 rfl ?_
                refine e_42 rfl ?_
                refine e_5 rfl rfl ?_
                refine e_2 rfl rfl ?_
                refine e_33 rfl (fun h6 => ?_) (fun h6 => ?_)
                · exact absurd h6 (by decide)
                · refine e_0 rfl ?_
                  refine e_42 rfl ?_
                  refine e_5 rfl rfl ?_
                  refine e_2 rfl rfl ?_
                  refine e_33 rfl (fun h7 => ?_) (fun h7 => ?_)
                  · exact absurd h7 (by decide)
                  · refine e_0 rfl ?_
                    exact e_rz rfl rfl (by decide) (by rfl) (rfl)
      · exact absurd ha h1
  · skip
    have e : hullN (chF0 (ps_i ν (t + 1)) E) q = 0 := by
      unfold hullN
      rw [if_pos ha]
    rw [e]
    refine ⟨Nat.le_of_ble_eq_true rfl, ?_⟩
    refine e_4 rfl rfl ?_
    refine e_v0 rfl (by first | exact p_14 hr.1 | exact hr.2.1.1 | exact (p_sh15 hr.1).1) rfl (by decide) rfl (Nat.le_of_ble_eq_true rfl) (kc_here hr eE hE (by omega)) ?_
    refine e_0 rfl ?_
    refine e_36 rfl (fun h1 => ?_) (fun h1 => ?_)
    · exact absurd h1 ha
    · refine e_0 rfl ?_
      exact e_rz rfl rfl (by decide) (by rfl) (rfl)
end KRC
