-- ===== the model's reader: gangs, faults, ships =====
theorem let_6 {x : Int32} (h : ¬ letterM x = -9) : ∃ k, k < 6 ∧ letterM x = nI k := by
  unfold letterM at h ⊢
  split
  · exact ⟨0, by omega, rfl⟩
  · split
    · exact ⟨1, by omega, rfl⟩
    · split
      · exact ⟨2, by omega, rfl⟩
      · split
        · exact ⟨3, by omega, rfl⟩
        · split
          · exact ⟨4, by omega, rfl⟩
          · split
            · exact ⟨5, by omega, rfl⟩
            · rename_i h1 h2 h3 h4 h5 h6
              rw [if_neg h1, if_neg h2, if_neg h3, if_neg h4, if_neg h5, if_neg h6] at h
              exact absurd rfl h
theorem upd_upd {f : Nat → Int32} {k : Nat} {x y : Int32} : upd (upd f k x) k y = upd f k y := by
  funext j
  by_cases z : j = k
  · subst z; rw [pk_us, pk_us]
  · rw [pk_un z, pk_un z, pk_un z]
theorem upd_same {f : Nat → Int32} {k : Nat} {x : Int32} (h : f k = x) : upd f k x = f := by subst h; exact upd_self
def ansF (r : Int32 × Nat × Nat × (Nat → Int32) × (Nat → Int32)) : Int32 := if r.1 = 1 ∧ 0 < r.2.2.1 then -9 else nI r.2.1
theorem ans_a {G p : Nat} (h : nI G ≤ 0) (hG : G ≤ 6) : nI p = if (1 : Int32) = 1 ∧ 0 < G then -9 else nI p := by
  have := (nI_leI (b := 0) (by omega) (by omega)).mp h
  rw [if_neg (by omega)]
theorem ans_b {G p : Nat} (h : ¬ nI G ≤ 0) : -9 = if (1 : Int32) = 1 ∧ 0 < G then -9 else nI p := by
  rw [if_pos ⟨rfl, Nat.pos_of_ne_zero (fun z => h (by rw [z]; decide))⟩]
section MRE
variable {L : Nat} {xs : Nat → Int32} {d : Nat} {μ : ps_M} {m F p E : Nat} {ρ γ : Nat → Int32}
theorem mr_gang_a1 (hm : isMd μ m) (hF : F + 60 ≤ 240) (hE : E ≤ 60) (hp : p < E) {G : Nat} (hG : G ≤ 6) (eG : ρ 22 = nI G) (hl : letterM ((chF0 (fun x => ps_i μ (m + 6) (F + x)) E) p) = -9) : ps_Ev (ps_XX L xs) (d + 3) j_X8_readsGang [.ref m] (RD μ m F p E (ρ) (γ)) (some (.int 0)) (RD μ m F p E (ρ) (γ)) := by
  refine ⟨Nat.le_of_ble_eq_true rfl, ?_⟩
  refine e_4 rfl rfl ?_
  refine e_v0 rfl (by first | exact hm.1 | assumption | rfl) rfl (by decide) rfl (Nat.le_of_ble_eq_true rfl) (mr_here hm hF hE hp) ?_
  refine e_s1 rfl rfl rfl (Nat.le_of_ble_eq_true rfl) (sm_letter _) ?_
  refine e_5 rfl rfl ?_
  refine e_2 rfl rfl ?_
  refine e_0 rfl ?_
  refine e_36 rfl (fun h1 => ?_) (fun h1 => ?_)
  · refine e_0 rfl ?_
    exact e_rz rfl rfl (by first | decide | exact b2i_01 | assumption) (by rfl) (rfl)
  · exact absurd hl h1
theorem mr_gang_a2 (hm : isMd μ m) (hF : F + 60 ≤ 240) (hE : E ≤ 60) (hp : p < E) {G : Nat} (hG : G ≤ 6) (eG : ρ 22 = nI G) (hl : ¬ letterM ((chF0 (fun x => ps_i μ (m + 6) (F + x)) E) p) = -9) (h6 : G = 6) : ps_Ev (ps_XX L xs) (d + 3) j_X8_readsGang [.ref m] (RD μ m F p E (ρ) (γ)) (some (.int 0)) (RD μ m F p E (ρ) (γ)) := by
  refine ⟨Nat.le_of_ble_eq_true rfl, ?_⟩
  refine e_4 rfl rfl ?_
  refine e_v0 rfl (by first | exact hm.1 | assumption | rfl) rfl (by decide) rfl (Nat.le_of_ble_eq_true rfl) (mr_here hm hF hE hp) ?_
  refine e_s1 rfl rfl rfl (Nat.le_of_ble_eq_true rfl) (sm_letter _) ?_
  refine e_5 rfl rfl ?_
  refine e_2 rfl rfl ?_
  refine e_0 rfl ?_
  refine e_36 rfl (fun h1 => ?_) (fun h1 => ?_)
  · exact absurd h1 hl
  · refine e_4 rfl rfl ?_
    refine r_gr hm rfl rfl (by decide) (by decide) ?_
    rw [eG]
    refine e_0 rfl ?_
    refine e_37 rfl (fun h2 => ?_) (fun h2 => ?_)
    · exact absurd (by rw [h6]; rfl) h2
    · refine e_0 rfl ?_
      exact e_rz rfl rfl (by first | decide | exact b2i_01 | assumption) (by rfl) (rfl)
theorem mr_gang_b (hm : isMd μ m) (hF : F + 60 ≤ 240) (hE : E ≤ 60) (hp : p < E) {G : Nat} (hG : G ≤ 6) (eG : ρ 22 = nI G) (hl : ¬ letterM ((chF0 (fun x => ps_i μ (m + 6) (F + x)) E) p) = -9) (h6 : ¬ G = 6) (hf : ¬ figP (chF0 (fun x => ps_i μ (m + 6) (F + x)) E) 1 9 (p + 1)) : ps_Ev (ps_XX L xs) (d + 3) j_X8_readsGang [.ref m] (RD μ m F p E (ρ) (γ)) (some (.int 0)) (RD μ m F (p + 1) E (ρ) (γ)) := by
  refine ⟨Nat.le_of_ble_eq_true rfl, ?_⟩
  refine e_4 rfl rfl ?_
  refine e_v0 rfl (by first | exact hm.1 | assumption | rfl) rfl (by decide) rfl (Nat.le_of_ble_eq_true rfl) (mr_here hm hF hE hp) ?_
  refine e_s1 rfl rfl rfl (Nat.le_of_ble_eq_true rfl) (sm_letter _) ?_
  refine e_5 rfl rfl ?_
  refine e_2 rfl rfl ?_
  refine e_0 rfl ?_
  refine e_36 rfl (fun h1 => ?_) (fun h1 => ?_)
  · exact absurd h1 hl
  · refine e_4 rfl rfl ?_
    refine r_gr hm rfl rfl (by decide) (by decide) ?_
    rw [eG]
    refine e_0 rfl ?_
    refine e_37 rfl (fun h2 => ?_) (fun h2 => ?_)
    · refine e_4 rfl rfl ?_
      refine e_28 rfl rfl ?_
      refine r_g15 hm rfl rfl ?_
      refine e_0 rfl ?_
      refine e_9 rfl ?_
      refine r_p15 (p' := (p + 1)) hm rfl rfl (by first | rfl | (simp only [← nI_add, ← pk_mul]; rfl) | (simp only [nI_add, pk_mul, nI_1]; done)) ?_
      refine e_4 rfl rfl ?_
      refine e_0 rfl ?_
      refine e_0 rfl ?_
      refine e_v2 rfl (by first | exact hm.1 | assumption | rfl) rfl (by decide) rfl (Nat.le_of_ble_eq_true rfl) (mr_fig_no (p := p + 1) (lo := 1) (hi := 9) hm hF hE (by omega) (by omega) (by omega) hf) ?_
      refine e_5 rfl rfl ?_
      refine e_2 rfl rfl ?_
      refine e_0 rfl ?_
      refine e_37 rfl (fun h3 => ?_) (fun h3 => ?_)
      · exact absurd rfl h3
      · refine e_0 rfl ?_
        exact e_rz rfl rfl (by first | decide | exact b2i_01 | assumption) (by rfl) (rfl)
    · exact absurd ((nI_eq (b := 6) (by omega) (by omega)).mp h2) h6
theorem mr_gang_c (hm : isMd μ m) (hF : F + 60 ≤ 240) (hE : E ≤ 60) (hp : p < E) {G : Nat} (hG : G ≤ 6) (eG : ρ 22 = nI G) (hl : ¬ letterM ((chF0 (fun x => ps_i μ (m + 6) (F + x)) E) p) = -9) (h6 : ¬ G = 6) (hf : figP (chF0 (fun x => ps_i μ (m + 6) (F + x)) E) 1 9 (p + 1)) : ps_Ev (ps_XX L xs) (d + 3) j_X8_readsGang [.ref m] (RD μ m F p E (ρ) (γ)) (some (.int 1)) (RD μ m F (skF (chF0 (fun x => ps_i μ (m + 6) (F + x)) E) 60 (p + 2)) E (upd ρ 22 (nI (G + 1))) (upd (upd γ (2 * G) (letterM ((chF0 (fun x => ps_i μ (m + 6) (F + x)) E) p))) (2 * G + 1) (nI (dvF (chF0 (fun x => ps_i μ (m + 6) (F + x)) E) (p + 1))))) := by
  refine ⟨Nat.le_of_ble_eq_true rfl, ?_⟩
  have hlt := fig_in hf (by omega)
  have hdv := fig_dv hf (by omega) (by omega)
  refine e_4 rfl rfl ?_
  refine e_v0 rfl (by first | exact hm.1 | assumption | rfl) rfl (by decide) rfl (Nat.le_of_ble_eq_true rfl) (mr_here hm hF hE hp) ?_
  refine e_s1 rfl rfl rfl (Nat.le_of_ble_eq_true rfl) (sm_letter _) ?_
  refine e_5 rfl rfl ?_
  refine e_2 rfl rfl ?_
  refine e_0 rfl ?_
  refine e_36 rfl (fun h1 => ?_) (fun h1 => ?_)
  · exact absurd h1 hl
  · refine e_4 rfl rfl ?_
    refine r_gr hm rfl rfl (by decide) (by decide) ?_
    rw [eG]
    refine e_0 rfl ?_
    refine e_37 rfl (fun h2 => ?_) (fun h2 => ?_)
    · refine e_4 rfl rfl ?_
      refine e_28 rfl rfl ?_
      refine r_g15 hm rfl rfl ?_
      refine e_0 rfl ?_
      refine e_9 rfl ?_
      refine r_p15 (p' := (p + 1)) hm rfl rfl (by first | rfl | (simp only [← nI_add, ← pk_mul]; rfl) | (simp only [nI_add, pk_mul, nI_1]; done)) ?_
      refine e_4 rfl rfl ?_
      refine e_0 rfl ?_
      refine e_0 rfl ?_
      refine e_v2 rfl (by first | exact hm.1 | assumption | rfl) rfl (by decide) rfl (Nat.le_of_ble_eq_true rfl) (mr_fig_ok (p := p + 1) (lo := 1) (hi := 9) hm hF hE (by omega) (by omega) (by omega) hf) ?_
      refine e_5 rfl rfl ?_
      refine e_2 rfl rfl ?_
      refine e_0 rfl ?_
      refine e_37 rfl (fun h3 => ?_) (fun h3 => ?_)
      · refine e_4 rfl rfl ?_
        refine e_gr rfl hm.1 rfl hm.2.2.2.2.2.2.2.2.2.2.2.2.2.2.2.2 ?_
        refine e_0 rfl ?_
        refine e_4 rfl rfl ?_
        refine r_gr hm rfl rfl (by decide) (by decide) ?_
        rw [eG]
        refine e_11 rfl ?_
        refine e_2 rfl rfl ?_
        refine r_s8 (i := (2 * G)) hm (by first | rfl | (simp only [← nI_add, ← pk_mul]; rfl) | (simp only [nI_add, pk_mul, nI_1]; done)) (by omega) rfl ?_
        refine e_4 rfl rfl ?_
        refine e_gr rfl hm.1 rfl hm.2.2.2.2.2.2.2.2.2.2.2.2.2.2.2.2 ?_
        refine e_0 rfl ?_
        refine e_4 rfl rfl ?_
        refine r_gr hm rfl rfl (by decide) (by decide) ?_
        rw [eG]
        refine e_11 rfl ?_
        refine e_0 rfl ?_
        refine e_9 rfl ?_
        refine e_2 rfl rfl ?_
        refine r_s8 (i := ((2 * G) + 1)) hm (by first | rfl | (simp only [← nI_add, ← pk_mul]; rfl) | (simp only [nI_add, pk_mul, nI_1]; done)) (by omega) rfl ?_
        refine e_4 rfl rfl ?_
        refine e_28 rfl rfl ?_
        refine r_gr hm rfl rfl (by decide) (by decide) ?_
        rw [eG]
        refine e_0 rfl ?_
        refine e_9 rfl ?_
        refine r_pr hm rfl rfl (by decide) (by decide) ?_
        refine e_4 rfl rfl ?_
        refine e_v0v rfl (by first | exact hm.1 | assumption | rfl) rfl (by decide) rfl (Nat.le_of_ble_eq_true rfl) (mr_skip (f := 60) hm hF hE (by omega) (by omega)) ?_
        refine e_0 rfl ?_
        exact e_rz rfl rfl (by first | decide | exact b2i_01 | assumption) (by rfl) (by rw [nI_1])
      · exact absurd h3 (nI_n9 (by omega))
    · exact absurd ((nI_eq (b := 6) (by omega) (by omega)).mp h2) h6
theorem mr_gangs (hm : isMd μ m) (hF : F + 60 ≤ 240) (hE : E ≤ 60) (tv : Int32) : ∀ (f p G : Nat) (ks fs ρ : Nat → Int32), p ≤ E → E ≤ p + 2 * f → G ≤ 6 → ρ 22 = nI G → ps_To (ps_XX L xs) (ps_Ev (ps_XX L xs) (d + 3)) j_X8_faultOf (ps_rt j_X8_faultOf (some (.int (ansF (gaF (chF0 (fun x => ps_i μ (m + 6) (F + x)) E) E f p G ks fs)))) (RD μ m F (gaF (chF0 (fun x => ps_i μ (m + 6) (F + x)) E) E f p G ks fs).2.1 E (upd ρ 22 (nI (gaF (chF0 (fun x => ps_i μ (m + 6) (F + x)) E) E f p G ks fs).2.2.1)) (gam γ (gaF (chF0 (fun x => ps_i μ (m + 6) (F + x)) E) E f p G ks fs).2.2.2.1 (gaF (chF0 (fun x => ps_i μ (m + 6) (F + x)) E) E f p G ks fs).2.2.2.2 (gaF (chF0 (fun x => ps_i μ (m + 6) (F + x)) E) E f p G ks fs).2.2.1))) (41, [(2, .int 1), (0, .ref m), (1, .int tv)], [], RD μ m F p E ρ (gam γ ks fs G)) := by
  intro f
  induction f with
  | zero =>
    intro p G ks fs ρ hp hf hG eG
    have e : gaF (chF0 (fun x => ps_i μ (m + 6) (F + x)) E) E 0 p G ks fs = (1, p, G, ks, fs) := rfl
    rw [e]
    show ps_To _ _ _ (ps_rt _ (some (.int (if (1 : Int32) = 1 ∧ 0 < G then -9 else nI p))) (RD μ m F p E (upd ρ 22 (nI G)) (gam γ ks fs G))) _
    rw [upd_same eG]
    refine e_2 rfl rfl ?_
    refine e_30 rfl (fun h1 => ?_) (fun h1 => ?_)
    · exact absurd h1 (by decide)
    · refine e_4 rfl rfl ?_
      refine r_g15 hm rfl rfl ?_
      refine e_4 rfl rfl ?_
      refine r_g16 hm rfl rfl ?_
      refine e_39 rfl (fun h2 => ?_) (fun h2 => ?_)
      · refine e_2 rfl rfl ?_
        refine e_30 rfl (fun h3 => ?_) (fun h3 => ?_)
        · exact absurd h3 (by decide)
        · refine e_4 rfl rfl ?_
          refine r_gr hm rfl rfl (by decide) (by decide) ?_
          rw [eG]
          refine e_35 rfl (fun h4 => ?_) (fun h4 => ?_)
          · refine e_4 rfl rfl ?_
            refine r_g15 hm rfl rfl ?_
            exact e_ri rfl rfl (by first | exact ans_a (by assumption) hG | exact ans_b (by assumption)) (rfl)
          · refine e_0 rfl ?_
            refine e_42 rfl ?_
            exact e_ri rfl rfl (by first | exact ans_a (by assumption) hG | exact ans_b (by assumption)) (rfl)
      · exact absurd (nI_le (by omega) (by omega)) h2
  | succ f ih =>
    intro p G ks fs ρ hp hf hG eG
    by_cases hEp : E ≤ p
    · have e : gaF (chF0 (fun x => ps_i μ (m + 6) (F + x)) E) E (f + 1) p G ks fs = (1, p, G, ks, fs) := if_pos hEp
      rw [e]
      show ps_To _ _ _ (ps_rt _ (some (.int (if (1 : Int32) = 1 ∧ 0 < G then -9 else nI p))) (RD μ m F p E (upd ρ 22 (nI G)) (gam γ ks fs G))) _
      rw [upd_same eG]
      refine e_2 rfl rfl ?_
      refine e_30 rfl (fun h1 => ?_) (fun h1 => ?_)
      · exact absurd h1 (by decide)
      · refine e_4 rfl rfl ?_
        refine r_g15 hm rfl rfl ?_
        refine e_4 rfl rfl ?_
        refine r_g16 hm rfl rfl ?_
        refine e_39 rfl (fun h2 => ?_) (fun h2 => ?_)
        · refine e_2 rfl rfl ?_
          refine e_30 rfl (fun h3 => ?_) (fun h3 => ?_)
          · exact absurd h3 (by decide)
          · refine e_4 rfl rfl ?_
            refine r_gr hm rfl rfl (by decide) (by decide) ?_
            rw [eG]
            refine e_35 rfl (fun h4 => ?_) (fun h4 => ?_)
            · refine e_4 rfl rfl ?_
              refine r_g15 hm rfl rfl ?_
              exact e_ri rfl rfl (by first | exact ans_a (by assumption) hG | exact ans_b (by assumption)) (rfl)
            · refine e_0 rfl ?_
              refine e_42 rfl ?_
              exact e_ri rfl rfl (by first | exact ans_a (by assumption) hG | exact ans_b (by assumption)) (rfl)
        · exact absurd (nI_le (by omega) (by omega)) h2
    · by_cases hl : letterM ((chF0 (fun x => ps_i μ (m + 6) (F + x)) E) p) = -9
      · skip
        have e : gaF (chF0 (fun x => ps_i μ (m + 6) (F + x)) E) E (f + 1) p G ks fs = (0, p, G, ks, fs) := by
          unfold gaF
          rw [if_neg hEp, if_pos (Or.inl hl)]
        rw [e]
        show ps_To _ _ _ (ps_rt _ (some (.int (if (0 : Int32) = 1 ∧ 0 < G then -9 else nI (p)))) (RD μ m F (p) E (upd ρ 22 (nI G)) (gam γ ks fs G))) _
        rw [upd_same eG]
        refine e_2 rfl rfl ?_
        refine e_30 rfl (fun h1 => ?_) (fun h1 => ?_)
        · exact absurd h1 (by decide)
        · refine e_4 rfl rfl ?_
          refine r_g15 hm rfl rfl ?_
          refine e_4 rfl rfl ?_
          refine r_g16 hm rfl rfl ?_
          refine e_39 rfl (fun h2 => ?_) (fun h2 => ?_)
          · exact absurd h2 (nI_ge (by omega) (by omega))
          · refine e_4 rfl rfl ?_
            refine e_v0 rfl (by first | exact hm.1 | assumption | rfl) rfl (by decide) rfl (Nat.le_of_ble_eq_true rfl) (mr_gang_a1 hm hF hE (by omega) hG eG hl) ?_
            refine e_5 rfl rfl ?_
            refine e_42 rfl ?_
            refine e_2 rfl rfl ?_
            refine e_30 rfl (fun h3 => ?_) (fun h3 => ?_)
            · refine e_2 rfl rfl ?_
              refine e_30 rfl (fun h4 => ?_) (fun h4 => ?_)
              · refine e_4 rfl rfl ?_
                refine r_g15 hm rfl rfl ?_
                exact e_ri rfl rfl (by rw [if_neg (fun z => absurd z.1 (by decide))]) (rfl)
              · exact absurd rfl h4
            · exact absurd rfl h3
      · by_cases h6 : G = 6
        · skip
          have e : gaF (chF0 (fun x => ps_i μ (m + 6) (F + x)) E) E (f + 1) p G ks fs = (0, p, G, ks, fs) := by
            unfold gaF
            rw [if_neg hEp, if_pos (Or.inr h6)]
          rw [e]
          show ps_To _ _ _ (ps_rt _ (some (.int (if (0 : Int32) = 1 ∧ 0 < G then -9 else nI (p)))) (RD μ m F (p) E (upd ρ 22 (nI G)) (gam γ ks fs G))) _
          rw [upd_same eG]
          refine e_2 rfl rfl ?_
          refine e_30 rfl (fun h1 => ?_) (fun h1 => ?_)
          · exact absurd h1 (by decide)
          · refine e_4 rfl rfl ?_
            refine r_g15 hm rfl rfl ?_
            refine e_4 rfl rfl ?_
            refine r_g16 hm rfl rfl ?_
            refine e_39 rfl (fun h2 => ?_) (fun h2 => ?_)
            · exact absurd h2 (nI_ge (by omega) (by omega))
            · refine e_4 rfl rfl ?_
              refine e_v0 rfl (by first | exact hm.1 | assumption | rfl) rfl (by decide) rfl (Nat.le_of_ble_eq_true rfl) (mr_gang_a2 hm hF hE (by omega) hG eG hl h6) ?_
              refine e_5 rfl rfl ?_
              refine e_42 rfl ?_
              refine e_2 rfl rfl ?_
              refine e_30 rfl (fun h3 => ?_) (fun h3 => ?_)
              · refine e_2 rfl rfl ?_
                refine e_30 rfl (fun h4 => ?_) (fun h4 => ?_)
                · refine e_4 rfl rfl ?_
                  refine r_g15 hm rfl rfl ?_
                  exact e_ri rfl rfl (by rw [if_neg (fun z => absurd z.1 (by decide))]) (rfl)
                · exact absurd rfl h4
              · exact absurd rfl h3
        · by_cases hfg : figP (chF0 (fun x => ps_i μ (m + 6) (F + x)) E) 1 9 (p + 1)
          · have hlt := fig_in hfg (by omega)
            have e : gaF (chF0 (fun x => ps_i μ (m + 6) (F + x)) E) E (f + 1) p G ks fs = gaF (chF0 (fun x => ps_i μ (m + 6) (F + x)) E) E f (skF (chF0 (fun x => ps_i μ (m + 6) (F + x)) E) 60 (p + 2)) (G + 1) (upd ks G (letterM ((chF0 (fun x => ps_i μ (m + 6) (F + x)) E) p))) (upd fs G (nI (dvF (chF0 (fun x => ps_i μ (m + 6) (F + x)) E) (p + 1)))) := by
              unfold gaF
              rw [if_neg hEp, if_neg (fun z => z.elim hl h6), if_neg (Classical.not_not.mpr hfg)]
              cases f <;> rfl
            rw [e]
            refine e_2 rfl rfl ?_
            refine e_30 rfl (fun h1 => ?_) (fun h1 => ?_)
            · exact absurd h1 (by decide)
            · refine e_4 rfl rfl ?_
              refine r_g15 hm rfl rfl ?_
              refine e_4 rfl rfl ?_
              refine r_g16 hm rfl rfl ?_
              refine e_39 rfl (fun h2 => ?_) (fun h2 => ?_)
              · exact absurd h2 (nI_ge (by omega) (by omega))
              · refine e_4 rfl rfl ?_
                refine e_v0 rfl (by first | exact hm.1 | assumption | rfl) rfl (by decide) rfl (Nat.le_of_ble_eq_true rfl) (mr_gang_c hm hF hE (by omega) hG eG hl h6 hfg) ?_
                refine e_5 rfl rfl ?_
                refine e_42 rfl ?_
                refine e_lv [0, 1, 2] rfl rfl ?_
                have h := ih (skF (chF0 (fun x => ps_i μ (m + 6) (F + x)) E) 60 (p + 2)) (G + 1) (upd ks G (letterM ((chF0 (fun x => ps_i μ (m + 6) (F + x)) E) p))) (upd fs G (nI (dvF (chF0 (fun x => ps_i μ (m + 6) (F + x)) E) (p + 1)))) (upd ρ 22 (nI (G + 1))) (sk_le _ _ (by omega)) (by have := sk_ge (c := (chF0 (fun x => ps_i μ (m + 6) (F + x)) E)) 60 (p + 2); omega) (by omega) pk_us
                rw [upd_upd, ← gam_s] at h
                exact h
          · skip
            have e : gaF (chF0 (fun x => ps_i μ (m + 6) (F + x)) E) E (f + 1) p G ks fs = (0, p + 1, G, ks, fs) := by
              unfold gaF
              rw [if_neg hEp, if_neg (fun z => z.elim hl h6), if_pos hfg]
            rw [e]
            show ps_To _ _ _ (ps_rt _ (some (.int (if (0 : Int32) = 1 ∧ 0 < G then -9 else nI (p + 1)))) (RD μ m F (p + 1) E (upd ρ 22 (nI G)) (gam γ ks fs G))) _
            rw [upd_same eG]
            refine e_2 rfl rfl ?_
            refine e_30 rfl (fun h1 => ?_) (fun h1 => ?_)
            · exact absurd h1 (by decide)
            · refine e_4 rfl rfl ?_
              refine r_g15 hm rfl rfl ?_
              refine e_4 rfl rfl ?_
              refine r_g16 hm rfl rfl ?_
              refine e_39 rfl (fun h2 => ?_) (fun h2 => ?_)
              · exact absurd h2 (nI_ge (by omega) (by omega))
              · refine e_4 rfl rfl ?_
                refine e_v0 rfl (by first | exact hm.1 | assumption | rfl) rfl (by decide) rfl (Nat.le_of_ble_eq_true rfl) (mr_gang_b hm hF hE (by omega) hG eG hl h6 hfg) ?_
                refine e_5 rfl rfl ?_
                refine e_42 rfl ?_
                refine e_2 rfl rfl ?_
                refine e_30 rfl (fun h3 => ?_) (fun h3 => ?_)
                · refine e_2 rfl rfl ?_
                  refine e_30 rfl (fun h4 => ?_) (fun h4 => ?_)
                  · refine e_4 rfl rfl ?_
                    refine r_g15 hm rfl rfl ?_
                    exact e_ri rfl rfl (by rw [if_neg (fun z => absurd z.1 (by decide))]) (rfl)
                  · exact absurd rfl h4
                · exact absurd rfl h3
theorem mr_faultOf (hm : isMd μ m) {t : Nat} (ht : t < 4) (eE : ps_i μ (m + 5) t = nI E) (hE : E ≤ 60) : ∃ (pl : Nat) (ρ' γ' : Nat → Int32), evI (ps_XX L xs) (d + 4) j_X8_faultOf [.ref m, .int (nI t)] μ (fltF (chF0 (fun x => ps_i μ (m + 6) (60 * t + x)) E) E, RD μ m (60 * t) pl E ρ' γ') ∧ (fltF (chF0 (fun x => ps_i μ (m + 6) (60 * t + x)) E) E = -9 → ρ' 17 = 10 * (nI (dvF (chF0 (fun x => ps_i μ (m + 6) (60 * t + x)) E) (skF (chF0 (fun x => ps_i μ (m + 6) (60 * t + x)) E) 60 0 + 1))) + (nI (dvF (chF0 (fun x => ps_i μ (m + 6) (60 * t + x)) E) (skF (chF0 (fun x => ps_i μ (m + 6) (60 * t + x)) E) 60 0 + 2))) ∧ ρ' 18 = (nI (dvF (chF0 (fun x => ps_i μ (m + 6) (60 * t + x)) E) (skF (chF0 (fun x => ps_i μ (m + 6) (60 * t + x)) E) 60 0 + 3))) ∧ ρ' 19 = (nI (dvF (chF0 (fun x => ps_i μ (m + 6) (60 * t + x)) E) (skF (chF0 (fun x => ps_i μ (m + 6) (60 * t + x)) E) 60 0 + 4))) ∧ ρ' 20 = 10 * (nI (dvF (chF0 (fun x => ps_i μ (m + 6) (60 * t + x)) E) (skF (chF0 (fun x => ps_i μ (m + 6) (60 * t + x)) E) 60 0 + 5))) + (nI (dvF (chF0 (fun x => ps_i μ (m + 6) (60 * t + x)) E) (skF (chF0 (fun x => ps_i μ (m + 6) (60 * t + x)) E) 60 0 + 6))) ∧ ρ' 22 = nI (gaR (chF0 (fun x => ps_i μ (m + 6) (60 * t + x)) E) E).2.2.1 ∧ γ' = gam (ps_i μ (m + 8)) (gaR (chF0 (fun x => ps_i μ (m + 6) (60 * t + x)) E) E).2.2.2.1 (gaR (chF0 (fun x => ps_i μ (m + 6) (60 * t + x)) E) E).2.2.2.2 (gaR (chF0 (fun x => ps_i μ (m + 6) (60 * t + x)) E) E).2.2.1) := by
  obtain ⟨ρ1, hull, e22, hv⟩ := mr_hull (L := L) (xs := xs) (d := d) (F := 60 * t) (p := 0) (E := E) (ρ := upd (ps_i μ m) 22 0) (γ := ps_i μ (m + 8)) hm (by omega) hE (Nat.zero_le _) rfl
  have hq := sk_le (b := fun x => ps_i μ (m + 6) (60 * t + x)) (E := E) 60 0 (Nat.zero_le _)
  by_cases h7 : hullN (chF0 (fun x => ps_i μ (m + 6) (60 * t + x)) E) (skF (chF0 (fun x => ps_i μ (m + 6) (60 * t + x)) E) 60 0) = 7
  · have hq7 : skF (chF0 (fun x => ps_i μ (m + 6) (60 * t + x)) E) 60 0 + 7 ≤ E := by
      unfold hullN at h7
      split at h7
      · exact absurd h7 (by decide)
      split at h7
      · exact absurd h7 (by decide)
      split at h7
      · exact absurd h7 (by decide)
      split at h7
      · exact absurd h7 (by decide)
      split at h7
      · exact absurd h7 (by decide)
      split at h7
      · exact absurd h7 (by decide)
      split at h7
      · exact absurd h7 (by decide)
      · rename_i z
        have := fig_in (Classical.not_not.mp z) (hl_9 _)
        omega
    have ef : fltF (chF0 (fun x => ps_i μ (m + 6) (60 * t + x)) E) E = ansF (gaR (chF0 (fun x => ps_i μ (m + 6) (60 * t + x)) E) E) := if_neg (Classical.not_not.mpr h7)
    rw [ef]
    rw [b2i_t h7, h7] at hull
    have hv := hv h7
    refine ⟨(gaR (chF0 (fun x => ps_i μ (m + 6) (60 * t + x)) E) E).2.1, upd ρ1 22 (nI (gaR (chF0 (fun x => ps_i μ (m + 6) (60 * t + x)) E) E).2.2.1), gam (ps_i μ (m + 8)) (gaR (chF0 (fun x => ps_i μ (m + 6) (60 * t + x)) E) E).2.2.2.1 (gaR (chF0 (fun x => ps_i μ (m + 6) (60 * t + x)) E) E).2.2.2.2 (gaR (chF0 (fun x => ps_i μ (m + 6) (60 * t + x)) E) E).2.2.1, ⟨Nat.le_of_ble_eq_true rfl, ?_⟩, fun _ => ⟨?_, ?_, ?_, ?_, pk_us, rfl⟩⟩
    · refine e_4 rfl rfl ?_
      refine e_0 rfl ?_
      refine e_2 rfl rfl ?_
      refine e_11 rfl ?_
      refine e_pi rfl hm.1 rfl (Or.inl rfl) ?_
      refine e_4 rfl rfl ?_
      refine e_0 rfl ?_
      refine e_pi rfl hm.1 rfl (Or.inl rfl) ?_
      refine e_4 rfl rfl ?_
      refine e_4 rfl rfl ?_
      refine e_gr rfl hm.1 rfl hm.2.2.2.2.2.2.2.2.2.2.2.2.2.1 ?_
      refine e_2 rfl rfl ?_
      refine e_48q (i := t) rfl hm.2.2.2.2.2.1 (by first | rfl | (simp only [← nI_add, ← pk_mul]; rfl) | (simp only [nI_add, pk_mul, nI_1]; done)) (by omega) (by decide) ?_
      refine e_pi rfl hm.1 rfl (Or.inl rfl) ?_
      refine e_4 rfl rfl ?_
      refine e_0 rfl ?_
      refine e_pi rfl hm.1 rfl (Or.inl rfl) ?_
      show ps_To _ _ _ _ (28, _, _, ps_sI (ps_sI (ps_sI (ps_sI μ m 14 (60 * nI t)) m 15 (nI 0)) m 16 _) m 22 0)
      rw [show (60 : Int32) * nI t = nI (60 * t) from pk_mul 60 t, sI_off (by omega), sI_off (by omega), eE, RD_init]
      refine e_4 rfl rfl ?_
      refine e_v0 rfl (by first | exact hm.1 | assumption | rfl) rfl (by decide) rfl (Nat.le_of_ble_eq_true rfl) (hull) ?_
      refine e_5 rfl rfl ?_
      refine e_2 rfl rfl ?_
      refine e_30 rfl (fun h1 => ?_) (fun h1 => ?_)
      · exact absurd h1 (by decide)
      · refine e_4 rfl rfl ?_
        refine e_v0v rfl (by first | exact hm.1 | assumption | rfl) rfl (by decide) rfl (Nat.le_of_ble_eq_true rfl) (mr_skip (f := 60) hm (by omega) hE (by omega) (by omega)) ?_
        refine e_lv [0, 1, 2] rfl rfl ?_
        have h := mr_gangs (L := L) (xs := xs) (d := d) (F := 60 * t) (γ := ps_i μ (m + 8)) hm (by omega) hE (nI t) 60 (skF (chF0 (fun x => ps_i μ (m + 6) (60 * t + x)) E) 60 (skF (chF0 (fun x => ps_i μ (m + 6) (60 * t + x)) E) 60 0 + 7)) 0 z0F z0F ρ1 (sk_le _ _ hq7) (by omega) (by omega) (e22.trans pk_us)
        rw [gam_0] at h
        exact h
    · rw [pk_un (by decide)]; exact hv.1
    · rw [pk_un (by decide)]; exact hv.2.1
    · rw [pk_un (by decide)]; exact hv.2.2.1
    · rw [pk_un (by decide)]; exact hv.2.2.2
  · have ef : fltF (chF0 (fun x => ps_i μ (m + 6) (60 * t + x)) E) E = nI (skF (chF0 (fun x => ps_i μ (m + 6) (60 * t + x)) E) 60 0 + hullN (chF0 (fun x => ps_i μ (m + 6) (60 * t + x)) E) (skF (chF0 (fun x => ps_i μ (m + 6) (60 * t + x)) E) 60 0)) := if_pos h7
    have hh7 : hullN (chF0 (fun x => ps_i μ (m + 6) (60 * t + x)) E) (skF (chF0 (fun x => ps_i μ (m + 6) (60 * t + x)) E) 60 0) ≤ 7 := by
      unfold hullN
      repeat (split; omega)
      omega
    rw [ef]
    rw [b2i_f h7] at hull
    refine ⟨skF (chF0 (fun x => ps_i μ (m + 6) (60 * t + x)) E) 60 0 + hullN (chF0 (fun x => ps_i μ (m + 6) (60 * t + x)) E) (skF (chF0 (fun x => ps_i μ (m + 6) (60 * t + x)) E) 60 0), ρ1, ps_i μ (m + 8), ⟨Nat.le_of_ble_eq_true rfl, ?_⟩, fun z => absurd z (nI_n9 (by omega))⟩
    refine e_4 rfl rfl ?_
    refine e_0 rfl ?_
    refine e_2 rfl rfl ?_
    refine e_11 rfl ?_
    refine e_pi rfl hm.1 rfl (Or.inl rfl) ?_
    refine e_4 rfl rfl ?_
    refine e_0 rfl ?_
    refine e_pi rfl hm.1 rfl (Or.inl rfl) ?_
    refine e_4 rfl rfl ?_
    refine e_4 rfl rfl ?_
    refine e_gr rfl hm.1 rfl hm.2.2.2.2.2.2.2.2.2.2.2.2.2.1 ?_
    refine e_2 rfl rfl ?_
    refine e_48q (i := t) rfl hm.2.2.2.2.2.1 (by first | rfl | (simp only [← nI_add, ← pk_mul]; rfl) | (simp only [nI_add, pk_mul, nI_1]; done)) (by omega) (by decide) ?_
    refine e_pi rfl hm.1 rfl (Or.inl rfl) ?_
    refine e_4 rfl rfl ?_
    refine e_0 rfl ?_
    refine e_pi rfl hm.1 rfl (Or.inl rfl) ?_
    show ps_To _ _ _ _ (28, _, _, ps_sI (ps_sI (ps_sI (ps_sI μ m 14 (60 * nI t)) m 15 (nI 0)) m 16 _) m 22 0)
    rw [show (60 : Int32) * nI t = nI (60 * t) from pk_mul 60 t, sI_off (by omega), sI_off (by omega), eE, RD_init]
    refine e_4 rfl rfl ?_
    refine e_v0 rfl (by first | exact hm.1 | assumption | rfl) rfl (by decide) rfl (Nat.le_of_ble_eq_true rfl) (hull) ?_
    refine e_5 rfl rfl ?_
    refine e_2 rfl rfl ?_
    refine e_30 rfl (fun h1 => ?_) (fun h1 => ?_)
    · refine e_2 rfl rfl ?_
      refine e_30 rfl (fun h2 => ?_) (fun h2 => ?_)
      · refine e_2 rfl rfl ?_
        refine e_30 rfl (fun h3 => ?_) (fun h3 => ?_)
        · refine e_4 rfl rfl ?_
          refine r_g15 hm rfl rfl ?_
          exact e_ri rfl rfl (by rfl) (rfl)
        · exact absurd rfl h3
      · exact absurd rfl h2
    · exact absurd rfl h1
end MRE
