-- ===== the class: gangs read, faults, ships =====
def enS (σ ks fs : Nat → Int32) (G : Nat) : Nat → Int32 := fun k => if k = 8 then nI G else if 9 ≤ k ∧ k < 9 + G then ks (k - 9) else if 15 ≤ k ∧ k < 15 + G then fs (k - 15) else if 21 ≤ k ∧ k < 21 + G then fs (k - 21) else σ k
theorem enS_s {σ ks fs : Nat → Int32} {G : Nat} (hG : G < 6) {k f : Int32} : upd (upd (upd (upd (enS σ ks fs G) (9 + G) k) (15 + G) f) (21 + G) f) 8 (nI (G + 1)) = enS σ (upd ks G k) (upd fs G f) (G + 1) := by
  funext x
  unfold enS upd
  dsimp only
  repeat' split
  all_goals first | rfl | omega
theorem enS_0 {σ ks fs : Nat → Int32} (h : σ 8 = 0) : enS σ ks fs 0 = σ := by
  funext x
  unfold enS
  by_cases z : x = 8
  · subst z; rw [if_pos rfl]; exact h.symm
  · rw [if_neg z, if_neg (by omega), if_neg (by omega), if_neg (by omega)]
theorem kd_lt {c : Int32} : kdF c < 0 ↔ letterM c = -9 := by
  unfold kdF
  by_cases z : letterM c = -9
  · rw [if_pos z]; exact ⟨fun _ => z, fun _ => by decide⟩
  · rw [if_neg z]
    obtain ⟨k, hk, e⟩ := let_6 z
    rw [e]
    exact ⟨fun q => absurd q (nI_pos (by omega)), fun q => absurd q (nI_n9 (by omega))⟩
section KRG
variable {L : Nat} {xs : Nat → Int32} {d : Nat} {ν : ps_M} {t p E : Nat} {σ : Nat → Int32}
theorem kc_gang_a1 (hr : isRd ν t) (eE : ps_i ν t 0 = nI E) (hE : E ≤ 60) (hp : p < 2 ^ 20) {G : Nat} (hG : G ≤ 6) (eG : σ 8 = nI G) (hl : letterM ((chF0 (ps_i ν (t + 1)) E) p) = -9) : ps_Ev (ps_XX L xs) (d + 5) j_X0_takesGang [.ref 14] (RC ν (p) (σ)) (some (.int 0)) (RC ν (p) (σ)) := by
  refine ⟨Nat.le_of_ble_eq_true rfl, ?_⟩
  refine e_4 rfl rfl ?_
  refine e_v0 rfl (by first | exact p_14 hr.1 | exact hr.2.1.1 | exact (p_sh15 hr.1).1) rfl (by decide) rfl (Nat.le_of_ble_eq_true rfl) (kc_kind hr eE hE (by omega)) ?_
  refine e_5 rfl rfl ?_
  refine e_2 rfl rfl ?_
  refine e_32 rfl (fun h1 => ?_) (fun h1 => ?_)
  · refine e_0 rfl ?_
    exact e_rz rfl rfl (by decide) (by rfl) (rfl)
  · exact absurd (kd_lt.mpr hl) h1
theorem kc_gang_a2 (hr : isRd ν t) (eE : ps_i ν t 0 = nI E) (hE : E ≤ 60) (hp : p < 2 ^ 20) {G : Nat} (hG : G ≤ 6) (eG : σ 8 = nI G) (hl : ¬ letterM ((chF0 (ps_i ν (t + 1)) E) p) = -9) (h6 : G = 6) : ps_Ev (ps_XX L xs) (d + 5) j_X0_takesGang [.ref 14] (RC ν (p) (σ)) (some (.int 0)) (RC ν (p) (σ)) := by
  refine ⟨Nat.le_of_ble_eq_true rfl, ?_⟩
  refine e_4 rfl rfl ?_
  refine e_v0 rfl (by first | exact p_14 hr.1 | exact hr.2.1.1 | exact (p_sh15 hr.1).1) rfl (by decide) rfl (Nat.le_of_ble_eq_true rfl) (kc_kind hr eE hE (by omega)) ?_
  refine e_5 rfl rfl ?_
  refine e_2 rfl rfl ?_
  refine e_32 rfl (fun h1 => ?_) (fun h1 => ?_)
  · exact absurd (kd_lt.mp h1) hl
  · refine e_4 rfl rfl ?_
    refine e_gr rfl (p_14 hr.1) rfl (p_r14 hr.1) ?_
    refine c_gi hr.1 rfl rfl (by decide) (by decide) ?_
    refine e_0 rfl ?_
    refine e_38 rfl (fun h2 => ?_) (fun h2 => ?_)
    · exact absurd h2 (by rw [eG, h6]; decide)
    · refine e_0 rfl ?_
      exact e_rz rfl rfl (by decide) (by rfl) (rfl)
theorem kc_gang_b (hr : isRd ν t) (eE : ps_i ν t 0 = nI E) (hE : E ≤ 60) (hp : p < 2 ^ 20) {G : Nat} (hG : G ≤ 6) (eG : σ 8 = nI G) (hl : ¬ letterM ((chF0 (ps_i ν (t + 1)) E) p) = -9) (h6 : ¬ G = 6) (hf : ¬ figP (chF0 (ps_i ν (t + 1)) E) 1 9 (p + 1)) : ps_Ev (ps_XX L xs) (d + 5) j_X0_takesGang [.ref 14] (RC ν (p) (σ)) (some (.int 0)) (RC ν (p + 1) (σ)) := by
  refine ⟨Nat.le_of_ble_eq_true rfl, ?_⟩
  refine e_4 rfl rfl ?_
  refine e_v0 rfl (by first | exact p_14 hr.1 | exact hr.2.1.1 | exact (p_sh15 hr.1).1) rfl (by decide) rfl (Nat.le_of_ble_eq_true rfl) (kc_kind hr eE hE (by omega)) ?_
  refine e_5 rfl rfl ?_
  refine e_2 rfl rfl ?_
  refine e_32 rfl (fun h1 => ?_) (fun h1 => ?_)
  · exact absurd (kd_lt.mp h1) hl
  · refine e_4 rfl rfl ?_
    refine e_gr rfl (p_14 hr.1) rfl (p_r14 hr.1) ?_
    refine c_gi hr.1 rfl rfl (by decide) (by decide) ?_
    refine e_0 rfl ?_
    refine e_38 rfl (fun h2 => ?_) (fun h2 => ?_)
    · refine e_4 rfl rfl ?_
      refine e_28 rfl rfl ?_
      refine c_gp hr.1 rfl rfl ?_
      refine e_0 rfl ?_
      refine e_9 rfl ?_
      refine c_pp (p' := (p + 1)) hr.1 rfl rfl (by first | rfl | (simp only [← nI_add, ← pk_mul]; rfl) | (simp only [nI_add, pk_mul, nI_1]; done)) ?_
      refine e_4 rfl rfl ?_
      refine e_0 rfl ?_
      refine e_0 rfl ?_
      refine e_v2 rfl (by first | exact p_14 hr.1 | exact hr.2.1.1 | exact (p_sh15 hr.1).1) rfl (by decide) rfl (Nat.le_of_ble_eq_true rfl) (kc_fig_no (p := p + 1) (lo := 1) (hi := 9) hr eE hE (by omega) (by omega) (by omega) hf) ?_
      refine e_5 rfl rfl ?_
      refine e_2 rfl rfl ?_
      refine e_33 rfl (fun h3 => ?_) (fun h3 => ?_)
      · exact absurd h3 (by decide)
      · refine e_0 rfl ?_
        exact e_rz rfl rfl (by decide) (by rfl) (rfl)
    · exact absurd (by rw [eG]; exact nI_lt (b := 6) (by omega) (by omega)) h2
theorem kc_gang_c (hr : isRd ν t) (eE : ps_i ν t 0 = nI E) (hE : E ≤ 60) (hp : p < 2 ^ 20) {G : Nat} (hG : G ≤ 6) (eG : σ 8 = nI G) (hl : ¬ letterM ((chF0 (ps_i ν (t + 1)) E) p) = -9) (h6 : ¬ G = 6) (hf : figP (chF0 (ps_i ν (t + 1)) E) 1 9 (p + 1)) : ps_Ev (ps_XX L xs) (d + 5) j_X0_takesGang [.ref 14] (RC ν (p) (σ)) (some (.int 1)) (RC ν (p + 2) (upd (upd (upd (upd σ (9 + G) (letterM ((chF0 (ps_i ν (t + 1)) E) p))) (15 + G) (nI (dvF (chF0 (ps_i ν (t + 1)) E) (p + 1)))) (21 + G) (nI (dvF (chF0 (ps_i ν (t + 1)) E) (p + 1)))) 8 (nI (G + 1)))) := by
  refine ⟨Nat.le_of_ble_eq_true rfl, ?_⟩
  have hdv := fig_dv hf (by omega) (by omega)
  have ekd : kdF ((chF0 (ps_i ν (t + 1)) E) p) = letterM ((chF0 (ps_i ν (t + 1)) E) p) := if_neg hl
  have en := ss_enlist (L := L) (xs := xs) (d := d + 3) (μ := ps_sI ν 14 2 (nI (p + 1 + 1))) (q := 15) (σ := σ) (p_sh15 hr.1.sI) hG eG (letterM ((chF0 (ps_i ν (t + 1)) E) p)) (nI (dvF (chF0 (ps_i ν (t + 1)) E) (p + 1)))
  rw [if_neg (show ¬ (6 : Int32) ≤ σ 8 from by rw [eG]; exact nI_ge (a := G) (b := 6) (by omega) (by omega))] at en
  refine e_4 rfl rfl ?_
  refine e_v0 rfl (by first | exact p_14 hr.1 | exact hr.2.1.1 | exact (p_sh15 hr.1).1) rfl (by decide) rfl (Nat.le_of_ble_eq_true rfl) (kc_kind hr eE hE (by omega)) ?_
  refine e_5 rfl rfl ?_
  refine e_2 rfl rfl ?_
  refine e_32 rfl (fun h1 => ?_) (fun h1 => ?_)
  · exact absurd (kd_lt.mp h1) hl
  · refine e_4 rfl rfl ?_
    refine e_gr rfl (p_14 hr.1) rfl (p_r14 hr.1) ?_
    refine c_gi hr.1 rfl rfl (by decide) (by decide) ?_
    refine e_0 rfl ?_
    refine e_38 rfl (fun h2 => ?_) (fun h2 => ?_)
    · refine e_4 rfl rfl ?_
      refine e_28 rfl rfl ?_
      refine c_gp hr.1 rfl rfl ?_
      refine e_0 rfl ?_
      refine e_9 rfl ?_
      refine c_pp (p' := (p + 1)) hr.1 rfl rfl (by first | rfl | (simp only [← nI_add, ← pk_mul]; rfl) | (simp only [nI_add, pk_mul, nI_1]; done)) ?_
      refine e_4 rfl rfl ?_
      refine e_0 rfl ?_
      refine e_0 rfl ?_
      refine e_v2 rfl (by first | exact p_14 hr.1 | exact hr.2.1.1 | exact (p_sh15 hr.1).1) rfl (by decide) rfl (Nat.le_of_ble_eq_true rfl) (kc_fig_ok (p := p + 1) (lo := 1) (hi := 9) hr eE hE (by omega) (by omega) (by omega) hf) ?_
      refine e_5 rfl rfl ?_
      refine e_2 rfl rfl ?_
      refine e_33 rfl (fun h3 => ?_) (fun h3 => ?_)
      · refine e_4 rfl rfl ?_
        refine e_gr rfl (p_14 hr.1) rfl (p_r14 hr.1) ?_
        refine e_2 rfl rfl ?_
        refine e_2 rfl rfl ?_
        rw [ekd]
        refine e_v2v rfl (by first | exact p_14 hr.1 | exact hr.2.1.1 | exact (p_sh15 hr.1).1) rfl (by decide) rfl (Nat.le_of_ble_eq_true rfl) (en) ?_
        refine e_0 rfl ?_
        exact e_rz rfl rfl (by decide) (by rfl) (rfl)
      · exact absurd (nI_pos' (by omega)) h3
    · exact absurd (by rw [eG]; exact nI_lt (b := 6) (by omega) (by omega)) h2
theorem ans_0 {G p : Nat} (h : nI G = 0) (hG : G ≤ 6) : nI p = if (1 : Int32) = 1 ∧ 0 < G then -9 else nI p := by
  have := (nI_eq (b := 0) (by omega) (by omega)).mp h
  rw [if_neg (by omega)]
theorem ans_1 {G p : Nat} (h : ¬ nI G = 0) : -9 = if (1 : Int32) = 1 ∧ 0 < G then -9 else nI p := by
  rw [if_pos ⟨rfl, Nat.pos_of_ne_zero (fun z => h (by rw [z]; rfl))⟩]
theorem kc_gangs (hr : isRd ν t) (eE : ps_i ν t 0 = nI E) (hE : E ≤ 60) : ∀ (f i p G : Nat) (ks fs : Nat → Int32), i + f = 60 → p ≤ E → E ≤ p + 2 * f → G ≤ 6 → ps_To (ps_XX L xs) (ps_Ev (ps_XX L xs) (d + 5)) j_X0_findFault (ps_rt j_X0_findFault (some (.int (ansF (gaF (chF0 (ps_i ν (t + 1)) E) E f p G ks fs)))) (RC ν (gaF (chF0 (ps_i ν (t + 1)) E) E f p G ks fs).2.1 (enS σ (gaF (chF0 (ps_i ν (t + 1)) E) E f p G ks fs).2.2.2.1 (gaF (chF0 (ps_i ν (t + 1)) E) E f p G ks fs).2.2.2.2 (gaF (chF0 (ps_i ν (t + 1)) E) E f p G ks fs).2.2.1))) (32, [(2, .int (nI i)), (0, .ref 14), (1, .ref t)], [], RC ν p (enS σ ks fs G)) := by
  have h57 := hr.2.2.2
  intro f
  induction f with
  | zero =>
    intro i p G ks fs hi hp hf hG
    have e : gaF (chF0 (ps_i ν (t + 1)) E) E 0 p G ks fs = (1, p, G, ks, fs) := rfl
    rw [e]
    show ps_To _ _ _ (ps_rt _ (some (.int (if (1 : Int32) = 1 ∧ 0 < G then -9 else nI p))) (RC ν p (enS σ ks fs G))) _
    refine e_2 rfl rfl ?_
    refine e_0 rfl ?_
    refine e_39 rfl (fun h1 => ?_) (fun h1 => ?_)
    · refine e_4 rfl rfl ?_
      refine e_gr rfl (p_14 hr.1) rfl (p_r14 hr.1) ?_
      refine c_gi hr.1 rfl rfl (by decide) (by decide) ?_
      rw [show enS σ ks fs G 8 = nI G from rfl]
      refine e_31 rfl (fun h2 => ?_) (fun h2 => ?_)
      · refine e_0 rfl ?_
        exact e_ri rfl rfl (by first | exact ans_0 (by assumption) hG | exact ans_1 (by assumption)) (rfl)
      · refine e_4 rfl rfl ?_
        refine c_gp hr.1 rfl rfl ?_
        refine e_42 rfl ?_
        exact e_ri rfl rfl (by first | exact ans_0 (by assumption) hG | exact ans_1 (by assumption)) (rfl)
    · exact absurd (show nI 60 ≤ nI i from nI_le (by omega) (by omega)) h1
  | succ f ih =>
    intro i p G ks fs hi hp hf hG
    by_cases hEp : E ≤ p
    · have e : gaF (chF0 (ps_i ν (t + 1)) E) E (f + 1) p G ks fs = (1, p, G, ks, fs) := if_pos hEp
      rw [e]
      show ps_To _ _ _ (ps_rt _ (some (.int (if (1 : Int32) = 1 ∧ 0 < G then -9 else nI p))) (RC ν p (enS σ ks fs G))) _
      refine e_2 rfl rfl ?_
      refine e_0 rfl ?_
      refine e_39 rfl (fun h1 => ?_) (fun h1 => ?_)
      · exact absurd (show nI 60 ≤ nI i from h1) (nI_ge (by omega) (by omega))
      · refine e_4 rfl rfl ?_
        refine c_gp hr.1 rfl rfl ?_
        refine e_4 rfl rfl ?_
        refine e_gi rfl hr.2.1.1 rfl (by decide) ?_
        rw [show ps_i (RC ν p (enS σ ks fs G)) t 0 = nI E from (RC_off (by omega)).trans eE]
        refine e_39 rfl (fun h2 => ?_) (fun h2 => ?_)
        · refine e_4 rfl rfl ?_
          refine e_gr rfl (p_14 hr.1) rfl (p_r14 hr.1) ?_
          refine c_gi hr.1 rfl rfl (by decide) (by decide) ?_
          rw [show enS σ ks fs G 8 = nI G from rfl]
          refine e_31 rfl (fun h3 => ?_) (fun h3 => ?_)
          · refine e_0 rfl ?_
            exact e_ri rfl rfl (by first | exact ans_0 (by assumption) hG | exact ans_1 (by assumption)) (rfl)
          · refine e_4 rfl rfl ?_
            refine c_gp hr.1 rfl rfl ?_
            refine e_42 rfl ?_
            exact e_ri rfl rfl (by first | exact ans_0 (by assumption) hG | exact ans_1 (by assumption)) (rfl)
        · exact absurd (nI_le (by omega) (by omega)) h2
    · by_cases hl : letterM ((chF0 (ps_i ν (t + 1)) E) p) = -9
      · skip
        have e : gaF (chF0 (ps_i ν (t + 1)) E) E (f + 1) p G ks fs = (0, p, G, ks, fs) := by
          unfold gaF
          rw [if_neg hEp, if_pos (Or.inl hl)]
        rw [e]
        show ps_To _ _ _ (ps_rt _ (some (.int (if (0 : Int32) = 1 ∧ 0 < G then -9 else nI (p)))) (RC ν (p) (enS σ ks fs G))) _
        refine e_2 rfl rfl ?_
        refine e_0 rfl ?_
        refine e_39 rfl (fun h1 => ?_) (fun h1 => ?_)
        · exact absurd (show nI 60 ≤ nI i from h1) (nI_ge (by omega) (by omega))
        · refine e_4 rfl rfl ?_
          refine c_gp hr.1 rfl rfl ?_
          refine e_4 rfl rfl ?_
          refine e_gi rfl hr.2.1.1 rfl (by decide) ?_
          rw [show ps_i (RC ν p (enS σ ks fs G)) t 0 = nI E from (RC_off (by omega)).trans eE]
          refine e_39 rfl (fun h2 => ?_) (fun h2 => ?_)
          · exact absurd h2 (nI_ge (by omega) (by omega))
          · refine e_4 rfl rfl ?_
            refine e_v0 rfl (by first | exact p_14 hr.1 | exact hr.2.1.1 | exact (p_sh15 hr.1).1) rfl (by decide) rfl (Nat.le_of_ble_eq_true rfl) (kc_gang_a1 hr eE hE (by omega) hG rfl hl) ?_
            refine e_31 rfl (fun h3 => ?_) (fun h3 => ?_)
            · exact absurd rfl h3
            · refine e_4 rfl rfl ?_
              refine c_gp hr.1 rfl rfl ?_
              exact e_ri rfl rfl (by rw [if_neg (fun z => absurd z.1 (by decide))]) (rfl)
      · by_cases h6 : G = 6
        · skip
          have e : gaF (chF0 (ps_i ν (t + 1)) E) E (f + 1) p G ks fs = (0, p, G, ks, fs) := by
            unfold gaF
            rw [if_neg hEp, if_pos (Or.inr h6)]
          rw [e]
          show ps_To _ _ _ (ps_rt _ (some (.int (if (0 : Int32) = 1 ∧ 0 < G then -9 else nI (p)))) (RC ν (p) (enS σ ks fs G))) _
          refine e_2 rfl rfl ?_
          refine e_0 rfl ?_
          refine e_39 rfl (fun h1 => ?_) (fun h1 => ?_)
          · exact absurd (show nI 60 ≤ nI i from h1) (nI_ge (by omega) (by omega))
          · refine e_4 rfl rfl ?_
            refine c_gp hr.1 rfl rfl ?_
            refine e_4 rfl rfl ?_
            refine e_gi rfl hr.2.1.1 rfl (by decide) ?_
            rw [show ps_i (RC ν p (enS σ ks fs G)) t 0 = nI E from (RC_off (by omega)).trans eE]
            refine e_39 rfl (fun h2 => ?_) (fun h2 => ?_)
            · exact absurd h2 (nI_ge (by omega) (by omega))
            · refine e_4 rfl rfl ?_
              refine e_v0 rfl (by first | exact p_14 hr.1 | exact hr.2.1.1 | exact (p_sh15 hr.1).1) rfl (by decide) rfl (Nat.le_of_ble_eq_true rfl) (kc_gang_a2 hr eE hE (by omega) hG rfl hl h6) ?_
              refine e_31 rfl (fun h3 => ?_) (fun h3 => ?_)
              · exact absurd rfl h3
              · refine e_4 rfl rfl ?_
                refine c_gp hr.1 rfl rfl ?_
                exact e_ri rfl rfl (by rw [if_neg (fun z => absurd z.1 (by decide))]) (rfl)
        · by_cases hfg : figP (chF0 (ps_i ν (t + 1)) E) 1 9 (p + 1)
          · have hlt := fig_in hfg (by omega)
            have e : gaF (chF0 (ps_i ν (t + 1)) E) E (f + 1) p G ks fs = gaF (chF0 (ps_i ν (t + 1)) E) E f (skF (chF0 (ps_i ν (t + 1)) E) 60 (p + 2)) (G + 1) (upd ks G (letterM ((chF0 (ps_i ν (t + 1)) E) p))) (upd fs G (nI (dvF (chF0 (ps_i ν (t + 1)) E) (p + 1)))) := by
              unfold gaF
              rw [if_neg hEp, if_neg (fun z => z.elim hl h6), if_neg (Classical.not_not.mpr hfg)]
              cases f <;> rfl
            rw [e]
            refine e_2 rfl rfl ?_
            refine e_0 rfl ?_
            refine e_39 rfl (fun h1 => ?_) (fun h1 => ?_)
            · exact absurd (show nI 60 ≤ nI i from h1) (nI_ge (by omega) (by omega))
            · refine e_4 rfl rfl ?_
              refine c_gp hr.1 rfl rfl ?_
              refine e_4 rfl rfl ?_
              refine e_gi rfl hr.2.1.1 rfl (by decide) ?_
              rw [show ps_i (RC ν p (enS σ ks fs G)) t 0 = nI E from (RC_off (by omega)).trans eE]
              refine e_39 rfl (fun h2 => ?_) (fun h2 => ?_)
              · exact absurd h2 (nI_ge (by omega) (by omega))
              · refine e_4 rfl rfl ?_
                refine e_v0 rfl (by first | exact p_14 hr.1 | exact hr.2.1.1 | exact (p_sh15 hr.1).1) rfl (by decide) rfl (Nat.le_of_ble_eq_true rfl) (kc_gang_c hr eE hE (by omega) hG rfl hl h6 hfg) ?_
                refine e_31 rfl (fun h3 => ?_) (fun h3 => ?_)
                · rw [enS_s (by omega)]
                  refine e_4 rfl rfl ?_
                  refine e_v0v rfl (by first | exact p_14 hr.1 | exact hr.2.1.1 | exact (p_sh15 hr.1).1) rfl (by decide) rfl (Nat.le_of_ble_eq_true rfl) (kc_skip hr eE hE (by omega)) ?_
                  refine e_8 rfl rfl rfl ?_
                  refine e_42 rfl ?_
                  rw [nI_1]
                  exact ih (i + 1) (skF (chF0 (ps_i ν (t + 1)) E) 60 (p + 2)) (G + 1) _ _ (by omega) (sk_le _ _ (by omega)) (by have := sk_ge (c := (chF0 (ps_i ν (t + 1)) E)) 60 (p + 2); omega) (by omega)
                · exact absurd h3 (by decide)
          · skip
            have e : gaF (chF0 (ps_i ν (t + 1)) E) E (f + 1) p G ks fs = (0, p + 1, G, ks, fs) := by
              unfold gaF
              rw [if_neg hEp, if_neg (fun z => z.elim hl h6), if_pos hfg]
            rw [e]
            show ps_To _ _ _ (ps_rt _ (some (.int (if (0 : Int32) = 1 ∧ 0 < G then -9 else nI (p + 1)))) (RC ν (p + 1) (enS σ ks fs G))) _
            refine e_2 rfl rfl ?_
            refine e_0 rfl ?_
            refine e_39 rfl (fun h1 => ?_) (fun h1 => ?_)
            · exact absurd (show nI 60 ≤ nI i from h1) (nI_ge (by omega) (by omega))
            · refine e_4 rfl rfl ?_
              refine c_gp hr.1 rfl rfl ?_
              refine e_4 rfl rfl ?_
              refine e_gi rfl hr.2.1.1 rfl (by decide) ?_
              rw [show ps_i (RC ν p (enS σ ks fs G)) t 0 = nI E from (RC_off (by omega)).trans eE]
              refine e_39 rfl (fun h2 => ?_) (fun h2 => ?_)
              · exact absurd h2 (nI_ge (by omega) (by omega))
              · refine e_4 rfl rfl ?_
                refine e_v0 rfl (by first | exact p_14 hr.1 | exact hr.2.1.1 | exact (p_sh15 hr.1).1) rfl (by decide) rfl (Nat.le_of_ble_eq_true rfl) (kc_gang_b hr eE hE (by omega) hG rfl hl h6 hfg) ?_
                refine e_31 rfl (fun h3 => ?_) (fun h3 => ?_)
                · exact absurd rfl h3
                · refine e_4 rfl rfl ?_
                  refine c_gp hr.1 rfl rfl ?_
                  exact e_ri rfl rfl (by rw [if_neg (fun z => absurd z.1 (by decide))]) (rfl)
theorem hull_7 {b : Nat → Int32} {E q : Nat} (h7 : hullN (chF0 b E) q = 7) : q + 7 ≤ E := by
  unfold hullN at h7
  split at h7
  · exact absurd h7 (by decide)
  split at h7
  · exact absurd h7 (by decide)
  split at h7
  · exact absurd h7 (by decide)
  split at h7
  · exact absurd h7 (by decide)
  split at h7
  · exact absurd h7 (by decide)
  split at h7
  · exact absurd h7 (by decide)
  split at h7
  · exact absurd h7 (by decide)
  · rename_i z
    have := fig_in (Classical.not_not.mp z) (hl_9 _)
    omega
theorem rd_mk {μ : ps_M} (hp : isPs μ) {k : Nat} (hk : k < 4) : isRd (ps_sR μ 14 1 (some (57 + 2 * k))) (57 + 2 * k) := by
  have ht := p_tx hp hk
  refine ⟨hp.sR, ⟨ht.1, ht.2.1, ?_⟩, ?_, by omega⟩
  · show ps_up (ps_r μ) 14 1 (some (57 + 2 * k)) (57 + 2 * k) 1 = _
    exact (if_neg (by omega)).trans ht.2.2
  · show ps_up (ps_r μ) 14 1 (some (57 + 2 * k)) 14 1 = _
    exact if_pos ⟨rfl, rfl⟩
theorem RC_init {ξ : ps_M} : ps_sI ξ 14 2 0 = RC ξ 0 (shG (ps_i (ps_sI ξ 14 2 0)) 15) := (SM_self (ps_sI ξ 14 2 (nI 0)) 15).symm
theorem kc_findFault {μ : ps_M} (hp : isPs μ) {k : Nat} (hk : k < 4) (eE0 : ps_i μ (57 + 2 * k) 0 = nI E) (hE : E ≤ 60) : ∃ (pl : Nat) (σ' : Nat → Int32), evI (ps_XX L xs) (d + 6) j_X0_findFault [.ref 14, .ref (57 + 2 * k)] μ (fltF (chF0 (ps_i μ (57 + 2 * k + 1)) E) E, RC (ps_sR μ 14 1 (some (57 + 2 * k))) pl σ') ∧ (fltF (chF0 (ps_i μ (57 + 2 * k + 1)) E) E = -9 → ∃ σ1, σ' = enS (upd (upd (upd (upd (upd (upd (upd (upd (upd σ1 0 (10 * (nI (dvF (chF0 (ps_i μ (57 + 2 * k + 1)) E) (skF (chF0 (ps_i μ (57 + 2 * k + 1)) E) 60 0 + 1))) + (nI (dvF (chF0 (ps_i μ (57 + 2 * k + 1)) E) (skF (chF0 (ps_i μ (57 + 2 * k + 1)) E) 60 0 + 2))))) 1 (nI (dvF (chF0 (ps_i μ (57 + 2 * k + 1)) E) (skF (chF0 (ps_i μ (57 + 2 * k + 1)) E) 60 0 + 3)))) 2 (nI (dvF (chF0 (ps_i μ (57 + 2 * k + 1)) E) (skF (chF0 (ps_i μ (57 + 2 * k + 1)) E) 60 0 + 4)))) 3 0) 4 (10 * (nI (dvF (chF0 (ps_i μ (57 + 2 * k + 1)) E) (skF (chF0 (ps_i μ (57 + 2 * k + 1)) E) 60 0 + 5))) + (nI (dvF (chF0 (ps_i μ (57 + 2 * k + 1)) E) (skF (chF0 (ps_i μ (57 + 2 * k + 1)) E) 60 0 + 6))))) 5 0) 6 0) 7 0) 8 0) (gaR (chF0 (ps_i μ (57 + 2 * k + 1)) E) E).2.2.2.1 (gaR (chF0 (ps_i μ (57 + 2 * k + 1)) E) E).2.2.2.2 (gaR (chF0 (ps_i μ (57 + 2 * k + 1)) E) E).2.2.1) := by
  have hr := rd_mk hp hk
  have eE : ps_i (ps_sR μ 14 1 (some (57 + 2 * k))) (57 + 2 * k) 0 = nI E := eE0
  have hq := sk_le (b := ps_i μ (57 + 2 * k + 1)) (E := E) 60 0 (Nat.zero_le _)
  generalize hσ : shG (ps_i (ps_sI (ps_sR μ 14 1 (some (57 + 2 * k))) 14 2 0)) 15 = σ
  have hull := kc_hull (L := L) (xs := xs) (d := d) (σ := σ) hr eE hE (q := skF (chF0 (ps_i μ (57 + 2 * k + 1)) E) 60 0) (by omega)
  rw [show ps_i (ps_sR μ 14 1 (some (57 + 2 * k))) = ps_i μ from rfl] at hull
  by_cases h7 : hullN (chF0 (ps_i μ (57 + 2 * k + 1)) E) (skF (chF0 (ps_i μ (57 + 2 * k + 1)) E) 60 0) = 7
  · have hq7 : skF (chF0 (ps_i μ (57 + 2 * k + 1)) E) 60 0 + 7 ≤ E := hull_7 h7
    have ef : fltF (chF0 (ps_i μ (57 + 2 * k + 1)) E) E = ansF (gaR (chF0 (ps_i μ (57 + 2 * k + 1)) E) E) := if_neg (Classical.not_not.mpr h7)
    rw [ef]
    have hull : ps_Ev (ps_XX L xs) (d + 5) j_X0_takesHull [.ref 14] (RC (ps_sR μ 14 1 (some (57 + 2 * k))) (skF (chF0 (ps_i μ (57 + 2 * k + 1)) E) 60 0) σ) (some (.int 1)) (RC (ps_sR μ 14 1 (some (57 + 2 * k))) (skF (chF0 (ps_i μ (57 + 2 * k + 1)) E) 60 0 + 7) (upd (upd (upd (upd (upd (upd (upd (upd (upd σ 0 (10 * (nI (dvF (chF0 (ps_i μ (57 + 2 * k + 1)) E) (skF (chF0 (ps_i μ (57 + 2 * k + 1)) E) 60 0 + 1))) + (nI (dvF (chF0 (ps_i μ (57 + 2 * k + 1)) E) (skF (chF0 (ps_i μ (57 + 2 * k + 1)) E) 60 0 + 2))))) 1 (nI (dvF (chF0 (ps_i μ (57 + 2 * k + 1)) E) (skF (chF0 (ps_i μ (57 + 2 * k + 1)) E) 60 0 + 3)))) 2 (nI (dvF (chF0 (ps_i μ (57 + 2 * k + 1)) E) (skF (chF0 (ps_i μ (57 + 2 * k + 1)) E) 60 0 + 4)))) 3 0) 4 (10 * (nI (dvF (chF0 (ps_i μ (57 + 2 * k + 1)) E) (skF (chF0 (ps_i μ (57 + 2 * k + 1)) E) 60 0 + 5))) + (nI (dvF (chF0 (ps_i μ (57 + 2 * k + 1)) E) (skF (chF0 (ps_i μ (57 + 2 * k + 1)) E) 60 0 + 6))))) 5 0) 6 0) 7 0) 8 0)) := by
      rw [b2i_t h7, if_pos h7, h7] at hull
      exact hull
    generalize hσL : upd (upd (upd (upd (upd (upd (upd (upd (upd σ 0 (10 * (nI (dvF (chF0 (ps_i μ (57 + 2 * k + 1)) E) (skF (chF0 (ps_i μ (57 + 2 * k + 1)) E) 60 0 + 1))) + (nI (dvF (chF0 (ps_i μ (57 + 2 * k + 1)) E) (skF (chF0 (ps_i μ (57 + 2 * k + 1)) E) 60 0 + 2))))) 1 (nI (dvF (chF0 (ps_i μ (57 + 2 * k + 1)) E) (skF (chF0 (ps_i μ (57 + 2 * k + 1)) E) 60 0 + 3)))) 2 (nI (dvF (chF0 (ps_i μ (57 + 2 * k + 1)) E) (skF (chF0 (ps_i μ (57 + 2 * k + 1)) E) 60 0 + 4)))) 3 0) 4 (10 * (nI (dvF (chF0 (ps_i μ (57 + 2 * k + 1)) E) (skF (chF0 (ps_i μ (57 + 2 * k + 1)) E) 60 0 + 5))) + (nI (dvF (chF0 (ps_i μ (57 + 2 * k + 1)) E) (skF (chF0 (ps_i μ (57 + 2 * k + 1)) E) 60 0 + 6))))) 5 0) 6 0) 7 0) 8 0 = σL at hull
    have hσ8 : σL 8 = 0 := by rw [← hσL]; exact pk_us
    refine ⟨(gaR (chF0 (ps_i μ (57 + 2 * k + 1)) E) E).2.1, enS σL (gaR (chF0 (ps_i μ (57 + 2 * k + 1)) E) E).2.2.2.1 (gaR (chF0 (ps_i μ (57 + 2 * k + 1)) E) E).2.2.2.2 (gaR (chF0 (ps_i μ (57 + 2 * k + 1)) E) E).2.2.1, ⟨Nat.le_of_ble_eq_true rfl, ?_⟩, fun _ => ⟨σ, by rw [← hσL]⟩⟩
    refine e_4 rfl rfl ?_
    refine e_4 rfl rfl ?_
    refine e_pr rfl (p_14 hp) rfl ?_
    have hp := hp.sR (x := some (57 + 2 * k))
    refine e_4 rfl rfl ?_
    refine e_0 rfl ?_
    refine e_pi rfl (p_14 hp) rfl (Or.inl rfl) ?_
    rw [RC_init, hσ]
    refine e_4 rfl rfl ?_
    refine e_v0v rfl (by first | exact p_14 hr.1 | exact hr.2.1.1) rfl (by decide) rfl (Nat.le_of_ble_eq_true rfl) (kc_skip hr eE hE (by omega)) ?_
    refine e_4 rfl rfl ?_
    refine e_v0 rfl (by first | exact p_14 hr.1 | exact hr.2.1.1) rfl (by decide) rfl (Nat.le_of_ble_eq_true rfl) (hull) ?_
    refine e_31 rfl (fun h1 => ?_) (fun h1 => ?_)
    · refine e_4 rfl rfl ?_
      refine e_v0v rfl (by first | exact p_14 hr.1 | exact hr.2.1.1) rfl (by decide) rfl (Nat.le_of_ble_eq_true rfl) (kc_skip hr eE hE (by omega)) ?_
      refine e_0 rfl ?_
      refine e_5 rfl rfl ?_
      have h := kc_gangs (L := L) (xs := xs) (d := d) (σ := σL) hr eE hE 60 0 (skF (chF0 (ps_i μ (57 + 2 * k + 1)) E) 60 (skF (chF0 (ps_i μ (57 + 2 * k + 1)) E) 60 0 + 7)) 0 z0F z0F (by omega) (sk_le _ _ hq7) (by omega) (by omega)
      rw [enS_0 hσ8] at h
      exact h
    · exact absurd h1 (by decide)
  · have ef : fltF (chF0 (ps_i μ (57 + 2 * k + 1)) E) E = nI (skF (chF0 (ps_i μ (57 + 2 * k + 1)) E) 60 0 + hullN (chF0 (ps_i μ (57 + 2 * k + 1)) E) (skF (chF0 (ps_i μ (57 + 2 * k + 1)) E) 60 0)) := if_pos h7
    have hh7 : hullN (chF0 (ps_i μ (57 + 2 * k + 1)) E) (skF (chF0 (ps_i μ (57 + 2 * k + 1)) E) 60 0) ≤ 7 := by
      unfold hullN
      repeat (split; omega)
      omega
    rw [ef]
    have hull : ps_Ev (ps_XX L xs) (d + 5) j_X0_takesHull [.ref 14] (RC (ps_sR μ 14 1 (some (57 + 2 * k))) (skF (chF0 (ps_i μ (57 + 2 * k + 1)) E) 60 0) σ) (some (.int 0)) (RC (ps_sR μ 14 1 (some (57 + 2 * k))) (skF (chF0 (ps_i μ (57 + 2 * k + 1)) E) 60 0 + hullN (chF0 (ps_i μ (57 + 2 * k + 1)) E) (skF (chF0 (ps_i μ (57 + 2 * k + 1)) E) 60 0)) σ) := by
      rw [b2i_f h7, if_neg h7] at hull
      exact hull
    refine ⟨skF (chF0 (ps_i μ (57 + 2 * k + 1)) E) 60 0 + hullN (chF0 (ps_i μ (57 + 2 * k + 1)) E) (skF (chF0 (ps_i μ (57 + 2 * k + 1)) E) 60 0), σ, ⟨Nat.le_of_ble_eq_true rfl, ?_⟩, fun z => absurd z (nI_n9 (by omega))⟩
    refine e_4 rfl rfl ?_
    refine e_4 rfl rfl ?_
    refine e_pr rfl (p_14 hp) rfl ?_
    have hp := hp.sR (x := some (57 + 2 * k))
    refine e_4 rfl rfl ?_
    refine e_0 rfl ?_
    refine e_pi rfl (p_14 hp) rfl (Or.inl rfl) ?_
    rw [RC_init, hσ]
    refine e_4 rfl rfl ?_
    refine e_v0v rfl (by first | exact p_14 hr.1 | exact hr.2.1.1) rfl (by decide) rfl (Nat.le_of_ble_eq_true rfl) (kc_skip hr eE hE (by omega)) ?_
    refine e_4 rfl rfl ?_
    refine e_v0 rfl (by first | exact p_14 hr.1 | exact hr.2.1.1) rfl (by decide) rfl (Nat.le_of_ble_eq_true rfl) (hull) ?_
    refine e_31 rfl (fun h1 => ?_) (fun h1 => ?_)
    · exact absurd rfl h1
    · refine e_4 rfl rfl ?_
      refine c_gp hr.1 rfl rfl ?_
      exact e_ri rfl rfl (by rfl) (rfl)
end KRG
