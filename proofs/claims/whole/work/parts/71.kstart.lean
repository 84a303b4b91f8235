section KSF
variable {L : Nat} {xs : Nat → Int32} {D : Nat} {μ : ps_M} {g N : Nat} {kp : Nat → Int32 × (Nat → Int32)}
theorem st_t1 (hp : isPs μ) (hN : N ≤ 4) {σ0 : Nat → Int32} {e : Nat} {K : ps_F → Prop} (hk : ps_To (ps_XX L xs) (ps_Ev (ps_XX L xs) e) j_X2_start K (29, [(0, .ref 19), (1, .ref 4), (2, .int (nI N))], [], stM μ N)) : ps_To (ps_XX L xs) (ps_Ev (ps_XX L xs) e) j_X2_start K (0, [(0, .ref 19), (1, .ref 4), (2, .int (nI N))], [], μ) := by
  refine e_4 rfl rfl ?_
  refine e_0 rfl ?_
  refine e_2 rfl rfl ?_
  refine e_0 rfl ?_
  refine e_67 rfl (Nat.le_of_ble_eq_true rfl) ?_
  refine e_66 rfl (Nat.le_of_ble_eq_true rfl) ?_
  rw [mm_cut (M := 4) (y := 4) hN (by omega) rfl]
  refine e_pi rfl (p_19 hp) rfl (Or.inl rfl) ?_
  refine e_4 rfl rfl ?_
  refine e_0 rfl ?_
  refine e_pi rfl (p_19 hp) rfl (Or.inl rfl) ?_
  refine e_4 rfl rfl ?_
  refine e_0 rfl ?_
  refine e_pi rfl (p_19 hp) rfl (Or.inl rfl) ?_
  refine e_4 rfl rfl ?_
  refine e_0 rfl ?_
  refine e_pi rfl (p_19 hp) rfl (Or.inl rfl) ?_
  exact hk
theorem st_a {ν ξ μ1 : ps_M} (hp : isPs ν) (h4 : ps_s ξ 4 = (3, 0)) {e : Nat} {P : Prop} [Decidable P] (fl : ps_Ev (ps_XX L xs) e j_X3_follow [.ref 23, .ref 4] ν none ξ) (hsk : ps_Ev (ps_XX L xs) e j_X3_isSunk [.ref 4] ξ (some (.int (b2i P))) ξ) (hs : P) : ps_To (ps_XX L xs) (ps_Ev (ps_XX L xs) e) j_X2_start (ps_rt j_X2_start none ξ) (29, [(0, .ref 19), (1, .ref 4), (2, .int (nI N))], [], ν) := by
  have h23 : ps_s ν 23 = (3, 0) := (p_sh hp (b := 23) (by decide)).1
  have r23 : ps_r ν 21 0 = some 23 := p_r21 hp (i := 0) (by decide)
  refine e_4 rfl rfl ?_
  refine e_gr rfl (p_19 hp) rfl (p_r19_4 hp) ?_
  refine e_0 rfl ?_
  refine e_gaq (i := 0) (q := 23) rfl (p_21 hp) (by decide) (by decide) rfl (by omega) (by decide) r23 ?_
  refine e_4 rfl rfl ?_
  refine e_v1v rfl (by first | exact h23 | exact h4) rfl (by decide) rfl (Nat.le_of_ble_eq_true rfl) (fl) ?_
  refine e_4 rfl rfl ?_
  refine e_v0 rfl (by first | exact h23 | exact h4) rfl (by decide) rfl (Nat.le_of_ble_eq_true rfl) (hsk) ?_
  refine e_31b rfl (fun h1 => ?_) (fun h1 => ?_)
  · exact e_rv rfl (rfl)
  · exact absurd hs h1
theorem st_b {ν ξ μ1 : ps_M} (hp : isPs ν) (h4 : ps_s ξ 4 = (3, 0)) {e : Nat} {P : Prop} [Decidable P] (fl : ps_Ev (ps_XX L xs) e j_X3_follow [.ref 23, .ref 4] ν none ξ) (hsk : ps_Ev (ps_XX L xs) e j_X3_isSunk [.ref 4] ξ (some (.int (b2i P))) ξ) (hs : ¬ P) (y1 : ps_Ev (ps_XX L xs) e j_X2_explore [.ref 19, .int (nI 0)] ξ none μ1) : ps_To (ps_XX L xs) (ps_Ev (ps_XX L xs) e) j_X2_start (ps_rt j_X2_start none μ1) (29, [(0, .ref 19), (1, .ref 4), (2, .int (nI N))], [], ν) := by
  have h23 : ps_s ν 23 = (3, 0) := (p_sh hp (b := 23) (by decide)).1
  have r23 : ps_r ν 21 0 = some 23 := p_r21 hp (i := 0) (by decide)
  refine e_4 rfl rfl ?_
  refine e_gr rfl (p_19 hp) rfl (p_r19_4 hp) ?_
  refine e_0 rfl ?_
  refine e_gaq (i := 0) (q := 23) rfl (p_21 hp) (by decide) (by decide) rfl (by omega) (by decide) r23 ?_
  refine e_4 rfl rfl ?_
  refine e_v1v rfl (by first | exact h23 | exact h4) rfl (by decide) rfl (Nat.le_of_ble_eq_true rfl) (fl) ?_
  refine e_4 rfl rfl ?_
  refine e_v0 rfl (by first | exact h23 | exact h4) rfl (by decide) rfl (Nat.le_of_ble_eq_true rfl) (hsk) ?_
  refine e_31b rfl (fun h1 => ?_) (fun h1 => ?_)
  · exact absurd h1 hs
  · refine e_4 rfl rfl ?_
    refine e_0 rfl ?_
    refine e_s2v rfl rfl rfl (Nat.le_of_ble_eq_true rfl) (y1) ?_
    exact e_rv rfl (rfl)
theorem k_start (hp : isPs μ) (hN : N ≤ 4) {σ0 : Nat → Int32} (e0 : shG (ps_i μ) 4 = σ0) (hI : shI g σ0) (h0 : 0 < σ0 8) : ∃ μ', ps_Ev (ps_XX L xs) (D + 9 + 1) j_X2_start [.ref 19, .ref 4, .int (nI N)] μ none μ' ∧ SEf μ μ' ∧ ∃ ρ, SEs g N (fdA (kpF g N σ0) N (10 ^ N) 0 A0t) 0 0 ρ μ' := by
  have hS : SEs g N A0t 0 0 (fun _ => σ0) (SM (stM μ N) 23 σ0) := st_S hI.1.1
  have hf : SEf μ (SM (stM μ N) 23 σ0) := st_se.tr (SEf.SM (by omega))
  have hpν : isPs (stM μ N) := hp.se st_se
  have fl := ev_d (e := D + 9) (by omega) (st_fl (L := L) (xs := xs) (D := D + 8) hpν (st_4 e0) hI)
  have hsk := ev_d (e := D + 9) (by omega) (st_sk (L := L) (xs := xs) (D := D + 8) hpν (st_4 (N := N) e0))
  have h4 : ps_s (SM (stM μ N) 23 σ0) 4 = (3, 0) := (p_sh4 hpν.SM).1
  by_cases hs : sunkF σ0
  · rw [kp_none hs]
    exact ⟨_, ⟨Nat.le_of_ble_eq_true rfl, st_t1 (σ0 := σ0) hp hN (st_a (μ1 := μ) hpν h4 fl hsk hs)⟩, hf, _, hS⟩
  · obtain ⟨μ1, y1, y2, y3⟩ := st_ex (L := L) (xs := xs) (D := D) (hp.se hf) hN hI h0 hs hS
    exact ⟨μ1, ⟨Nat.le_of_ble_eq_true rfl, st_t1 (σ0 := σ0) hp hN (st_b hpν h4 fl hsk hs y1)⟩, hf.tr y2, _, y3⟩
theorem fd_last {x n : Nat} {A : accT} : fdA kp N (n + 1) x A = stepA kp N (fdA kp N n x A) (x + n) := by
  rw [fd_add n 1]; rfl
/-- what the search finds is what the numbers give -/
theorem fd_model (hkp : ∀ x, (kp x).1 = 0 ∨ (kp x).1 = 1 ∧ ¬ (kp x).2 0 < 0) (hN0 : 0 < N ∨ True) : ∀ n, n ≤ 10000 → (∃ c, c ≤ n ∧ (fdA kp N n 0 A0t).1 = nI c ∧ cntL kp n = lN c) ∧ (0 < N → (fdA kp N n 0 A0t).2.1 = frF kp N n) ∧ (fdA kp N n 0 A0t).2.2.1 = (if (bestF kp n).1 = -9 then -9 else (bestF kp n).2) ∧ (¬ (bestF kp n).1 = -9 → (bestF kp n).1 = nI (fdA kp N n 0 A0t).2.2.2 ∧ (fdA kp N n 0 A0t).2.2.2 < n ∧ ¬ (bestF kp n).2 < 0)
  | 0, _ => ⟨⟨0, Nat.le_refl _, rfl, rfl⟩, fun _ => rfl, rfl, fun h => absurd rfl h⟩
  | n + 1, hn => by
    obtain ⟨⟨c, hc, e1, e2⟩, e3, e4, e5⟩ := fd_model hkp hN0 n (by omega)
    rw [fd_last, Nat.zero_add]
    rcases hkp n with h | ⟨h, hw⟩
    · have es : stepA kp N (fdA kp N n 0 A0t) n = fdA kp N n 0 A0t := if_pos h
      have eb : bestF kp (n + 1) = bestF kp n := if_neg (fun z => z.1 h)
      rw [es, eb]
      refine ⟨⟨c, by omega, e1, ?_⟩, fun q => ?_, e4, fun q => ⟨(e5 q).1, by have := (e5 q).2.1; omega, (e5 q).2.2⟩⟩
      · show cntL kp n + (if (kp n).1 = 0 then 0 else 1) = lN c
        rw [if_pos h, e2]; exact (lN_add c 0)
      · show _ = frF kp N n ||| (if (kp n).1 = 0 then 0 else _)
        rw [if_pos h, or0]; exact e3 q
    · have h0 : ¬ (kp n).1 = 0 := by rw [h]; decide
      have es : stepA kp N (fdA kp N n 0 A0t) n = ((fdA kp N n 0 A0t).1 + 1, (if 0 < N then (fdA kp N n 0 A0t).2.1 ||| ((1 : Int32) <<< (nI (dig N n 0) &&& 31)) else (fdA kp N n 0 A0t).2.1), (if (fdA kp N n 0 A0t).2.2.1 = -9 ∨ ¬ (fdA kp N n 0 A0t).2.2.1 ≤ (kp n).2 0 then (kp n).2 0 else (fdA kp N n 0 A0t).2.2.1), (if (fdA kp N n 0 A0t).2.2.1 = -9 ∨ ¬ (fdA kp N n 0 A0t).2.2.1 ≤ (kp n).2 0 then n else (fdA kp N n 0 A0t).2.2.2)) := if_neg h0
      rw [es]
      have hcond : ((fdA kp N n 0 A0t).2.2.1 = -9 ∨ ¬ (fdA kp N n 0 A0t).2.2.1 ≤ (kp n).2 0) ↔ ((bestF kp n).1 = -9 ∨ ¬ (bestF kp n).2 ≤ (kp n).2 0) := by
        rw [e4]
        by_cases z : (bestF kp n).1 = -9
        · rw [if_pos z]; exact ⟨fun _ => Or.inl z, fun _ => Or.inl rfl⟩
        · rw [if_neg z]
          have hne : ¬ (bestF kp n).2 = -9 := fun q => (e5 z).2.2 (by rw [q]; decide)
          exact ⟨fun q => q.elim (fun w => absurd w hne) Or.inr, fun q => q.elim (fun w => absurd w z) Or.inr⟩
      refine ⟨⟨c + 1, by omega, ?_, ?_⟩, fun q => ?_, ?_, ?_⟩
      · show (fdA kp N n 0 A0t).1 + 1 = _
        rw [e1, nI_1]
      · show cntL kp n + (if (kp n).1 = 0 then 0 else 1) = lN (c + 1)
        rw [if_neg h0, e2]; exact lN_1 c
      · show (if 0 < N then _ else _) = frF kp N n ||| (if (kp n).1 = 0 then 0 else _)
        rw [if_pos q, if_neg h0, e3 q]
      · show (if _ then (kp n).2 0 else _) = _
        by_cases z : (bestF kp n).1 = -9 ∨ ¬ (bestF kp n).2 ≤ (kp n).2 0
        · have eb : bestF kp (n + 1) = (nI n, (kp n).2 0) := if_pos ⟨h0, z⟩
          rw [if_pos (hcond.mpr z), eb, if_neg (show ¬ (nI n, (kp n).2 0).1 = -9 from nI_n9 (by omega))]
        · have eb : bestF kp (n + 1) = bestF kp n := if_neg (fun q => z q.2)
          rw [if_neg (fun q => z (hcond.mp q)), eb, e4]
      · intro hb
        show (bestF kp (n + 1)).1 = nI (if _ then n else _) ∧ (if _ then n else _) < n + 1 ∧ _
        by_cases z : (bestF kp n).1 = -9 ∨ ¬ (bestF kp n).2 ≤ (kp n).2 0
        · have eb : bestF kp (n + 1) = (nI n, (kp n).2 0) := if_pos ⟨h0, z⟩
          rw [if_pos (hcond.mpr z), eb]
          exact ⟨rfl, by omega, hw⟩
        · have eb : bestF kp (n + 1) = bestF kp n := if_neg (fun q => z q.2)
          rw [if_neg (fun q => z (hcond.mp q)), eb]
          rw [eb] at hb
          exact ⟨(e5 hb).1, by have := (e5 hb).2.1; omega, (e5 hb).2.2⟩
end KSF
