-- ===== calls answered alike: lots =====
abbrev fldP (A B : ps_M) : Prop := ps_n A = ps_n B ∧ ps_w A = ps_w B ∧ ps_s A = ps_s B ∧ ps_r A = ps_r B ∧ ps_l A = ps_l B
theorem fldP.tr {A B C : ps_M} (h : fldP A B) (k : fldP B C) : fldP A C := ⟨h.1.trans k.1, h.2.1.trans k.2.1, h.2.2.1.trans k.2.2.1, h.2.2.2.1.trans k.2.2.2.1, h.2.2.2.2.trans k.2.2.2.2⟩
theorem lots_rel {g : Nat} : ∀ (n l : Nat) (A B : ps_M) (σ τ : Nat → Int32) (p : Nat), PR g (ps_i A 8) (ps_i B 84) σ τ → 0 < σ 8 → τ 5 = nI p → p ≤ 40 → ∃ A' B', lotK g n l A σ = SM A' 4 (lotE g n l σ).2 ∧ (lotsF 83 g n l B τ).2 = MS B' 83 0 (lotE g n l τ).2 ∧ fldP A' A ∧ fldP B' B ∧ (∀ a i, ¬ a = 8 → ps_i A' a i = ps_i A a i) ∧ (∀ a i, ¬ (a = 84 ∧ 18 ≤ i ∧ i < 458) → ps_i B' a i = ps_i B a i) ∧ PR g (ps_i A' 8) (ps_i B' 84) (lotE g n l σ).2 (lotE g n l τ).2 ∧ sameF (lotE g n l τ).2 τ ∧ (lotE g n l τ).2 5 = nI (p + (lotsF 83 g n l B τ).1) ∧ p + (lotsF 83 g n l B τ).1 ≤ 40
  | 0, l, A, B, σ, τ, p, h, h0, e5, hp => ⟨A, B, rfl, rfl, ⟨rfl, rfl, rfl, rfl, rfl⟩, ⟨rfl, rfl, rfl, rfl, rfl⟩, fun _ _ _ => rfl, fun _ _ _ => rfl, h, sameF.rf, e5, hp⟩
  | n + 1, l, A, B, σ, τ, p, h, h0, e5, hp => by
    have E := h.2.1
    by_cases z : overF σ
    · have zt := E.over.mp z
      have k1 : lotK g (n + 1) l A σ = SM A 4 σ := if_pos z
      have k2 : lotE g (n + 1) l σ = (0, σ) := if_pos z
      have k3 : lotE g (n + 1) l τ = (0, τ) := if_pos zt
      have k4 : lotsF 83 g (n + 1) l B τ = (0, MS B 83 0 τ) := if_pos zt
      rw [k1, k2, k3, k4]
      exact ⟨A, B, rfl, rfl, ⟨rfl, rfl, rfl, rfl, rfl⟩, ⟨rfl, rfl, rfl, rfl, rfl⟩, fun _ _ _ => rfl, fun _ _ _ => rfl, h, sameF.rf, e5, hp⟩
    · have zt : ¬ overF τ := fun q => z (E.over.mpr q)
      have e5s : σ 5 = nI p := (E.1 5 (by omega)).trans e5
      have ha := (draw_ok h0 z (lotN l)).2
      have ed : drawN σ (lotN l) = drawN τ (lotN l) := E.drawn _
      obtain ⟨h2, hp40⟩ := h.step z ha.2.2 e5 hp
      have cl : (σ 5).toNatClampNeg = p := by rw [e5s, nI_clamp (by omega)]
      have cl2 : (τ 5).toNatClampNeg = p := by rw [e5, nI_clamp (by omega)]
      have k1 : lotK g (n + 1) l A σ = lotK g n (lotN l) (VP A 8 p σ) (passF g σ (nI (drawN σ (lotN l)))) := by rw [← cl]; exact if_neg z
      have k2 : lotE g (n + 1) l σ = ((lotE g n (lotN l) (passF g σ (nI (drawN σ (lotN l))))).1 + 1, (lotE g n (lotN l) (passF g σ (nI (drawN σ (lotN l))))).2) := if_neg z
      have k3 : lotE g (n + 1) l τ = ((lotE g n (lotN l) (passF g τ (nI (drawN σ (lotN l))))).1 + 1, (lotE g n (lotN l) (passF g τ (nI (drawN σ (lotN l))))).2) := by rw [ed]; exact if_neg zt
      have k4 : lotsF 83 g (n + 1) l B τ = ((lotsF 83 g n (lotN l) (PA B 83 p τ 11) (passF g τ (nI (drawN σ (lotN l))))).1 + 1, (lotsF 83 g n (lotN l) (PA B 83 p τ 11) (passF g τ (nI (drawN σ (lotN l))))).2) := by rw [ed, ← cl2]; exact if_neg zt
      have h5 : passF g τ (nI (drawN σ (lotN l))) 5 = nI (p + 1) := by rw [passF_pt, if_pos rfl, e5, nI_1]
      obtain ⟨A', B', r1, r2, r3, r4, r5, r6, r7, r8, r9, r10⟩ := lots_rel n (lotN l) _ _ _ _ (p + 1) h2 (by rw [passF_8]; exact h0) h5 (by omega)
      rw [k1, k2, k3, k4]
      refine ⟨A', B', r1, r2, r3.tr ⟨rfl, rfl, rfl, rfl, rfl⟩, r4.tr ⟨rfl, rfl, rfl, rfl, rfl⟩, fun a i q => ?_, fun a i q => ?_, r7, ?_, ?_, ?_⟩
      · rw [r5 a i q, VP_at, if_neg (by omega)]
      · rw [r6 a i q, PA_at, if_neg (by omega)]
      · exact fun k w1 w2 => (r8 k w1 w2).trans (passF_lo w1 (by omega))
      · show (lotE g n (lotN l) (passF g τ (nI (drawN σ (lotN l))))).2 5 = nI (p + ((lotsF 83 g n (lotN l) (PA B 83 p τ 11) (passF g τ (nI (drawN σ (lotN l))))).1 + 1))
        rw [r9]; congr 1; omega
      · show p + ((lotsF 83 g n (lotN l) (PA B 83 p τ 11) (passF g τ (nI (drawN σ (lotN l))))).1 + 1) ≤ 40
        omega
theorem seed_c {s : Int32} : (¬ s < 1 ∧ lg_cmp s.toInt64 2147483647 < 0) ↔ (1 ≤ s ∧ s ≤ 2147483646) := by
  rw [lg_cmp_lt, Int64.lt_iff_toInt_lt, Int32.toInt_toInt64, Int32.lt_iff_toInt_lt, Int32.le_iff_toInt_le, Int32.le_iff_toInt_le]
  have e1 : (1 : Int32).toInt = 1 := rfl
  have e2 : (2147483646 : Int32).toInt = 2147483646 := rfl
  have e3 : (2147483647 : Int64).toInt = 2147483647 := rfl
  omega
theorem n20_c {s : Int32} : (¬ s < 1 ∧ ¬ 20 < s) ↔ (1 ≤ s ∧ s ≤ 20) := by rw [Int32.not_lt, Int32.not_lt]
section OPS10
variable {L : Nat} {xs : Nat → Int32} {e W : Nat} {μ : ps_M}
theorem op_lots (h : Inv W μ) (n seed : Int32) : opI (ps_XX L xs) e j_X7_lots j_X8_lots [.int n, .int seed] W μ := by
  obtain ⟨g, σ, τ, s1, s2, s3, s4, I1, I2, E, hK, hP⟩ := h.shd
  obtain ⟨p, hh, hph, hh40, e5, e4⟩ := I2.2.2.2.2.2
  have e5s : σ 5 = nI p := (E.1 5 (by omega)).trans e5
  have hn : 1 ≤ n ∧ n ≤ 20 → n = nI n.toNatClampNeg ∧ n.toNatClampNeg ≤ 20 := fun q => n_k (M := 20) (by omega) (Int32.le_trans (by decide) q.1) q.2
  have hl : 1 ≤ seed ∧ seed ≤ 2147483646 → seed = nI seed.toNatClampNeg ∧ seed.toNatClampNeg < 2147483647 := fun q => by
    obtain ⟨q1, q2⟩ := n_k (r := seed) (M := 2147483646) (by omega) (Int32.le_trans (by decide) q.1) q.2
    exact ⟨q1, by omega⟩
  generalize n.toNatClampNeg = N at hn
  generalize seed.toNatClampNeg = l at hl
  have c := kq_lots (L := L) (xs := xs) (d := e + 14) h.1 I1 (N := N) (l := l) (n := n) (seed := seed) (fun q => hn (n20_c.mp q)) (fun q => hl (seed_c.mp q))
  rw [s1] at c
  have m := fun (ν : ps_M) (hm : isMd ν 83) => mq_lots (L := L) (xs := xs) (d := e + 13) hm I2 (N := N) (l := l) (n := n) (seed := seed) hn hl
  by_cases b1 : ¬ ((1 ≤ n ∧ n ≤ 20) ∧ (1 ≤ seed ∧ seed ≤ 2147483646))
  · rw [if_pos (fun q => b1 ⟨n20_c.mp q.1, seed_c.mp q.2⟩)] at c
    have m := m μ h.2.1
    rw [if_pos b1, s2] at m
    exact ⟨_, _, _, c, m, (by first | exact h.2.1.1 | exact hm.1 | exact hi.2.1.1 | exact hi1.2.1.1 | exact (hi1.2.1.of fν.2.2.1 fν.2.2.2.1).1 | (rw [hs.2.2.1]; exact h.2.1.1)), h⟩
  rw [if_neg (fun q => b1 (fun z => q ⟨n20_c.mpr z.1, seed_c.mpr z.2⟩))] at c
  by_cases b2 : σ 8 = 0
  · rw [if_pos b2] at c
    have m := m μ h.2.1
    rw [if_neg b1, if_pos ((E.1 8 (by omega)).symm.trans b2), s2] at m
    exact ⟨_, _, _, c, m, (by first | exact h.2.1.1 | exact hm.1 | exact hi.2.1.1 | exact hi1.2.1.1 | exact (hi1.2.1.of fν.2.2.1 fν.2.2.2.1).1 | (rw [hs.2.2.1]; exact h.2.1.1)), h⟩
  rw [if_neg b2] at c
  have hg := I1.1.1
  have h0 : 0 < σ 8 := by
    rw [I1.1.2.1] at b2 ⊢
    rcases (show g = 0 ∨ 0 < g by omega) with rfl | q
    · exact absurd rfl b2
    · exact nI_lt (a := 0) q (by omega)
  obtain ⟨A1, -, r1, -, r3, -, r5, -⟩ := lots_rel N l μ μ σ τ p ⟨I2, E, hP⟩ h0 e5 (by omega)
  obtain ⟨ν, hν⟩ : ∃ ν, ν = lotK g N l μ σ := ⟨_, rfl⟩
  have hv : ∀ a i, ¬ (4 ≤ a ∧ a ≤ 8) → ps_i ν a i = ps_i μ a i := fun a i z => by rw [hν, r1, SM_off (by omega)]; exact r5 a i (by omega)
  have hA : fldP ν μ := by rw [hν, r1]; exact r3
  have hm : isMd ν 83 := h.2.1.of hA.2.2.1 hA.2.2.2.1
  have pr : PR g (ps_i μ 8) (ps_i ν 84) σ τ := ⟨I2, E, fun x hx => (hP x hx).c hg (fun _ _ _ => rfl) (fun i _ _ => hv 84 i (by omega))⟩
  obtain ⟨A', B', t1, t2, t3, t4, t5, t6, t7, t8, t9, t10⟩ := lots_rel N l μ ν σ τ p pr h0 e5 (by omega)
  have q1 : MS ν 83 0 τ = ν := MS_id s4 (fun a i h1 _ _ => hv a i (by omega))
  have m := m ν hm
  rw [if_neg b1, if_neg (fun q => b2 ((E.1 8 (by omega)).trans q)), q1, t2] at m
  have ev : (lotE g N l σ).2 5 - σ 5 = nI (lotsF 83 g N l ν τ).1 := by
    rw [(eqS.lots hg N l σ τ E I1.1.2.1).2.1 5 (by omega), t9, e5s, pk_sub (by omega)]
    congr 1; omega
  rw [ev, ← hν] at c
  have u4 : ∀ a i, 4 ≤ a ∧ a ≤ 8 → ps_i ν a i = ps_i (SM A' 4 (lotE g N l σ).2) a i := fun a i _ => by rw [hν, t1]
  refine ⟨_, _, _, c, m, (by first | exact h.2.1.1 | exact hm.1 | exact hi.2.1.1 | exact hi1.2.1.1 | exact (hi1.2.1.of fν.2.2.1 fν.2.2.2.1).1 | (rw [hs.2.2.1]; exact h.2.1.1)), inv_sm (A := A') (σ' := (lotE g N l σ).2) h hK (t4.tr hA) (fun a i z1 z2 => ?_) (fun a i z => ?_) (by rw [← s4]; exact t8) t7.1 t7.2.1 (fun x hx => (t7.2.2 x hx).c hg (fun i _ _ => ?_) (fun _ _ _ => rfl))⟩
  · rw [t6 a i z2]; exact hv a i z1
  · rw [t6 a i (by omega)]; exact u4 a i (by omega)
  · rw [t6 8 i (by omega), u4 8 i (by omega), SM_off (by omega)]
end OPS10
