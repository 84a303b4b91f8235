-- ===== calls answered alike: lasts, pairs, chances =====
theorem sas_c {g : Nat} {σ τ : Nat → Int32} (hg : g ≤ 6) {p q : Nat → Int32} {S x : Nat} {kd : Int32} (hpq : ∀ j, j < 2 * S → p j = q j) (E : eqS g σ τ) (h8 : σ 8 = nI g) : (sasF g p S σ x kd).1 = (sasF g q S τ x kd).1 := eqS.so hg S 0 _ _ (fun j hj => hpq j (by omega)) (E.up (9 + x) kd) (by rw [pk_un (by omega)]; exact h8)
theorem lk_c {g : Nat} {σ τ : Nat → Int32} (hg : g ≤ 6) {p q : Nat → Int32} {S y : Nat} (hpq : ∀ j, j < 2 * S → p j = q j) (E : eqS g σ τ) (h8 : σ 8 = nI g) : (lkF g p S σ y).1 = (lkF g q S τ y).1 := eqS.so hg S 0 _ _ (fun j hj => hpq j (by omega)) (E.up 1 (nI y)) (by rw [pk_un (by omega)]; exact h8)
theorem bits1_c {p q : Nat → Prop} [DecidablePred p] [DecidablePred q] (h : ∀ i, p i ↔ q i) : ∀ n, bits1 p n = bits1 q n
  | 0 => rfl
  | n + 1 => by
    show (if p (n + 1) then bits1 p n ||| ((1 : Int32) <<< (nI (n + 1) &&& 31)) else bits1 p n) = (if q (n + 1) then bits1 q n ||| ((1 : Int32) <<< (nI (n + 1) &&& 31)) else bits1 q n)
    rw [bits1_c h n]
    by_cases hp : p (n + 1)
    · rw [if_pos hp, if_pos ((h _).mp hp)]
    · rw [if_neg hp, if_neg (fun z => hp ((h _).mpr z))]
section OPS6
variable {L : Nat} {xs : Nat → Int32} {e W : Nat} {μ : ps_M}
theorem op_lasts (h : Inv W μ) (a : Int32) : opI (ps_XX L xs) e j_X7_lasts j_X8_lasts [.int a] W μ := by
  obtain ⟨g, σ, τ, s1, s2, s3, s4, I1, I2, E⟩ := h.sh
  have c := kq_lasts (L := L) (xs := xs) (d := e + 13) (τ := shG (ps_i μ) 10) h.1 s3.symm I1 a
  rw [SM_self μ 10] at c
  have m := fun (ν : ps_M) (hm : isMd ν 83) (hv : hvP μ ν) => mq_lasts (L := L) (xs := xs) (d := e + 13) hm (md_v s4 (fun a i h1 _ _ => hv a i h1)) (by rw [← md_v s4 (fun a i h1 _ _ => hv a i h1)]; exact same_self ν) I2 a
  by_cases b1 : ¬ actP a
  · rw [if_pos b1] at c
    have m := m μ h.2.1 (fun _ _ _ => rfl)
    rw [MS_self μ 83 1832, ← E.1 8 (by omega), if_pos b1] at m
    exact ⟨_, _, _, c, m, (by first | exact h.2.1.1 | exact hm.1 | exact hi.2.1.1 | exact hi1.2.1.1 | exact (hi1.2.1.of fν.2.2.1 fν.2.2.2.1).1 | (rw [hs.2.2.1]; exact h.2.1.1)), h⟩
  rw [if_neg b1] at c
  by_cases b2 : σ 8 = 0
  · rw [if_pos b2] at c
    have m := m μ h.2.1 (fun _ _ _ => rfl)
    rw [MS_self μ 83 1832, ← E.1 8 (by omega), if_neg b1, if_pos b2] at m
    exact ⟨_, _, _, c, m, (by first | exact h.2.1.1 | exact hm.1 | exact hi.2.1.1 | exact hi1.2.1.1 | exact (hi1.2.1.of fν.2.2.1 fν.2.2.2.1).1 | (rw [hs.2.2.1]; exact h.2.1.1)), h⟩
  rw [if_neg b2] at c
  have E2 := eqS.again I1.1.1 a 40 σ τ E I1.1.2.1
  by_cases b3 : sunkF σ
  · rw [if_pos b3] at c
    have m := m μ h.2.1 (fun _ _ _ => rfl)
    rw [MS_self μ 83 1832, ← E.1 8 (by omega), if_neg b1, if_neg b2, if_pos (E.sunk.mp b3)] at m
    exact ⟨_, _, _, c, m, (by first | exact h.2.1.1 | exact hm.1 | exact hi.2.1.1 | exact hi1.2.1.1 | exact (hi1.2.1.of fν.2.2.1 fν.2.2.2.1).1 | (rw [hs.2.2.1]; exact h.2.1.1)), h.sc (MS_scr (by rw [← s4]; exact again_same _ _ sameF.rf))⟩
  rw [if_neg b3] at c
  obtain ⟨ν, hν, hm, hv, hi⟩ := quiet_nu h (againF g a 40 σ)
  rw [← hν] at c
  have m := m ν hm hv
  by_cases b4 : sunkF (againF g a 40 σ)
  · rw [if_pos b4] at c
    rw [MS_self ν 83 1832, ← E.1 8 (by omega), if_neg b1, if_neg b2, if_neg (fun q => b3 (E.sunk.mpr q)), if_pos (E2.sunk.mp b4), ← E2.1 5 (by omega), ← E.1 5 (by omega)] at m
    exact ⟨_, _, _, c, m, (by first | exact h.2.1.1 | exact hm.1 | exact hi.2.1.1 | exact hi1.2.1.1 | exact (hi1.2.1.of fν.2.2.1 fν.2.2.2.1).1 | (rw [hs.2.2.1]; exact h.2.1.1)), hi _ (by rw [← s4]; exact again_same _ _ sameF.rf)⟩
  · rw [if_neg b4] at c
    rw [MS_self ν 83 1832, ← E.1 8 (by omega), if_neg b1, if_neg b2, if_neg (fun q => b3 (E.sunk.mpr q)), if_neg (fun q => b4 (E2.sunk.mpr q)), ← E2.1 5 (by omega), ← E.1 5 (by omega)] at m
    exact ⟨_, _, _, c, m, (by first | exact h.2.1.1 | exact hm.1 | exact hi.2.1.1 | exact hi1.2.1.1 | exact (hi1.2.1.of fν.2.2.1 fν.2.2.2.1).1 | (rw [hs.2.2.1]; exact h.2.1.1)), hi _ (by rw [← s4]; exact again_same _ _ sameF.rf)⟩
theorem op_feigns (h : Inv W μ) (r : Int32) : opI (ps_XX L xs) e j_X7_feigns j_X8_feigns [.int r] W μ := by
  obtain ⟨g, σ, τ, s1, s2, s3, s4, I1, I2, E⟩ := h.sh
  obtain ⟨k, hk, hr⟩ := row_any r
  have hz := h.rw hk
  have hsz := hz.2.1
  rw [← hz.1] at hsz
  have hN := fun h0 => sz_S (by omega) hsz h0
  obtain ⟨N, eN⟩ : ∃ N, (ps_i μ (45 + 2 * k) 0).toNatClampNeg = N := ⟨_, rfl⟩
  rw [eN] at hN
  have ez : ∀ ν, hvP μ ν → ps_i ν (83 + 3) k = ps_i μ (45 + 2 * k) 0 := fun ν hv => by rw [hv _ _ (by omega)]; exact hz.1.symm
  have hpq : ∀ ν, hvP μ ν → ∀ j, j < N → ps_i μ (45 + 2 * k + 1) j = (fun x => ps_i ν (83 + 4) (40 * k + x)) j := fun ν hv j hj => by
    show _ = ps_i ν (83 + 4) (40 * k + j)
    rw [hv _ _ (by omega)]; exact hz.2.2 j (by rw [← hz.1, eN]; exact hj)
  have c := kq_feigns (L := L) (xs := xs) (d := e + 12) (τ := shG (ps_i μ) 10) h.1 s3.symm I1 hr hN
  rw [SM_self μ 10] at c
  have m := fun (ν : ps_M) (hm : isMd ν 83) (hv : hvP μ ν) => mq_feigns (L := L) (xs := xs) (d := e + 12) hm (md_v s4 (fun a i h1 _ _ => hv a i h1)) (by rw [← md_v s4 (fun a i h1 _ _ => hv a i h1)]; exact same_self ν) I2 hr (N := N) (fun h0 => by rw [ez ν hv] at h0 ⊢; exact hN h0)
  by_cases b1 : ¬ rowP r
  · rw [if_pos b1] at c
    have m := m μ h.2.1 (fun _ _ _ => rfl)
    rw [MS_self μ 83 1832, ez μ (fun _ _ _ => rfl), ← E.1 8 (by omega), if_pos b1] at m
    exact ⟨_, _, _, c, m, (by first | exact h.2.1.1 | exact hm.1 | exact hi.2.1.1 | exact hi1.2.1.1 | exact (hi1.2.1.of fν.2.2.1 fν.2.2.2.1).1 | (rw [hs.2.2.1]; exact h.2.1.1)), h⟩
  rw [if_neg b1] at c
  by_cases b2 : σ 8 = 0
  · rw [if_pos b2] at c
    have m := m μ h.2.1 (fun _ _ _ => rfl)
    rw [MS_self μ 83 1832, ez μ (fun _ _ _ => rfl), ← E.1 8 (by omega), if_neg b1, if_pos b2] at m
    exact ⟨_, _, _, c, m, (by first | exact h.2.1.1 | exact hm.1 | exact hi.2.1.1 | exact hi1.2.1.1 | exact (hi1.2.1.of fν.2.2.1 fν.2.2.2.1).1 | (rw [hs.2.2.1]; exact h.2.1.1)), h⟩
  rw [if_neg b2] at c
  by_cases b3 : ¬ 0 ≤ ps_i μ (45 + 2 * k) 0
  · rw [if_pos b3] at c
    obtain ⟨ν, hν, hm, hv, hi⟩ := fc_nu h (f := 1) (by omega)
    rw [← hν] at c
    have m := m ν hm hv
    rw [MS_self ν 83 1832, ez ν hv, ← E.1 8 (by omega), if_neg b1, if_neg b2, if_pos b3] at m
    exact ⟨_, _, _, c, m, (by first | exact h.2.1.1 | exact hm.1 | exact hi.2.1.1 | exact hi1.2.1.1 | exact (hi1.2.1.of fν.2.2.1 fν.2.2.2.1).1 | (rw [hs.2.2.1]; exact h.2.1.1)), hi⟩
  rw [if_neg b3] at c
  by_cases b4 : ¬ N % 2 = 0
  · rw [if_pos b4] at c
    obtain ⟨ν, hν, hm, hv, hi⟩ := fc_nu h (f := 5) (by omega)
    rw [← hν] at c
    have m := m ν hm hv
    rw [MS_self ν 83 1832, ez ν hv, ← E.1 8 (by omega), if_neg b1, if_neg b2, if_neg b3, if_pos b4] at m
    exact ⟨_, _, _, c, m, (by first | exact h.2.1.1 | exact hm.1 | exact hi.2.1.1 | exact hi1.2.1.1 | exact (hi1.2.1.of fν.2.2.1 fν.2.2.2.1).1 | (rw [hs.2.2.1]; exact h.2.1.1)), hi⟩
  rw [if_neg b4] at c
  by_cases b5 : (allF g (ps_i μ (45 + 2 * k + 1)) (N / 2) 0 σ).1 = 0
  · rw [if_pos b5] at c
    obtain ⟨ν, hν, hm, hv, hi⟩ := fault_nu h (allF g (ps_i μ (45 + 2 * k + 1)) (N / 2) 0 σ).2 (f := 3) (by omega)
    rw [← hν] at c
    have m := m ν hm hv
    rw [MS_self ν 83 1832, ez ν hv, ← E.1 8 (by omega), if_neg b1, if_neg b2, if_neg b3, if_neg b4, if_pos (by rw [← eqS.all I1.1.1 (N / 2) 0 σ τ (fun j hj => hpq ν hv j (by omega)) E I1.1.2.1]; exact b5)] at m
    exact ⟨_, _, _, c, m, (by first | exact h.2.1.1 | exact hm.1 | exact hi.2.1.1 | exact hi1.2.1.1 | exact (hi1.2.1.of fν.2.2.1 fν.2.2.2.1).1 | (rw [hs.2.2.1]; exact h.2.1.1)), hi _ (by rw [← s4]; exact all_same _ _ _ sameF.rf)⟩
  rw [if_neg b5] at c
  obtain ⟨ν, hν, hm, hv, hi⟩ := told_nu h (soF g (ps_i μ (45 + 2 * k + 1)) (N / 2) 0 σ).2 (soF g (ps_i μ (45 + 2 * k + 1)) (N / 2) 0 σ).1
  rw [← hν] at c
  have m := m ν hm hv
  have e1 := eqS.so I1.1.1 (N / 2) 0 σ τ (fun j hj => hpq ν hv j (by omega)) E I1.1.2.1
  have e3 := bitsN_c (p := fun y => (sasF g (ps_i μ (45 + 2 * k + 1)) (N / 2) σ y 3).1 = 1) (q := fun y => (sasF g (fun x => ps_i ν (83 + 4) (40 * k + x)) (N / 2) τ y 3).1 = 1) g (fun y _ => by rw [sas_c I1.1.1 (fun j hj => hpq ν hv j (by omega)) E I1.1.2.1])
  rw [MS_self ν 83 1832, ez ν hv, ← E.1 8 (by omega), if_neg b1, if_neg b2, if_neg b3, if_neg b4, if_neg (by rw [← eqS.all I1.1.1 (N / 2) 0 σ τ (fun j hj => hpq ν hv j (by omega)) E I1.1.2.1]; exact b5), ← e1, ← e3] at m
  exact ⟨_, _, _, c, m, (by first | exact h.2.1.1 | exact hm.1 | exact hi.2.1.1 | exact hi1.2.1.1 | exact (hi1.2.1.of fν.2.2.1 fν.2.2.2.1).1 | (rw [hs.2.2.1]; exact h.2.1.1)), hi _ (by rw [← s4]; exact so_same _ _ _ sameF.rf)⟩
theorem op_kinds (h : Inv W μ) (ii r : Int32) : opI (ps_XX L xs) e j_X7_kinds j_X8_kinds [.int ii, .int r] W μ := by
  obtain ⟨g, σ, τ, s1, s2, s3, s4, I1, I2, E⟩ := h.sh
  obtain ⟨k, hk, hr⟩ := row_any r
  have hz := h.rw hk
  have hsz := hz.2.1
  rw [← hz.1] at hsz
  have hN := fun h0 => sz_S (by omega) hsz h0
  obtain ⟨N, eN⟩ : ∃ N, (ps_i μ (45 + 2 * k) 0).toNatClampNeg = N := ⟨_, rfl⟩
  rw [eN] at hN
  have ez : ∀ ν, hvP μ ν → ps_i ν (83 + 3) k = ps_i μ (45 + 2 * k) 0 := fun ν hv => by rw [hv _ _ (by omega)]; exact hz.1.symm
  have hpq : ∀ ν, hvP μ ν → ∀ j, j < N → ps_i μ (45 + 2 * k + 1) j = (fun x => ps_i ν (83 + 4) (40 * k + x)) j := fun ν hv j hj => by
    show _ = ps_i ν (83 + 4) (40 * k + j)
    rw [hv _ _ (by omega)]; exact hz.2.2 j (by rw [← hz.1, eN]; exact hj)
  have c := kq_kinds (L := L) (xs := xs) (d := e + 12) (τ := shG (ps_i μ) 10) h.1 s3.symm I1 (has_kF I1.1 (i := ii)) hr hN
  rw [SM_self μ 10] at c
  have m := fun (ν : ps_M) (hm : isMd ν 83) (hv : hvP μ ν) => mq_kinds (L := L) (xs := xs) (d := e + 12) hm (md_v s4 (fun a i h1 _ _ => hv a i h1)) (by rw [← md_v s4 (fun a i h1 _ _ => hv a i h1)]; exact same_self ν) I2 (has_kF I2.1 (i := ii)) hr (N := N) (fun h0 => by rw [ez ν hv] at h0 ⊢; exact hN h0)
  by_cases b1 : ¬ (hasF σ ii ∧ rowP r)
  · rw [if_pos b1] at c
    have m := m μ h.2.1 (fun _ _ _ => rfl)
    rw [MS_self μ 83 1832, ez μ (fun _ _ _ => rfl), if_pos (fun q => b1 ⟨(E.has ii).mpr q.1, q.2⟩)] at m
    exact ⟨_, _, _, c, m, (by first | exact h.2.1.1 | exact hm.1 | exact hi.2.1.1 | exact hi1.2.1.1 | exact (hi1.2.1.of fν.2.2.1 fν.2.2.2.1).1 | (rw [hs.2.2.1]; exact h.2.1.1)), h⟩
  rw [if_neg b1] at c
  by_cases b2 : ¬ 0 ≤ ps_i μ (45 + 2 * k) 0
  · rw [if_pos b2] at c
    obtain ⟨ν, hν, hm, hv, hi⟩ := fc_nu h (f := 1) (by omega)
    rw [← hν] at c
    have m := m ν hm hv
    rw [MS_self ν 83 1832, ez ν hv, if_neg (fun q => b1 (fun z => q ⟨(E.has ii).mp z.1, z.2⟩)), if_pos b2] at m
    exact ⟨_, _, _, c, m, (by first | exact h.2.1.1 | exact hm.1 | exact hi.2.1.1 | exact hi1.2.1.1 | exact (hi1.2.1.of fν.2.2.1 fν.2.2.2.1).1 | (rw [hs.2.2.1]; exact h.2.1.1)), hi⟩
  rw [if_neg b2] at c
  by_cases b3 : ¬ N % 2 = 0
  · rw [if_pos b3] at c
    obtain ⟨ν, hν, hm, hv, hi⟩ := fc_nu h (f := 5) (by omega)
    rw [← hν] at c
    have m := m ν hm hv
    rw [MS_self ν 83 1832, ez ν hv, if_neg (fun q => b1 (fun z => q ⟨(E.has ii).mp z.1, z.2⟩)), if_neg b2, if_pos b3] at m
    exact ⟨_, _, _, c, m, (by first | exact h.2.1.1 | exact hm.1 | exact hi.2.1.1 | exact hi1.2.1.1 | exact (hi1.2.1.of fν.2.2.1 fν.2.2.2.1).1 | (rw [hs.2.2.1]; exact h.2.1.1)), hi⟩
  rw [if_neg b3] at c
  by_cases b4 : (allF g (ps_i μ (45 + 2 * k + 1)) (N / 2) 0 σ).1 = 0
  · rw [if_pos b4] at c
    obtain ⟨ν, hν, hm, hv, hi⟩ := fault_nu h (allF g (ps_i μ (45 + 2 * k + 1)) (N / 2) 0 σ).2 (f := 3) (by omega)
    rw [← hν] at c
    have m := m ν hm hv
    rw [MS_self ν 83 1832, ez ν hv, if_neg (fun q => b1 (fun z => q ⟨(E.has ii).mp z.1, z.2⟩)), if_neg b2, if_neg b3, if_pos (by rw [← eqS.all I1.1.1 (N / 2) 0 σ τ (fun j hj => hpq ν hv j (by omega)) E I1.1.2.1]; exact b4)] at m
    exact ⟨_, _, _, c, m, (by first | exact h.2.1.1 | exact hm.1 | exact hi.2.1.1 | exact hi1.2.1.1 | exact (hi1.2.1.of fν.2.2.1 fν.2.2.2.1).1 | (rw [hs.2.2.1]; exact h.2.1.1)), hi _ (by rw [← s4]; exact all_same _ _ _ sameF.rf)⟩
  rw [if_neg b4] at c
  obtain ⟨ν, hν, hm, hv, hi⟩ := quiet_nu h (lastS (fun y => (soF g (ps_i μ (45 + 2 * k + 1)) (N / 2) 0 (upd σ (9 + ii.toNatClampNeg) (nI y))).2) (allF g (ps_i μ (45 + 2 * k + 1)) (N / 2) 0 σ).2 6)
  rw [← hν] at c
  have m := m ν hm hv
  have e3 := bitsN_c (p := fun y => (sasF g (ps_i μ (45 + 2 * k + 1)) (N / 2) σ ii.toNatClampNeg (nI y)).1 = 1) (q := fun y => (sasF g (fun x => ps_i ν (83 + 4) (40 * k + x)) (N / 2) τ ii.toNatClampNeg (nI y)).1 = 1) 6 (fun y _ => by rw [sas_c I1.1.1 (fun j hj => hpq ν hv j (by omega)) E I1.1.2.1])
  rw [MS_self ν 83 1832, ez ν hv, if_neg (fun q => b1 (fun z => q ⟨(E.has ii).mp z.1, z.2⟩)), if_neg b2, if_neg b3, if_neg (by rw [← eqS.all I1.1.1 (N / 2) 0 σ τ (fun j hj => hpq ν hv j (by omega)) E I1.1.2.1]; exact b4), ← e3] at m
  exact ⟨_, _, _, c, m, (by first | exact h.2.1.1 | exact hm.1 | exact hi.2.1.1 | exact hi1.2.1.1 | exact (hi1.2.1.of fν.2.2.1 fν.2.2.2.1).1 | (rw [hs.2.2.1]; exact h.2.1.1)), hi _ (by rw [← s4]; exact last_s (all_same _ _ _ sameF.rf) (fun n => sas_same) 6)⟩
theorem op_leaks (h : Inv W μ) (r : Int32) : opI (ps_XX L xs) e j_X7_leaks j_X8_leaks [.int r] W μ := by
  obtain ⟨g, σ, τ, s1, s2, s3, s4, I1, I2, E⟩ := h.sh
  obtain ⟨k, hk, hr⟩ := row_any r
  have hz := h.rw hk
  have hsz := hz.2.1
  rw [← hz.1] at hsz
  have hN := fun h0 => sz_S (by omega) hsz h0
  obtain ⟨N, eN⟩ : ∃ N, (ps_i μ (45 + 2 * k) 0).toNatClampNeg = N := ⟨_, rfl⟩
  rw [eN] at hN
  have ez : ∀ ν, hvP μ ν → ps_i ν (83 + 3) k = ps_i μ (45 + 2 * k) 0 := fun ν hv => by rw [hv _ _ (by omega)]; exact hz.1.symm
  have hpq : ∀ ν, hvP μ ν → ∀ j, j < N → ps_i μ (45 + 2 * k + 1) j = (fun x => ps_i ν (83 + 4) (40 * k + x)) j := fun ν hv j hj => by
    show _ = ps_i ν (83 + 4) (40 * k + j)
    rw [hv _ _ (by omega)]; exact hz.2.2 j (by rw [← hz.1, eN]; exact hj)
  have c := kq_leaks (L := L) (xs := xs) (d := e + 13) (τ := shG (ps_i μ) 10) h.1 s3.symm I1 hr hN
  rw [SM_self μ 10] at c
  have m := fun (ν : ps_M) (hm : isMd ν 83) (hv : hvP μ ν) => mq_leaks (L := L) (xs := xs) (d := e + 13) hm (md_v s4 (fun a i h1 _ _ => hv a i h1)) (by rw [← md_v s4 (fun a i h1 _ _ => hv a i h1)]; exact same_self ν) I2 hr (N := N) (fun h0 => by rw [ez ν hv] at h0 ⊢; exact hN h0)
  by_cases b1 : ¬ rowP r
  · rw [if_pos b1] at c
    have m := m μ h.2.1 (fun _ _ _ => rfl)
    rw [MS_self μ 83 1832, ez μ (fun _ _ _ => rfl), ← E.1 8 (by omega), if_pos b1] at m
    exact ⟨_, _, _, c, m, (by first | exact h.2.1.1 | exact hm.1 | exact hi.2.1.1 | exact hi1.2.1.1 | exact (hi1.2.1.of fν.2.2.1 fν.2.2.2.1).1 | (rw [hs.2.2.1]; exact h.2.1.1)), h⟩
  rw [if_neg b1] at c
  by_cases b2 : σ 8 = 0
  · rw [if_pos b2] at c
    have m := m μ h.2.1 (fun _ _ _ => rfl)
    rw [MS_self μ 83 1832, ez μ (fun _ _ _ => rfl), ← E.1 8 (by omega), if_neg b1, if_pos b2] at m
    exact ⟨_, _, _, c, m, (by first | exact h.2.1.1 | exact hm.1 | exact hi.2.1.1 | exact hi1.2.1.1 | exact (hi1.2.1.of fν.2.2.1 fν.2.2.2.1).1 | (rw [hs.2.2.1]; exact h.2.1.1)), h⟩
  rw [if_neg b2] at c
  by_cases b3 : ¬ 0 ≤ ps_i μ (45 + 2 * k) 0
  · rw [if_pos b3] at c
    obtain ⟨ν, hν, hm, hv, hi⟩ := fc_nu h (f := 1) (by omega)
    rw [← hν] at c
    have m := m ν hm hv
    rw [MS_self ν 83 1832, ez ν hv, ← E.1 8 (by omega), if_neg b1, if_neg b2, if_pos b3] at m
    exact ⟨_, _, _, c, m, (by first | exact h.2.1.1 | exact hm.1 | exact hi.2.1.1 | exact hi1.2.1.1 | exact (hi1.2.1.of fν.2.2.1 fν.2.2.2.1).1 | (rw [hs.2.2.1]; exact h.2.1.1)), hi⟩
  rw [if_neg b3] at c
  by_cases b4 : ¬ N % 2 = 0
  · rw [if_pos b4] at c
    obtain ⟨ν, hν, hm, hv, hi⟩ := fc_nu h (f := 5) (by omega)
    rw [← hν] at c
    have m := m ν hm hv
    rw [MS_self ν 83 1832, ez ν hv, ← E.1 8 (by omega), if_neg b1, if_neg b2, if_neg b3, if_pos b4] at m
    exact ⟨_, _, _, c, m, (by first | exact h.2.1.1 | exact hm.1 | exact hi.2.1.1 | exact hi1.2.1.1 | exact (hi1.2.1.of fν.2.2.1 fν.2.2.2.1).1 | (rw [hs.2.2.1]; exact h.2.1.1)), hi⟩
  rw [if_neg b4] at c
  by_cases b5 : (allF g (ps_i μ (45 + 2 * k + 1)) (N / 2) 0 σ).1 = 0
  · rw [if_pos b5] at c
    obtain ⟨ν, hν, hm, hv, hi⟩ := fault_nu h (allF g (ps_i μ (45 + 2 * k + 1)) (N / 2) 0 σ).2 (f := 3) (by omega)
    rw [← hν] at c
    have m := m ν hm hv
    rw [MS_self ν 83 1832, ez ν hv, ← E.1 8 (by omega), if_neg b1, if_neg b2, if_neg b3, if_neg b4, if_pos (by rw [← eqS.all I1.1.1 (N / 2) 0 σ τ (fun j hj => hpq ν hv j (by omega)) E I1.1.2.1]; exact b5)] at m
    exact ⟨_, _, _, c, m, (by first | exact h.2.1.1 | exact hm.1 | exact hi.2.1.1 | exact hi1.2.1.1 | exact (hi1.2.1.of fν.2.2.1 fν.2.2.2.1).1 | (rw [hs.2.2.1]; exact h.2.1.1)), hi _ (by rw [← s4]; exact all_same _ _ _ sameF.rf)⟩
  rw [if_neg b5] at c
  obtain ⟨ν, hν, hm, hv, hi⟩ := quiet_nu h (lastS (fun y => (lkF g (ps_i μ (45 + 2 * k + 1)) (N / 2) σ (y + 1)).2) (allF g (ps_i μ (45 + 2 * k + 1)) (N / 2) 0 σ).2 9)
  rw [← hν] at c
  have m := m ν hm hv
  have e3 := bits1_c (p := fun y => (lkF g (ps_i μ (45 + 2 * k + 1)) (N / 2) σ y).1 = 1) (q := fun y => (lkF g (fun x => ps_i ν (83 + 4) (40 * k + x)) (N / 2) τ y).1 = 1) (fun y => by rw [lk_c I1.1.1 (fun j hj => hpq ν hv j (by omega)) E I1.1.2.1]) 9
  rw [MS_self ν 83 1832, ez ν hv, ← E.1 8 (by omega), if_neg b1, if_neg b2, if_neg b3, if_neg b4, if_neg (by rw [← eqS.all I1.1.1 (N / 2) 0 σ τ (fun j hj => hpq ν hv j (by omega)) E I1.1.2.1]; exact b5), ← e3] at m
  exact ⟨_, _, _, c, m, (by first | exact h.2.1.1 | exact hm.1 | exact hi.2.1.1 | exact hi1.2.1.1 | exact (hi1.2.1.of fν.2.2.1 fν.2.2.2.1).1 | (rw [hs.2.2.1]; exact h.2.1.1)), hi _ (by rw [← s4]; exact (by have q := lastL_s (g := g) (p := (fun x => ps_i ν (83 + 4) (40 * k + x))) (S := N / 2) (all_same (g := g) (p := (fun x => ps_i ν (83 + 4) (40 * k + x))) (N / 2) 0 τ sameF.rf) (τ 1) 9; rw [upd_self] at q; exact q))⟩
theorem op_odds (h : Inv W μ) (a n q : Int32) : opI (ps_XX L xs) e j_X7_odds j_X8_odds [.int a, .int n, .int q] W μ := by
  obtain ⟨g, σ, τ, s1, s2, s3, s4, I1, I2, E⟩ := h.sh
  have c := kq_odds (L := L) (xs := xs) (d := e + 12) (τ := shG (ps_i μ) 10) h.1 s3.symm I1 a (n := n) (q := q) (N := n.toNatClampNeg) (p := q.toNatClampNeg) (fun z => n_k (M := 8) (by omega) z.1 z.2) (fun z => n_k (M := 12) (by omega) z.1 z.2)
  rw [SM_self μ 10] at c
  have m := fun (ν : ps_M) (hm : isMd ν 83) (hv : hvP μ ν) => mq_odds (L := L) (xs := xs) (d := e + 12) hm (md_v s4 (fun a i h1 _ _ => hv a i h1)) (by rw [← md_v s4 (fun a i h1 _ _ => hv a i h1)]; exact same_self ν) I2 a (n := n) (q := q) (N := n.toNatClampNeg) (p := q.toNatClampNeg) (fun z => n_k (M := 8) (by omega) z.1 z.2) (fun z => n_k (M := 12) (by omega) z.1 z.2)
  by_cases b1 : ¬ chanceP a n q
  · rw [if_pos b1] at c
    have m := m μ h.2.1 (fun _ _ _ => rfl)
    rw [MS_self μ 83 1832, ← E.1 8 (by omega), if_pos b1] at m
    exact ⟨_, _, _, c, m, (by first | exact h.2.1.1 | exact hm.1 | exact hi.2.1.1 | exact hi1.2.1.1 | exact (hi1.2.1.of fν.2.2.1 fν.2.2.2.1).1 | (rw [hs.2.2.1]; exact h.2.1.1)), h⟩
  rw [if_neg b1] at c
  by_cases b2 : σ 8 = 0
  · rw [if_pos b2] at c
    have m := m μ h.2.1 (fun _ _ _ => rfl)
    rw [MS_self μ 83 1832, ← E.1 8 (by omega), if_neg b1, if_pos b2] at m
    exact ⟨_, _, _, c, m, (by first | exact h.2.1.1 | exact hm.1 | exact hi.2.1.1 | exact hi1.2.1.1 | exact (hi1.2.1.of fν.2.2.1 fν.2.2.2.1).1 | (rw [hs.2.2.1]; exact h.2.1.1)), h⟩
  rw [if_neg b2] at c
  obtain ⟨ν, hν, hm, hv, hi⟩ := longs_nu h (lastC g a n.toNatClampNeg σ (shG (ps_i μ) 10) (2 ^ n.toNatClampNeg)) (lN (abF g a q.toNatClampNeg n.toNatClampNeg 0 σ (2 ^ n.toNatClampNeg) / Nat.gcd (abF g a q.toNatClampNeg n.toNatClampNeg 0 σ (2 ^ n.toNatClampNeg)) (12 ^ n.toNatClampNeg))) (lN (12 ^ n.toNatClampNeg / Nat.gcd (abF g a q.toNatClampNeg n.toNatClampNeg 0 σ (2 ^ n.toNatClampNeg)) (12 ^ n.toNatClampNeg)))
  rw [← hν] at c
  have m := m ν hm hv
  rw [MS_self ν 83 1832, ← E.1 8 (by omega), if_neg b1, if_neg b2, ← eqS.ab I1.1.1 a q.toNatClampNeg n.toNatClampNeg 0 E I1.1.2.1] at m
  exact ⟨_, _, _, c, m, (by first | exact h.2.1.1 | exact hm.1 | exact hi.2.1.1 | exact hi1.2.1.1 | exact (hi1.2.1.of fν.2.2.1 fν.2.2.2.1).1 | (rw [hs.2.2.1]; exact h.2.1.1)), hi _ (by rw [← s4]; exact last_c (by rw [← md_v s4 (fun a i h1 _ _ => hv a i h1)]; exact same_self ν) _)⟩
theorem op_mid (h : Inv W μ) (a n q : Int32) : opI (ps_XX L xs) e j_X7_mid j_X8_mid [.int a, .int n, .int q] W μ := by
  obtain ⟨g, σ, τ, s1, s2, s3, s4, I1, I2, E⟩ := h.sh
  have c := kq_mid (L := L) (xs := xs) (d := e + 12) (τ := shG (ps_i μ) 10) h.1 s3.symm I1 a (n := n) (q := q) (N := n.toNatClampNeg) (p := q.toNatClampNeg) (fun z => n_k (M := 8) (by omega) z.1 z.2) (fun z => n_k (M := 12) (by omega) z.1 z.2)
  rw [SM_self μ 10] at c
  have m := fun (ν : ps_M) (hm : isMd ν 83) (hv : hvP μ ν) => mq_mid (L := L) (xs := xs) (d := e + 12) hm (md_v s4 (fun a i h1 _ _ => hv a i h1)) (by rw [← md_v s4 (fun a i h1 _ _ => hv a i h1)]; exact same_self ν) I2 a (n := n) (q := q) (N := n.toNatClampNeg) (p := q.toNatClampNeg) (fun z => n_k (M := 8) (by omega) z.1 z.2) (fun z => n_k (M := 12) (by omega) z.1 z.2)
  by_cases b1 : ¬ chanceP a n q
  · rw [if_pos b1] at c
    have m := m μ h.2.1 (fun _ _ _ => rfl)
    rw [MS_self μ 83 1832, ← E.1 8 (by omega), if_pos b1] at m
    exact ⟨_, _, _, c, m, (by first | exact h.2.1.1 | exact hm.1 | exact hi.2.1.1 | exact hi1.2.1.1 | exact (hi1.2.1.of fν.2.2.1 fν.2.2.2.1).1 | (rw [hs.2.2.1]; exact h.2.1.1)), h⟩
  rw [if_neg b1] at c
  by_cases b2 : σ 8 = 0
  · rw [if_pos b2] at c
    have m := m μ h.2.1 (fun _ _ _ => rfl)
    rw [MS_self μ 83 1832, ← E.1 8 (by omega), if_neg b1, if_pos b2] at m
    exact ⟨_, _, _, c, m, (by first | exact h.2.1.1 | exact hm.1 | exact hi.2.1.1 | exact hi1.2.1.1 | exact (hi1.2.1.of fν.2.2.1 fν.2.2.2.1).1 | (rw [hs.2.2.1]; exact h.2.1.1)), h⟩
  rw [if_neg b2] at c
  obtain ⟨ν, hν, hm, hv, hi⟩ := longs_nu h (lastC g a n.toNatClampNeg σ (shG (ps_i μ) 10) (2 ^ n.toNatClampNeg)) (lN (abF g a q.toNatClampNeg n.toNatClampNeg 1 σ (2 ^ n.toNatClampNeg) / Nat.gcd (abF g a q.toNatClampNeg n.toNatClampNeg 1 σ (2 ^ n.toNatClampNeg)) (12 ^ n.toNatClampNeg))) (lN (12 ^ n.toNatClampNeg / Nat.gcd (abF g a q.toNatClampNeg n.toNatClampNeg 1 σ (2 ^ n.toNatClampNeg)) (12 ^ n.toNatClampNeg)))
  rw [← hν] at c
  have m := m ν hm hv
  rw [MS_self ν 83 1832, ← E.1 8 (by omega), if_neg b1, if_neg b2, ← eqS.ab I1.1.1 a q.toNatClampNeg n.toNatClampNeg 1 E I1.1.2.1] at m
  exact ⟨_, _, _, c, m, (by first | exact h.2.1.1 | exact hm.1 | exact hi.2.1.1 | exact hi1.2.1.1 | exact (hi1.2.1.of fν.2.2.1 fν.2.2.2.1).1 | (rw [hs.2.2.1]; exact h.2.1.1)), hi _ (by rw [← s4]; exact last_c (by rw [← md_v s4 (fun a i h1 _ _ => hv a i h1)]; exact same_self ν) _)⟩
end OPS6
