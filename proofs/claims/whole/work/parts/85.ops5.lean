-- ===== calls answered alike: runs =====
theorem md_v {μ ν : ps_M} {B : Nat} {τ : Nat → Int32} (hτ : τ = mdG (ps_i μ) 83 B) (h : ∀ a i, 83 ≤ a → ¬ (a = 83 ∧ (i = 9 ∨ i = 12)) → ¬ a = 90 → ps_i ν a i = ps_i μ a i) : mdG (ps_i ν) 83 B = τ := by
  rw [hτ]
  exact mdG_cells (fun i hi => h _ _ (by omega) (by omega) (by omega)) (fun i _ _ => h _ _ (by omega) (by omega) (by omega)) (fun i => h _ _ (by omega) (by omega) (by omega))
theorem plan_same {g : Nat} {p : Nat → Int32} {σ0 : Nat → Int32} : ∀ n i σ, sameF σ σ0 → sameF (planF g p n i σ).2 σ0
  | 0, _, _, h => h
  | n + 1, i, σ, h => by
    unfold planF
    split
    · exact h
    · split
      · exact h.pass
      · exact plan_same n _ _ h.pass
theorem light_same {g : Nat} {a : Int32} {σ : Nat → Int32} : ∀ n i τ, 0 < n → sameF (lightF g a σ n i τ).2 σ
  | 0, _, _, h => absurd h (by omega)
  | 1, i, τ, _ => by
    unfold lightF
    split
    · exact again_same _ _ lit_same
    · exact again_same _ _ lit_same
  | n + 2, i, τ, _ => by
    unfold lightF
    split
    · exact light_same (n + 1) _ _ (by omega)
    · exact again_same _ _ lit_same
theorem acts_c {p q : Nat → Int32} : ∀ n, (∀ i, i < n → p i = q i) → actsB p n = actsB q n
  | 0, _ => rfl
  | n + 1, h => by
    show (actsB p n && decide (actP (p n))) = (actsB q n && decide (actP (q n)))
    rw [acts_c n (fun i hi => h i (by omega)), h n (by omega)]
theorem row_any (r : Int32) : ∃ k, k < 6 ∧ (rowP r → r = nI k ∧ k < 6) := by
  by_cases q : rowP r
  · exact ⟨_, (row_k q).2, row_k⟩
  · exact ⟨0, by omega, fun z => absurd z q⟩
section OPS5
variable {L : Nat} {xs : Nat → Int32} {e W : Nat} {μ : ps_M}
theorem ScE.fm {μ ν : ps_M} (h : ScE μ ν) (f : Nat) : ScE (FM μ 83 f) (FM ν 83 f) := by
  refine ⟨h.1, h.2.1, h.2.2.1, h.2.2.2.1, h.2.2.2.2.1, fun a i z => ?_⟩
  have h9 : ps_i ν (83 + 7) f = ps_i μ (83 + 7) f := h.2.2.2.2.2 _ _ (by unfold scr; omega)
  unfold FM
  by_cases q : a = 83 + 7 ∧ i = f
  · rw [q.1, q.2, sI_at, sI_at, h9]
  · by_cases q2 : a = 83 ∧ i = 12
    · rw [q2.1, q2.2, sI_off (by omega), sI_at, sI_off (by omega), sI_at]
    · rw [sI_off (by omega), sI_off (by omega), sI_off (by omega), sI_off (by omega)]; exact h.2.2.2.2.2 _ _ z
abbrev hvP (μ ν : ps_M) : Prop := ∀ a i, 83 ≤ a → ps_i ν a i = ps_i μ a i
theorem told_nu (h : Inv W μ) (X : Nat → Int32) (V : Int32) : ∃ ν, ν = ps_sI (SM μ 10 X) 0 11 V ∧ isMd ν 83 ∧ hvP μ ν ∧ ∀ Y, sameF Y (mdG (ps_i μ) 83 0) → Inv W (MS (ps_sI ν 83 9 V) 83 1832 Y) := by
  have hi : Inv W (SM μ 10 X) := h.sc ScE.SM10
  have hv : hvP μ (ps_sI (SM μ 10 X) 0 11 V) := fun a i ha => by rw [sI_off (by omega)]; exact SM_off (by omega)
  refine ⟨_, rfl, hi.2.1.of rfl rfl, hv, fun Y hY => ?_⟩
  refine (inv_told hi (x := V) (y := V) rfl).sc (MS_scr ?_)
  rw [md_v (μ := μ) rfl (fun a i h1 h2 _ => by rw [sI_off (by omega)]; exact hv a i h1)]
  exact hY
theorem quiet_nu (h : Inv W μ) (X : Nat → Int32) : ∃ ν, ν = SM μ 10 X ∧ isMd ν 83 ∧ hvP μ ν ∧ ∀ Y, sameF Y (mdG (ps_i μ) 83 0) → Inv W (MS ν 83 1832 Y) := by
  have hi : Inv W (SM μ 10 X) := h.sc ScE.SM10
  have hv : hvP μ (SM μ 10 X) := fun a i ha => SM_off (by omega)
  refine ⟨_, rfl, hi.2.1, hv, fun Y hY => hi.sc (MS_scr ?_)⟩
  rw [md_v (μ := μ) rfl (fun a i h1 _ _ => hv a i h1)]
  exact hY
theorem fc_nu (h : Inv W μ) {f : Nat} (hf : f < 6) : ∃ ν, ν = FC μ f ∧ isMd ν 83 ∧ hvP μ ν ∧ Inv W (FM ν 83 f) := ⟨_, rfl, h.2.1.of rfl rfl, fun a i ha => FC_hi (by omega), FCM h hf⟩
theorem fault_nu (h : Inv W μ) (X : Nat → Int32) {f : Nat} (hf : f < 6) : ∃ ν, ν = FC (SM μ 10 X) f ∧ isMd ν 83 ∧ hvP μ ν ∧ ∀ Y, sameF Y (mdG (ps_i μ) 83 0) → Inv W (FM (MS ν 83 1832 Y) 83 f) := by
  have hi : Inv W (SM μ 10 X) := h.sc ScE.SM10
  have hv : hvP μ (FC (SM μ 10 X) f) := fun a i ha => by rw [FC_hi (by omega)]; exact SM_off (by omega)
  refine ⟨_, rfl, hi.2.1.of rfl rfl, hv, fun Y hY => (FCM hi hf).sc (ScE.fm (MS_scr ?_) f)⟩
  rw [md_v (μ := μ) rfl (fun a i h1 _ _ => hv a i h1)]
  exact hY
theorem sLl {μ : ps_M} {a i b j : Nat} {v : Int64} : ps_l (ps_sL μ a i v) b j = if b = a ∧ j = i then v else ps_l μ b j := rfl
theorem sLi {μ : ps_M} {a i : Nat} {v : Int64} : ps_i (ps_sL μ a i v) = ps_i μ := rfl
theorem inv_longs (h : Inv W μ) (u v : Int64) : Inv W (ps_sL (ps_sL (ps_sL (ps_sL μ 0 12 u) 0 13 v) 83 10 u) 83 11 v) := by
  obtain ⟨g, hd⟩ := h.2.2.2.2.1
  refine Inv.mk (g := g) h rfl rfl rfl rfl ?_ ?_ ?_
  · rw [sLi, sLi, sLi, sLi]; exact hd
  · rw [sLl, if_neg (by omega), sLl, if_neg (by omega), sLl, if_neg (by omega), sLl, if_pos ⟨rfl, rfl⟩, sLl, if_neg (by omega), sLl, if_pos ⟨rfl, rfl⟩]
  · rw [sLl, if_neg (by omega), sLl, if_neg (by omega), sLl, if_pos ⟨rfl, rfl⟩, sLl, if_pos ⟨rfl, rfl⟩]
theorem longs_xi {ξ : ps_M} (hi : Inv W ξ) (hx : hvP μ ξ) (u v : Int64) : ∃ ν, ν = ps_sL (ps_sL ξ 0 12 u) 0 13 v ∧ isMd ν 83 ∧ hvP μ ν ∧ ∀ Y, sameF Y (mdG (ps_i μ) 83 0) → Inv W (MS (ps_sL (ps_sL ν 83 10 u) 83 11 v) 83 1832 Y) := by
  have hj := inv_longs hi u v
  obtain ⟨ν, hν⟩ : ∃ ν, ν = ps_sL (ps_sL ξ 0 12 u) 0 13 v := ⟨_, rfl⟩
  have e1 : ps_i ν = ps_i ξ := by rw [hν, sLi, sLi]
  have hm : isMd ν 83 := by rw [hν]; exact hi.2.1.of rfl rfl
  rw [← hν] at hj
  refine ⟨ν, hν, hm, fun a i ha => by rw [e1]; exact hx a i ha, fun Y hY => ?_⟩
  refine hj.sc (MS_scr ?_)
  rw [sLi, sLi, e1, md_v (μ := μ) rfl (fun a i h1 _ _ => hx a i h1)]
  exact hY
theorem longs_nu (h : Inv W μ) (X : Nat → Int32) (u v : Int64) : ∃ ν, ν = ps_sL (ps_sL (SM μ 10 X) 0 12 u) 0 13 v ∧ isMd ν 83 ∧ hvP μ ν ∧ ∀ Y, sameF Y (mdG (ps_i μ) 83 0) → Inv W (MS (ps_sL (ps_sL ν 83 10 u) 83 11 v) 83 1832 Y) := longs_xi (h.sc ScE.SM10) (fun a i ha => SM_off (by omega)) u v
theorem op_run (h : Inv W μ) (r : Int32) : opI (ps_XX L xs) e j_X7_run j_X8_run [.int r] W μ := by
  obtain ⟨g, σ, τ, s1, s2, s3, s4, I1, I2, E⟩ := h.sh
  obtain ⟨k, hk, hr⟩ := row_any r
  have hz := h.rw hk
  have hsz := hz.2.1
  rw [← hz.1] at hsz
  have hN := fun h0 => sz_S (by omega) hsz h0
  obtain ⟨N, eN⟩ : ∃ N, (ps_i μ (45 + 2 * k) 0).toNatClampNeg = N := ⟨_, rfl⟩
  rw [eN] at hN
  have ez : ∀ ν, hvP μ ν → ps_i ν (83 + 3) k = ps_i μ (45 + 2 * k) 0 := fun ν hv => by rw [hv _ _ (by omega)]; exact hz.1.symm
  have hpq : ∀ ν, hvP μ ν → ∀ j, j < N → ps_i μ (45 + 2 * k + 1) j = (fun x => ps_i ν (83 + 4) (40 * k + x)) j := fun ν hv j hj => by
    show _ = ps_i ν (83 + 4) (40 * k + j)
    rw [hv _ _ (by omega)]; exact hz.2.2 j (by rw [← hz.1, eN]; exact hj)
  have c := kq_run (L := L) (xs := xs) (d := e + 14) (τ := shG (ps_i μ) 10) h.1 s3.symm I1 hr hN
  rw [SM_self μ 10] at c
  have m := fun (ν : ps_M) (hm : isMd ν 83) (hv : hvP μ ν) => mq_run (L := L) (xs := xs) (d := e + 14) hm (md_v s4 (fun a i h1 _ _ => hv a i h1)) (by rw [← md_v s4 (fun a i h1 _ _ => hv a i h1)]; exact same_self ν) I2 hr (S := N) (fun h0 => by rw [ez ν hv] at h0 ⊢; exact hN h0)
  by_cases b1 : ¬ rowP r
  · rw [if_pos b1] at c
    have m := m μ h.2.1 (fun _ _ _ => rfl)
    rw [MS_self μ 83 1832, ez μ (fun _ _ _ => rfl), ← E.1 8 (by omega), if_pos b1] at m
    exact ⟨_, _, _, c, m, (by first | exact h.2.1.1 | exact hm.1 | exact hi.2.1.1 | exact hi1.2.1.1 | exact (hi1.2.1.of fν.2.2.1 fν.2.2.2.1).1 | (rw [hs.2.2.1]; exact h.2.1.1)), h⟩
  rw [if_neg b1] at c
  by_cases b2 : σ 8 = 0
  · rw [if_pos b2] at c
    have m := m μ h.2.1 (fun _ _ _ => rfl)
    rw [MS_self μ 83 1832, ez μ (fun _ _ _ => rfl), ← E.1 8 (by omega), if_neg b1, if_pos b2] at m
    exact ⟨_, _, _, c, m, (by first | exact h.2.1.1 | exact hm.1 | exact hi.2.1.1 | exact hi1.2.1.1 | exact (hi1.2.1.of fν.2.2.1 fν.2.2.2.1).1 | (rw [hs.2.2.1]; exact h.2.1.1)), h⟩
  rw [if_neg b2] at c
  by_cases b3 : ¬ 0 ≤ ps_i μ (45 + 2 * k) 0
  · rw [if_pos b3] at c
    obtain ⟨ν, hν, hm, hv, hi⟩ := fc_nu h (f := 1) (by omega)
    rw [← hν] at c
    have m := m ν hm hv
    rw [MS_self ν 83 1832, ez ν hv, ← E.1 8 (by omega), if_neg b1, if_neg b2, if_pos b3] at m
    exact ⟨_, _, _, c, m, (by first | exact h.2.1.1 | exact hm.1 | exact hi.2.1.1 | exact hi1.2.1.1 | exact (hi1.2.1.of fν.2.2.1 fν.2.2.2.1).1 | (rw [hs.2.2.1]; exact h.2.1.1)), hi⟩
  rw [if_neg b3] at c
  by_cases b4 : ¬ actsB (ps_i μ (45 + 2 * k + 1)) N = true
  · rw [if_pos b4] at c
    obtain ⟨ν, hν, hm, hv, hi⟩ := fc_nu h (f := 3) (by omega)
    rw [← hν] at c
    have m := m ν hm hv
    rw [MS_self ν 83 1832, ez ν hv, ← E.1 8 (by omega), if_neg b1, if_neg b2, if_neg b3, if_pos (by rw [← acts_c N (hpq ν hv)]; exact b4)] at m
    exact ⟨_, _, _, c, m, (by first | exact h.2.1.1 | exact hm.1 | exact hi.2.1.1 | exact hi1.2.1.1 | exact (hi1.2.1.of fν.2.2.1 fν.2.2.2.1).1 | (rw [hs.2.2.1]; exact h.2.1.1)), hi⟩
  rw [if_neg b4] at c
  obtain ⟨ν, hν, hm, hv, hi⟩ := told_nu h (planF g (ps_i μ (45 + 2 * k + 1)) N 0 σ).2 ((planF g (ps_i μ (45 + 2 * k + 1)) N 0 σ).2 0)
  rw [← hν] at c
  have m := m ν hm hv
  obtain ⟨e1, e2⟩ := eqS.plan I1.1.1 N 0 σ τ (fun j hj => hpq ν hv j (by omega)) E I1.1.2.1
  rw [MS_self ν 83 1832, ez ν hv, ← E.1 8 (by omega), if_neg b1, if_neg b2, if_neg b3, if_neg (by rw [← acts_c N (hpq ν hv)]; exact b4), ← e1, ← e2.1 0 (by omega)] at m
  exact ⟨_, _, _, c, m, (by first | exact h.2.1.1 | exact hm.1 | exact hi.2.1.1 | exact hi1.2.1.1 | exact (hi1.2.1.of fν.2.2.1 fν.2.2.2.1).1 | (rw [hs.2.2.1]; exact h.2.1.1)), hi _ (by rw [← s4]; exact plan_same _ _ _ sameF.rf)⟩
theorem op_rota (h : Inv W μ) (r : Int32) : opI (ps_XX L xs) e j_X7_rota j_X8_rota [.int r] W μ := by
  obtain ⟨g, σ, τ, s1, s2, s3, s4, I1, I2, E⟩ := h.sh
  obtain ⟨k, hk, hr⟩ := row_any r
  have hz := h.rw hk
  have hsz := hz.2.1
  rw [← hz.1] at hsz
  have hN := fun h0 => sz_S (by omega) hsz h0
  obtain ⟨N, eN⟩ : ∃ N, (ps_i μ (45 + 2 * k) 0).toNatClampNeg = N := ⟨_, rfl⟩
  rw [eN] at hN
  have ez : ∀ ν, hvP μ ν → ps_i ν (83 + 3) k = ps_i μ (45 + 2 * k) 0 := fun ν hv => by rw [hv _ _ (by omega)]; exact hz.1.symm
  have hpq : ∀ ν, hvP μ ν → ∀ j, j < N → ps_i μ (45 + 2 * k + 1) j = (fun x => ps_i ν (83 + 4) (40 * k + x)) j := fun ν hv j hj => by
    show _ = ps_i ν (83 + 4) (40 * k + j)
    rw [hv _ _ (by omega)]; exact hz.2.2 j (by rw [← hz.1, eN]; exact hj)
  have c := kq_rota (L := L) (xs := xs) (d := e + 13) (τ := shG (ps_i μ) 10) h.1 s3.symm I1 hr hN
  rw [SM_self μ 10] at c
  have m := fun (ν : ps_M) (hm : isMd ν 83) (hv : hvP μ ν) => mq_rota (L := L) (xs := xs) (d := e + 13) hm (md_v s4 (fun a i h1 _ _ => hv a i h1)) (by rw [← md_v s4 (fun a i h1 _ _ => hv a i h1)]; exact same_self ν) I2 hr (S := N) (fun h0 => by rw [ez ν hv] at h0 ⊢; exact hN h0)
  by_cases b1 : ¬ rowP r
  · rw [if_pos b1] at c
    have m := m μ h.2.1 (fun _ _ _ => rfl)
    rw [MS_self μ 83 1832, ez μ (fun _ _ _ => rfl), ← E.1 8 (by omega), if_pos b1] at m
    exact ⟨_, _, _, c, m, (by first | exact h.2.1.1 | exact hm.1 | exact hi.2.1.1 | exact hi1.2.1.1 | exact (hi1.2.1.of fν.2.2.1 fν.2.2.2.1).1 | (rw [hs.2.2.1]; exact h.2.1.1)), h⟩
  rw [if_neg b1] at c
  by_cases b2 : σ 8 = 0
  · rw [if_pos b2] at c
    have m := m μ h.2.1 (fun _ _ _ => rfl)
    rw [MS_self μ 83 1832, ez μ (fun _ _ _ => rfl), ← E.1 8 (by omega), if_neg b1, if_pos b2] at m
    exact ⟨_, _, _, c, m, (by first | exact h.2.1.1 | exact hm.1 | exact hi.2.1.1 | exact hi1.2.1.1 | exact (hi1.2.1.of fν.2.2.1 fν.2.2.2.1).1 | (rw [hs.2.2.1]; exact h.2.1.1)), h⟩
  rw [if_neg b2] at c
  by_cases b3 : ¬ 0 ≤ ps_i μ (45 + 2 * k) 0
  · rw [if_pos b3] at c
    obtain ⟨ν, hν, hm, hv, hi⟩ := fc_nu h (f := 1) (by omega)
    rw [← hν] at c
    have m := m ν hm hv
    rw [MS_self ν 83 1832, ez ν hv, ← E.1 8 (by omega), if_neg b1, if_neg b2, if_pos b3] at m
    exact ⟨_, _, _, c, m, (by first | exact h.2.1.1 | exact hm.1 | exact hi.2.1.1 | exact hi1.2.1.1 | exact (hi1.2.1.of fν.2.2.1 fν.2.2.2.1).1 | (rw [hs.2.2.1]; exact h.2.1.1)), hi⟩
  rw [if_neg b3] at c
  by_cases b4 : ps_i μ (45 + 2 * k) 0 = 0 ∨ ¬ ps_i μ (45 + 2 * k) 0 ≤ 12
  · rw [if_pos b4] at c
    obtain ⟨ν, hν, hm, hv, hi⟩ := fc_nu h (f := 5) (by omega)
    rw [← hν] at c
    have m := m ν hm hv
    rw [MS_self ν 83 1832, ez ν hv, ← E.1 8 (by omega), if_neg b1, if_neg b2, if_neg b3, if_pos b4] at m
    exact ⟨_, _, _, c, m, (by first | exact h.2.1.1 | exact hm.1 | exact hi.2.1.1 | exact hi1.2.1.1 | exact (hi1.2.1.of fν.2.2.1 fν.2.2.2.1).1 | (rw [hs.2.2.1]; exact h.2.1.1)), hi⟩
  rw [if_neg b4] at c
  by_cases b5 : ¬ actsB (ps_i μ (45 + 2 * k + 1)) N = true
  · rw [if_pos b5] at c
    obtain ⟨ν, hν, hm, hv, hi⟩ := fc_nu h (f := 3) (by omega)
    rw [← hν] at c
    have m := m ν hm hv
    rw [MS_self ν 83 1832, ez ν hv, ← E.1 8 (by omega), if_neg b1, if_neg b2, if_neg b3, if_neg b4, if_pos (by rw [← acts_c N (hpq ν hv)]; exact b5)] at m
    exact ⟨_, _, _, c, m, (by first | exact h.2.1.1 | exact hm.1 | exact hi.2.1.1 | exact hi1.2.1.1 | exact (hi1.2.1.of fν.2.2.1 fν.2.2.2.1).1 | (rw [hs.2.2.1]; exact h.2.1.1)), hi⟩
  rw [if_neg b5] at c
  obtain ⟨ν, hν, hm, hv, hi⟩ := told_nu h (rotaF g (ps_i μ (45 + 2 * k + 1)) N 40 0 σ) ((rotaF g (ps_i μ (45 + 2 * k + 1)) N 40 0 σ) 5 - σ 5)
  rw [← hν] at c
  have m := m ν hm hv
  have hN0 : 0 < N := by
    have h0 := hN (Classical.not_not.mp b3)
    rcases (show N = 0 ∨ 0 < N by omega) with rfl | q
    · exact absurd (Or.inl h0.1) b4
    · exact q
  have e2 := eqS.rota I1.1.1 hN0 (fun j hj => hpq ν hv j hj) 40 0 σ τ hN0 E I1.1.2.1
  have e3 : (if sunkF (rotaF g (ps_i μ (45 + 2 * k + 1)) N 40 0 σ) then -9 else rotaF g (ps_i μ (45 + 2 * k + 1)) N 40 0 σ 0) = (if sunkF (rotaF g (fun x => ps_i ν (83 + 4) (40 * k + x)) N 40 0 τ) then -9 else rotaF g (fun x => ps_i ν (83 + 4) (40 * k + x)) N 40 0 τ 0) := by
    by_cases w : sunkF (rotaF g (ps_i μ (45 + 2 * k + 1)) N 40 0 σ)
    · rw [if_pos w, if_pos (e2.sunk.mp w)]
    · rw [if_neg w, if_neg (fun y => w (e2.sunk.mpr y)), e2.1 0 (by omega)]
  rw [MS_self ν 83 1832, ez ν hv, ← E.1 8 (by omega), if_neg b1, if_neg b2, if_neg b3, if_neg b4, if_neg (by rw [← acts_c N (hpq ν hv)]; exact b5), ← e3, ← e2.1 5 (by omega), ← E.1 5 (by omega)] at m
  exact ⟨_, _, _, c, m, (by first | exact h.2.1.1 | exact hm.1 | exact hi.2.1.1 | exact hi1.2.1.1 | exact (hi1.2.1.of fν.2.2.1 fν.2.2.2.1).1 | (rw [hs.2.2.1]; exact h.2.1.1)), hi _ (by rw [← s4]; exact rota_same _ _ _ sameF.rf)⟩
theorem op_inches (h : Inv W μ) (a b n : Int32) : opI (ps_XX L xs) e j_X7_inches j_X8_inches [.int a, .int b, .int n] W μ := by
  obtain ⟨g, σ, τ, s1, s2, s3, s4, I1, I2, E⟩ := h.sh
  have c := kq_inches (L := L) (xs := xs) (d := e + 12) (τ := shG (ps_i μ) 10) h.1 s3.symm I1 a b (N := n.toNatClampNeg) (fun q => n_k (M := 20) (by omega) (Int32.not_lt.mp q.1) q.2)
  rw [SM_self μ 10] at c
  have m := fun (ν : ps_M) (hm : isMd ν 83) (hv : hvP μ ν) => mq_inches (L := L) (xs := xs) (d := e + 12) hm (md_v s4 (fun a i h1 _ _ => hv a i h1)) (by rw [← md_v s4 (fun a i h1 _ _ => hv a i h1)]; exact same_self ν) I2 a b (N := n.toNatClampNeg) (fun q => n_k (M := 20) (by omega) q.1 q.2)
  by_cases b1 : ¬ (actP a ∧ actP b ∧ ¬ n < 0 ∧ n ≤ 20)
  · rw [if_pos b1] at c
    have m := m μ h.2.1 (fun _ _ _ => rfl)
    rw [MS_self μ 83 1832, ← E.1 8 (by omega), if_pos (by rw [← Int32.not_lt]; exact b1)] at m
    exact ⟨_, _, _, c, m, (by first | exact h.2.1.1 | exact hm.1 | exact hi.2.1.1 | exact hi1.2.1.1 | exact (hi1.2.1.of fν.2.2.1 fν.2.2.2.1).1 | (rw [hs.2.2.1]; exact h.2.1.1)), h⟩
  rw [if_neg b1] at c
  by_cases b2 : σ 8 = 0
  · rw [if_pos b2] at c
    have m := m μ h.2.1 (fun _ _ _ => rfl)
    rw [MS_self μ 83 1832, ← E.1 8 (by omega), if_neg (by rw [← Int32.not_lt]; exact b1), if_pos b2] at m
    exact ⟨_, _, _, c, m, (by first | exact h.2.1.1 | exact hm.1 | exact hi.2.1.1 | exact hi1.2.1.1 | exact (hi1.2.1.of fν.2.2.1 fν.2.2.2.1).1 | (rw [hs.2.2.1]; exact h.2.1.1)), h⟩
  rw [if_neg b2] at c
  obtain ⟨ν, hν, hm, hv, hi⟩ := told_nu h (againF g a n.toNatClampNeg σ) (againF g b n.toNatClampNeg σ 0 - againF g a n.toNatClampNeg σ 0)
  rw [← hν] at c
  have m := m ν hm hv
  rw [MS_self ν 83 1832, ← E.1 8 (by omega), if_neg (by rw [← Int32.not_lt]; exact b1), if_neg b2, ← (eqS.again I1.1.1 a _ σ τ E I1.1.2.1).1 0 (by omega), ← (eqS.again I1.1.1 b _ σ τ E I1.1.2.1).1 0 (by omega)] at m
  exact ⟨_, _, _, c, m, (by first | exact h.2.1.1 | exact hm.1 | exact hi.2.1.1 | exact hi1.2.1.1 | exact (hi1.2.1.of fν.2.2.1 fν.2.2.2.1).1 | (rw [hs.2.2.1]; exact h.2.1.1)), hi _ (by rw [← s4]; exact again_same _ _ sameF.rf)⟩
theorem op_lighten (h : Inv W μ) (a : Int32) : opI (ps_XX L xs) e j_X7_lighten j_X8_lighten [.int a] W μ := by
  obtain ⟨g, σ, τ, s1, s2, s3, s4, I1, I2, E⟩ := h.sh
  obtain ⟨cc, hc, ec⟩ := I1.2.2.2.1
  have c := kq_lighten (L := L) (xs := xs) (d := e + 13) (τ := shG (ps_i μ) 10) h.1 s3.symm I1 a hc ec
  rw [SM_self μ 10] at c
  have m := fun (ν : ps_M) (hm : isMd ν 83) (hv : hvP μ ν) => mq_lighten (L := L) (xs := xs) (d := e + 13) hm (md_v s4 (fun a i h1 _ _ => hv a i h1)) (by rw [← md_v s4 (fun a i h1 _ _ => hv a i h1)]; exact same_self ν) I2 a hc (E.1 2 (by omega) ▸ ec)
  by_cases b1 : ¬ actP a
  · rw [if_pos b1] at c
    have m := m μ h.2.1 (fun _ _ _ => rfl)
    rw [MS_self μ 83 1832, ← E.1 8 (by omega), if_pos b1] at m
    exact ⟨_, _, _, c, m, (by first | exact h.2.1.1 | exact hm.1 | exact hi.2.1.1 | exact hi1.2.1.1 | exact (hi1.2.1.of fν.2.2.1 fν.2.2.2.1).1 | (rw [hs.2.2.1]; exact h.2.1.1)), h⟩
  rw [if_neg b1] at c
  by_cases b2 : σ 8 = 0
  · rw [if_pos b2] at c
    have m := m μ h.2.1 (fun _ _ _ => rfl)
    rw [MS_self μ 83 1832, ← E.1 8 (by omega), if_neg b1, if_pos b2] at m
    exact ⟨_, _, _, c, m, (by first | exact h.2.1.1 | exact hm.1 | exact hi.2.1.1 | exact hi1.2.1.1 | exact (hi1.2.1.of fν.2.2.1 fν.2.2.2.1).1 | (rw [hs.2.2.1]; exact h.2.1.1)), h⟩
  rw [if_neg b2] at c
  obtain ⟨ν, hν, hm, hv, hi⟩ := quiet_nu h (lightF g a σ (cc + 1) 0 (shG (ps_i μ) 10)).2
  rw [← hν] at c
  have m := m ν hm hv
  rw [MS_self ν 83 1832, ← E.1 8 (by omega), if_neg b1, if_neg b2, ← eqS.light I1.1.1 a E I1.1.2.1 (cc + 1) 0 (shG (ps_i μ) 10)] at m
  exact ⟨_, _, _, c, m, (by first | exact h.2.1.1 | exact hm.1 | exact hi.2.1.1 | exact hi1.2.1.1 | exact (hi1.2.1.of fν.2.2.1 fν.2.2.2.1).1 | (rw [hs.2.2.1]; exact h.2.1.1)), hi _ (by rw [← s4]; exact light_same _ _ _ (by omega))⟩
end OPS5
