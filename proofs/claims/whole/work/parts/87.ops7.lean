-- ===== calls answered alike: what changes the ship =====
theorem same_v {μ ν : ps_M} {τ : Nat → Int32} (hν : ∀ a i, a = 83 ∧ (i = 1 ∨ i = 3 ∨ i = 4) ∨ a = 85 → ps_i ν a i = ps_i μ a i) (h : sameF τ (mdG (ps_i μ) 83 0)) : sameF τ (mdG (ps_i ν) 83 0) := fun k h1 h2 => (h k h1 h2).trans (by
  rcases (show k = 1 ∨ k = 4 ∨ k = 8 ∨ k = 9 ∨ k = 10 ∨ k = 11 ∨ k = 12 ∨ k = 13 ∨ k = 14 by omega) with rfl | rfl | rfl | rfl | rfl | rfl | rfl | rfl | rfl
  · exact (hν 83 3 (by omega)).symm
  · exact (hν 83 4 (by omega)).symm
  · exact (hν 83 1 (by omega)).symm
  · exact (hν 85 0 (by omega)).symm
  · exact (hν 85 1 (by omega)).symm
  · exact (hν 85 2 (by omega)).symm
  · exact (hν 85 3 (by omega)).symm
  · exact (hν 85 4 (by omega)).symm
  · exact (hν 85 5 (by omega)).symm)
theorem MS0_off {ν : ps_M} {τ : Nat → Int32} (h : sameF τ (mdG (ps_i ν) 83 0)) {a i : Nat} (z : ¬ (a = 84 ∧ i < 18)) : ps_i (MS ν 83 0 τ) a i = ps_i ν a i := by
  show mdP (ps_i ν) 83 0 τ a i = _
  unfold mdP
  by_cases h1 : a = 83 ∧ i = 3
  · rw [if_pos h1, h 1 (by omega) (by omega), h1.1, h1.2]; rfl
  by_cases h2 : a = 83 ∧ i = 4
  · rw [if_neg h1, if_pos h2, h 4 (by omega) (by omega), h2.1, h2.2]; rfl
  by_cases h3 : a = 83 ∧ i = 1
  · rw [if_neg h1, if_neg h2, if_pos h3, h 8 (by omega) (by omega), h3.1, h3.2]; rfl
  by_cases h4 : a = 83 + 2 ∧ i < 6
  · rw [if_neg h1, if_neg h2, if_neg h3, if_pos h4, h (9 + i) (by omega) (by omega), h4.1]
    rcases (show i = 0 ∨ i = 1 ∨ i = 2 ∨ i = 3 ∨ i = 4 ∨ i = 5 by omega) with rfl | rfl | rfl | rfl | rfl | rfl <;> rfl
  · rw [if_neg h1, if_neg h2, if_neg h3, if_neg h4, if_neg (by omega)]
theorem Inv.shd {W : Nat} {μ : ps_M} (h : Inv W μ) : ∃ g σ τ, SM μ 4 σ = μ ∧ MS μ 83 0 τ = μ ∧ σ = shG (ps_i μ) 4 ∧ τ = mdG (ps_i μ) 83 0 ∧ shI g σ ∧ shI g τ ∧ eqS g σ τ ∧ Kp g (ps_i μ) (ps_i μ) ∧ ∀ x, x < (τ 5).toNatClampNeg → pastR g (ps_i μ 8) (ps_i μ 84) (11 * x) (18 + 11 * x) := by
  obtain ⟨g, h1, h2, h3, h4, h5⟩ := h.2.2.2.2.1
  refine ⟨g, _, _, SM_self μ 4, MS_self μ 83 0, rfl, rfl, shI_eqS h3.1 h3.2.1.sym, h3.1, h3.2.1, h4, fun x hx => ?_⟩
  have z := h3.2.2 x hx
  rw [Nat.zero_add] at z
  exact z
theorem inv_ship {W g : Nat} {μ ξ : ps_M} {σ' τ' : Nat → Int32} (h : Inv W μ) (hK : Kp g (ps_i μ) (ps_i μ)) (hn : ps_n ξ = ps_n μ) (hw : ps_w ξ = ps_w μ) (hs : ps_s ξ = ps_s μ) (hr : ps_r ξ = ps_r μ) (hl : ps_l ξ = ps_l μ) (hq : ∀ a i, ¬ (4 ≤ a ∧ a ≤ 8) → ¬ (a = 84 ∧ i < 458) → ps_i ξ a i = ps_i μ a i) (hc : ∀ k, k < 27 → shG (ps_i ξ) 4 k = σ' k) (hm : ∀ k, k < 27 → mdG (ps_i ξ) 83 0 k = τ' k) (I' : shI g τ') (E' : eqS g σ' τ') (hp : ∀ x, x < (τ' 5).toNatClampNeg → pastR g (ps_i ξ 8) (ps_i ξ 84) (11 * x) (18 + 11 * x)) : Inv W ξ := by
  obtain ⟨g0, h1, h2, -, -, h5⟩ := h.2.2.2.2.1
  have q := hq
  have hg := I'.1.1
  have em : eqS g τ' (mdG (ps_i ξ) 83 0) := eqS.of27 hg (fun k hk => (hm k hk).symm)
  refine Inv.mk (g := g) h hn hw hs hr ⟨h1.c (fun a i _ _ => q _ _ (by omega) (by omega)) (fun a i _ _ => q _ _ (by omega) (by omega)), h2.c (fun a i _ _ => q _ _ (by omega) (by omega)) (fun a i _ _ => q _ _ (by omega) (by omega)), ⟨shI_eqS I' em, (eqS.of27 hg hc).tr (E'.tr em), fun x hx => ?_⟩, hK.c (fun a i _ _ => q _ _ (by omega) (by omega)) (fun i hi => q _ _ (by omega) (by omega)) (fun i _ _ => q _ _ (by omega) (by omega)) (fun i => q _ _ (by omega) (by omega)), h5.c (fun i _ => q _ _ (by omega) (by omega)) (fun i => q _ _ (by omega) (by omega)) (fun i _ => q _ _ (by omega) (by omega)) (fun i => q _ _ (by omega) (by omega))⟩ ?_ ?_
  · rw [Nat.zero_add]
    exact hp x (by rw [← hm 5 (by omega)]; exact hx)
  · rw [hl]; exact h.2.2.2.2.2.1
  · rw [hl]; exact h.2.2.2.2.2.2
/-- class and model after a call that changed the ship -/
theorem inv_sm {W g : Nat} {μ A B : ps_M} {σ' τ' : Nat → Int32} (h : Inv W μ) (hK : Kp g (ps_i μ) (ps_i μ)) (hA : ps_n B = ps_n μ ∧ ps_w B = ps_w μ ∧ ps_s B = ps_s μ ∧ ps_r B = ps_r μ ∧ ps_l B = ps_l μ) (hq : ∀ a i, ¬ (4 ≤ a ∧ a ≤ 8) → ¬ (a = 84 ∧ 18 ≤ i ∧ i < 458) → ps_i B a i = ps_i μ a i) (hc : ∀ a i, 4 ≤ a ∧ a ≤ 7 → ps_i B a i = ps_i (SM A 4 σ') a i) (hss : sameF τ' (mdG (ps_i μ) 83 0)) (I' : shI g τ') (E' : eqS g σ' τ') (hp : ∀ x, x < (τ' 5).toNatClampNeg → pastR g (ps_i B 8) (ps_i B 84) (11 * x) (18 + 11 * x)) : Inv W (MS B 83 0 τ') := by
  have hs2 : sameF τ' (mdG (ps_i B) 83 0) := same_v (fun a i z => hq a i (by omega) (by omega)) hss
  obtain ⟨p, q, hpq, hq40, e5, e4⟩ := I'.2.2.2.2.2
  have hg := I'.1.1
  refine inv_ship (g := g) (σ' := σ') (τ' := τ') h hK hA.1 hA.2.1 hA.2.2.1 hA.2.2.2.1 hA.2.2.2.2 (fun a i z1 z2 => ?_) (fun k hk => ?_) (fun k hk => mdG_MS hk) I' E' (fun x hx => ?_)
  · rw [MS0_off hs2 (by omega)]; exact hq a i z1 (by omega)
  · rw [shG_cells (J := ps_i (SM A 4 σ')) (fun a i h1 h2 => by rw [MS0_off hs2 (by omega)]; exact hc a i ⟨h1, by omega⟩)]
    exact shG_SM hk
  · have hx2 := hx
    rw [e5, nI_clamp (by omega)] at hx2
    obtain ⟨a1, a2, a3, a4, a5, a6, a7, a8, a9, a10⟩ := hp x hx
    refine ⟨?_, ?_, ?_, ?_, ?_, fun i hi => ?_, ?_, ?_, ?_, fun i hi => ?_⟩
    · rw [MS0_off hs2 (by omega), MS0_off hs2 (by omega)]; exact a1
    · rw [MS0_off hs2 (by omega), MS0_off hs2 (by omega)]; exact a2
    · rw [MS0_off hs2 (by omega), MS0_off hs2 (by omega)]; exact a3
    · rw [MS0_off hs2 (by omega), MS0_off hs2 (by omega)]; exact a4
    · rw [MS0_off hs2 (by omega), MS0_off hs2 (by omega)]; exact a5
    · rw [MS0_off hs2 (by omega), MS0_off hs2 (by omega)]; exact a6 i hi
    · rw [MS0_off hs2 (by omega)]; exact a7
    · rw [MS0_off hs2 (by omega)]; exact a8
    · rw [MS0_off hs2 (by omega)]; exact a9
    · rw [MS0_off hs2 (by omega)]; exact a10 i hi
theorem pastR.c {g a b : Nat} {P Q P' Q' : Nat → Int32} (hg : g ≤ 6) (h : pastR g P Q a b) (hP : ∀ i, a ≤ i → i < a + 11 → P' i = P i) (hQ : ∀ i, b ≤ i → i < b + 11 → Q' i = Q i) : pastR g P' Q' a b := by
  obtain ⟨a1, a2, a3, a4, a5, a6, a7, a8, a9, a10⟩ := h
  refine ⟨?_, ?_, ?_, ?_, ?_, fun i hi => ?_, ?_, ?_, ?_, fun i hi => ?_⟩
  · rw [hP _ (by omega) (by omega), hQ _ (by omega) (by omega)]; exact a1
  · rw [hP _ (by omega) (by omega), hQ _ (by omega) (by omega)]; exact a2
  · rw [hP _ (by omega) (by omega), hQ _ (by omega) (by omega)]; exact a3
  · rw [hP _ (by omega) (by omega), hQ _ (by omega) (by omega)]; exact a4
  · rw [hP _ (by omega) (by omega), hQ _ (by omega) (by omega)]; exact a5
  · rw [hP _ (by omega) (by omega), hQ _ (by omega) (by omega)]; exact a6 i hi
  · rw [hQ _ (by omega) (by omega)]; exact a7
  · rw [hQ _ (by omega) (by omega)]; exact a8
  · rw [hQ _ (by omega) (by omega)]; exact a9
  · rw [hQ _ (by omega) (by omega)]; exact a10 i hi
def PR (g : Nat) (P Q : Nat → Int32) (σ τ : Nat → Int32) : Prop := shI g τ ∧ eqS g σ τ ∧ ∀ x, x < (τ 5).toNatClampNeg → pastR g P Q (11 * x) (18 + 11 * x)
theorem VP_at {μ : ps_M} {c p a i : Nat} {σ : Nat → Int32} : ps_i (VP μ c p σ) a i = if a = c ∧ 11 * p ≤ i ∧ i < 11 * p + 11 then vpF σ (i - 11 * p) else ps_i μ a i := rfl
theorem PA_at {μ : ps_M} {m p c a i : Nat} {σ : Nat → Int32} : ps_i (PA μ m p σ c) a i = if a = m + 1 ∧ 18 + 11 * p ≤ i ∧ i < 18 + 11 * p + c then σ (mdX (1 + (i - (18 + 11 * p)))) else ps_i μ a i := rfl
theorem nI_eqc {p q : Nat} (hp : p ≤ 40) (hq : q ≤ 40) (h : nI p = nI q) : p = q := by
  have := congrArg Int32.toNatClampNeg h
  rw [nI_clamp (by omega), nI_clamp (by omega)] at this
  exact this
theorem PR.step {g p : Nat} {A B : ps_M} {σ τ : Nat → Int32} {a : Int32} (h : PR g (ps_i A 8) (ps_i B 84) σ τ) (ho : ¬ overF σ) (ha : allowsF σ a) (e5 : τ 5 = nI p) (hp40 : p ≤ 40) : PR g (ps_i (VP A 8 p σ) 8) (ps_i (PA B 83 p τ 11) 84) (passF g σ a) (passF g τ a) ∧ p < 40 := by
  obtain ⟨hI, E, hp⟩ := h
  have hg := hI.1.1
  have h8 : σ 8 = nI g := (E.1 8 (by omega)).trans hI.1.2.1
  have hl : τ 5 < τ 4 := over_lt (fun q => ho (E.over.mpr q))
  have hpl : p < 40 := by
    obtain ⟨p', hh, hph, hh40, e5', e4⟩ := hI.2.2.2.2.2
    have := nI_eqc hp40 (by omega) (e5.symm.trans e5')
    subst this
    rw [e5, e4] at hl
    have := (nI_ltI (by omega) (by omega)).mp hl
    omega
  have h5 : passF g τ a 5 = nI (p + 1) := by rw [passF_pt, if_pos rfl, e5, nI_1]
  refine ⟨⟨shI_pass hI ((E.alw a).mp ha) hl, E.pass hg h8 a, fun x hx => ?_⟩, hpl⟩
  rw [h5, nI_clamp (by omega)] at hx
  by_cases z : x = p
  · subst z
    have v : ∀ j, j < 11 → ps_i (VP A 8 x σ) 8 (11 * x + j) = vpF σ j := fun j hj => by
      rw [VP_at, if_pos ⟨rfl, by omega, by omega⟩]
      congr 1; omega
    have w : ∀ j, j < 11 → ps_i (PA B 83 x τ 11) 84 (18 + 11 * x + j) = τ (mdX (1 + j)) := fun j hj => by
      rw [PA_at, if_pos ⟨rfl, by omega, by omega⟩]
      congr 2; omega
    have v0 := v 0 (by omega)
    have w0 := w 0 (by omega)
    rw [Nat.add_zero] at v0 w0
    obtain ⟨⟨-, -, hst⟩, -, h7, hc2, h0, -⟩ := hI
    have m6 : ∀ i, i < 6 → mdX (1 + (5 + i)) = 21 + i := fun i hi => by
      rcases (show i = 0 ∨ i = 1 ∨ i = 2 ∨ i = 3 ∨ i = 4 ∨ i = 5 by omega) with rfl | rfl | rfl | rfl | rfl | rfl <;> rfl
    have v6 : ∀ i, i < 6 → vpF σ (5 + i) = σ (21 + i) := fun i hi => by
      rcases (show i = 0 ∨ i = 1 ∨ i = 2 ∨ i = 3 ∨ i = 4 ∨ i = 5 by omega) with rfl | rfl | rfl | rfl | rfl | rfl <;> rfl
    refine ⟨?_, ?_, ?_, ?_, ?_, fun i hi => ?_, ?_, ?_, ?_, fun i hi => ?_⟩
    · rw [v0, w0]; exact E.1 0 (by omega)
    · rw [v 1 (by omega), w 1 (by omega)]; exact E.1 2 (by omega)
    · rw [v 2 (by omega), w 2 (by omega)]; exact E.1 3 (by omega)
    · rw [v 3 (by omega), w 4 (by omega)]; exact E.1 6 (by omega)
    · rw [v 4 (by omega), w 3 (by omega)]; exact E.1 7 (by omega)
    · rw [Nat.add_assoc, v (5 + i) (by omega), Nat.add_assoc (18 + 11 * x), w (5 + i) (by omega), m6 i (by omega), v6 i (by omega)]; exact (E.2 i hi).2.2
    · rw [w0]; exact h0
    · rw [w 1 (by omega)]; exact hc2
    · rw [w 3 (by omega)]; exact h7
    · rw [Nat.add_assoc (18 + 11 * x), w (5 + i) (by omega), m6 i (by omega)]; exact (hst i hi).2
  · refine (hp x (by rw [e5, nI_clamp (by omega)]; omega)).c hg (fun i h1 h2 => ?_) (fun i h1 h2 => ?_)
    · rw [VP_at, if_neg (by omega)]
    · rw [PA_at, if_neg (by omega)]
section OPS7
variable {L : Nat} {xs : Nat → Int32} {e W : Nat} {μ : ps_M}
theorem act_k {a : Int32} (h : actP a) : a = nI a.toNatClampNeg ∧ a.toNatClampNeg < 10 := by
  obtain ⟨h1, h2⟩ := n_k (M := 9) (by omega) h.1 h.2
  exact ⟨h1, by omega⟩
theorem op_act (h : Inv W μ) (a : Int32) : opI (ps_XX L xs) e j_X7_act j_X8_act [.int a] W μ := by
  obtain ⟨g, σ, τ, s1, s2, s3, s4, I1, I2, E, hK, hP⟩ := h.shd
  obtain ⟨p, hh, hph, hh40, e5, e4⟩ := I2.2.2.2.2.2
  have e5s : σ 5 = nI p := (E.1 5 (by omega)).trans e5
  have c := kq_act (L := L) (xs := xs) (d := e + 14) h.1 I1 e5s (by omega) (a := a)
  rw [s1] at c
  have m := fun (ν : ps_M) (hm : isMd ν 83) => mq_act (L := L) (xs := xs) (d := e + 14) hm I2 e5 (by omega) (a := a) act_k
  by_cases b1 : ¬ actP a
  · rw [if_pos b1] at c
    have m := m μ h.2.1
    rw [if_pos b1, s2] at m
    exact ⟨_, _, _, c, m, (by first | exact h.2.1.1 | exact hm.1 | exact hi.2.1.1 | exact hi1.2.1.1 | exact (hi1.2.1.of fν.2.2.1 fν.2.2.2.1).1 | (rw [hs.2.2.1]; exact h.2.1.1)), h⟩
  rw [if_neg b1] at c
  by_cases b2 : ¬ canF σ a
  · rw [if_pos b2] at c
    have m := m μ h.2.1
    rw [if_neg b1, if_pos (Or.inr (fun q => b2 ((E.can a).mpr q))), s2] at m
    exact ⟨_, _, _, c, m, (by first | exact h.2.1.1 | exact hm.1 | exact hi.2.1.1 | exact hi1.2.1.1 | exact (hi1.2.1.of fν.2.2.1 fν.2.2.2.1).1 | (rw [hs.2.2.1]; exact h.2.1.1)), h⟩
  rw [if_neg b2] at c
  have b2 := Classical.not_not.mp b2
  have b3 : ¬ (τ 8 = 0 ∨ ¬ canF τ a) := fun q => q.elim (fun q => absurd (q ▸ ((E.can a).mp b2).1 : (0 : Int32) < 0) (by decide)) (fun q => q ((E.can a).mp b2))
  obtain ⟨ν, hν⟩ : ∃ ν, ν = SM (VP μ 8 p σ) 4 (passF g σ a) := ⟨_, rfl⟩
  have hv : ∀ a i, ¬ (4 ≤ a ∧ a ≤ 8) → ps_i ν a i = ps_i μ a i := fun a i z => by rw [hν, SM_off (by omega), VP_at, if_neg (by omega)]
  have hv8 : ∀ i, ps_i ν 8 i = ps_i (VP μ 8 p σ) 8 i := fun i => by rw [hν, SM_off (by omega)]
  have hv4 : ∀ b i, 4 ≤ b ∧ b ≤ 7 → ps_i ν b i = ps_i (SM (VP μ 8 p σ) 4 (passF g σ a)) b i := fun b i _ => by rw [hν]
  have hA : ps_n ν = ps_n μ ∧ ps_w ν = ps_w μ ∧ ps_s ν = ps_s μ ∧ ps_r ν = ps_r μ ∧ ps_l ν = ps_l μ := by rw [hν]; exact ⟨rfl, rfl, rfl, rfl, rfl⟩
  have hm : isMd ν 83 := h.2.1.of hA.2.2.1 hA.2.2.2.1
  rw [← hν] at c
  have m := m ν hm
  have q1 : MS ν 83 0 τ = ν := MS_id s4 (fun a i h1 _ _ => hv a i (by omega))
  have E2 := E.pass I1.1.1 I1.1.2.1 a
  rw [if_neg b1, if_neg b3, q1, ← E2.1 0 (by omega)] at m
  have pr : PR g (ps_i μ 8) (ps_i ν 84) σ τ := ⟨I2, E, fun x hx => (hP x hx).c I1.1.1 (fun _ _ _ => rfl) (fun i _ _ => hv 84 i (by omega))⟩
  obtain ⟨⟨i1, i2, i3⟩, hp40⟩ := pr.step b2.2.1 b2.2.2 e5 (by omega)
  refine ⟨_, _, _, c, m, (by first | exact h.2.1.1 | exact hm.1 | exact hi.2.1.1 | exact hi1.2.1.1 | exact (hi1.2.1.of fν.2.2.1 fν.2.2.2.1).1 | (rw [hs.2.2.1]; exact h.2.1.1)), inv_sm (A := VP μ 8 p σ) h hK hA (fun a i z1 z2 => ?_) (fun a i z => ?_) (by rw [← s4]; exact sameF.rf.pass) i1 i2 (fun x hx => (i3 x hx).c I1.1.1 (fun i _ _ => ?_) (fun _ _ _ => rfl))⟩
  · rw [PA_at, if_neg (by omega)]; exact hv a i z1
  · rw [PA_at, if_neg (by omega)]; exact hv4 a i z
  · rw [PA_at, if_neg (by omega)]; exact hv8 i
end OPS7
