-- ===== calls answered alike: told of the ship =====
theorem has_kF {g : Nat} {σ : Nat → Int32} (h : shOK g σ) {i : Int32} (q : hasF σ i) : i = nI i.toNatClampNeg ∧ i.toNatClampNeg < g := by
  obtain ⟨x, hx, rfl⟩ := nI_of q.1
  rw [nI_clamp hx]
  refine ⟨rfl, Nat.lt_of_not_le fun w => q.2 ?_⟩
  rw [h.2.1]; exact nI_le w hx
theorem MS_id {μ ν : ps_M} {B : Nat} {τ : Nat → Int32} (hτ : τ = mdG (ps_i μ) 83 B) (h : ∀ a i, 83 ≤ a → ¬ (a = 83 ∧ (i = 9 ∨ i = 12)) → ¬ a = 90 → ps_i ν a i = ps_i μ a i) : MS ν 83 B τ = ν := by
  have e : τ = mdG (ps_i ν) 83 B := by
    rw [hτ]
    exact (mdG_cells (fun i hi => h _ _ (by omega) (by omega) (by omega)) (fun i _ _ => h _ _ (by omega) (by omega) (by omega)) (fun i => h _ _ (by omega) (by omega) (by omega))).symm
  rw [e]; exact MS_self ν 83 B
theorem chF0_c {b c : Nat → Int32} {E : Nat} (h : ∀ i, i < E → b i = c i) : chF0 b E = chF0 c E := by
  funext p
  unfold chF0
  by_cases q : p < E
  · rw [if_pos q, if_pos q, h p q]
  · rw [if_neg q, if_neg q]
theorem n00 : nI 0 = 0 := rfl
theorem n01 : nI 0 ≤ 0 := by decide
theorem dg_50 {f : Nat → Int32} {h : Int64} : dgF f (5 * 0) h = h := rfl
theorem rwF_c {s s' : Nat → Int32} {t t' : Nat → Nat → Int32} : ∀ n, (∀ k, k < n → s k = s' k ∧ ∀ i, i < (s' k).toNatClampNeg → t k i = t' k i) → ∀ h, rwF s t n h = rwF s' t' n h
  | 0, _, _ => rfl
  | n + 1, q, h => by
    show dgF (t n) (s n).toNatClampNeg (31 * rwF s t n h + (s n).toInt64) = dgF (t' n) (s' n).toNatClampNeg (31 * rwF s' t' n h + (s' n).toInt64)
    rw [rwF_c n (fun k hk => q k (by omega)) h, (q n (by omega)).1]
    exact dg_c _ (fun i hi => (q n (by omega)).2 i hi) _
section OPS4
variable {L : Nat} {xs : Nat → Int32} {e W : Nat} {μ : ps_M}
theorem Inv.sh (h : Inv W μ) : ∃ g σ τ, SM μ 4 σ = μ ∧ MS μ 83 0 τ = μ ∧ σ = shG (ps_i μ) 4 ∧ τ = mdG (ps_i μ) 83 0 ∧ shI g σ ∧ shI g τ ∧ eqS g σ τ := by
  obtain ⟨g, h1, h2, h3, h4, h5⟩ := h.2.2.2.2.1
  exact ⟨g, _, _, SM_self μ 4, MS_self μ 83 0, rfl, rfl, shI_eqS h3.1 h3.2.1.sym, h3.1, h3.2.1⟩
theorem Inv.kp (h : Inv W μ) {k : Nat} (hk : k < 3) : (ps_i μ 84 (458 * (1 + k)) = -1 ∧ ps_i μ (65 + 6 * k) 1 = 0) ∨ (ps_i μ (65 + 6 * k) 1 = 1 ∧ ¬ ps_i μ 84 (458 * (1 + k)) < 0 ∧ ps_i μ (65 + 6 * k + 1) 5 = ps_i μ 84 (458 * (1 + k))) := by
  obtain ⟨g, h1, h2, h3, h4, h5⟩ := h.2.2.2.2.1
  rcases h4 k hk with z | z
  · exact Or.inl z
  · obtain ⟨p, q, hpq, hq, e5, e4⟩ := z.2.1.2.2.2.2.2
    have e5 : ps_i μ 84 (458 * (1 + k)) = nI p := e5
    have ee : ps_i μ (65 + 6 * k + 1) 5 = ps_i μ 84 (458 * (1 + k)) := z.2.2.1.1 5 (by omega)
    exact Or.inr ⟨z.1, by rw [e5]; exact nI_pos (by omega), ee⟩
theorem op_gang (h : Inv W μ) (i what : Int32) : opI (ps_XX L xs) e j_X7_gang j_X8_gang [.int i, .int what] W μ := by
  obtain ⟨g, σ, τ, s1, s2, s3, s4, I1, I2, E⟩ := h.sh
  have c := kq_gang (L := L) (xs := xs) (d := e + 16) h.1 I1.1 (has_kF I1.1) what (i := i)
  rw [s1] at c
  by_cases b : hasF σ i ∧ 0 ≤ what ∧ what ≤ 4
  · rw [if_neg (Classical.not_not.mpr ⟨b.1, Int32.not_lt.mpr b.2.1, b.2.2⟩)] at c
    have hx := has_kF I1.1 b.1
    generalize i.toNatClampNeg = x at c hx
    have m := mq_gang (L := L) (xs := xs) (d := e + 14) (μ := ps_sI μ 0 11 (ofGangF σ x what)) (h.2.1.of rfl rfl) I2.1 (i := i) (x := x) (fun _ => hx) what
    have q1 : MS (ps_sI μ 0 11 (ofGangF σ x what)) 83 0 τ = ps_sI μ 0 11 (ofGangF σ x what) := MS_id s4 (fun a i h1 _ _ => sI_off (by omega))
    have q2 : MS (ps_sI (ps_sI μ 0 11 (ofGangF σ x what)) 83 9 (ofGangF σ x what)) 83 0 τ = ps_sI (ps_sI μ 0 11 (ofGangF σ x what)) 83 9 (ofGangF σ x what) := MS_id s4 (fun a i h1 h2 _ => by rw [sI_off (by omega), sI_off (by omega)])
    rw [if_pos ⟨(E.has i).mp b.1, b.2⟩, ← E.ofGang hx.2, q1, q2] at m
    exact ⟨_, _, _, c, m, (by first | exact h.2.1.1 | exact hm.1 | exact hi.2.1.1 | exact hi1.2.1.1 | exact (hi1.2.1.of fν.2.2.1 fν.2.2.2.1).1 | (rw [hs.2.2.1]; exact h.2.1.1)), inv_told h rfl⟩
  · rw [if_pos (fun q => b ⟨q.1, Int32.not_lt.mp q.2.1, q.2.2⟩)] at c
    have m := mq_gang (L := L) (xs := xs) (d := e + 14) h.2.1 I2.1 (i := i) (has_kF I2.1) what
    rw [if_neg (fun q => b ⟨(E.has i).mpr q.1, q.2⟩), s2] at m
    exact ⟨_, _, _, c, m, (by first | exact h.2.1.1 | exact hm.1 | exact hi.2.1.1 | exact hi1.2.1.1 | exact (hi1.2.1.of fν.2.2.1 fν.2.2.2.1).1 | (rw [hs.2.2.1]; exact h.2.1.1)), h⟩
theorem op_mark (h : Inv W μ) (i kind : Int32) : opI (ps_XX L xs) e j_X7_mark j_X8_mark [.int i, .int kind] W μ := by
  obtain ⟨g, σ, τ, s1, s2, s3, s4, I1, I2, E⟩ := h.sh
  have c := kq_mark (L := L) (xs := xs) (d := e + 17) h.1 I1.1 (has_kF I1.1) kind (i := i)
  rw [s1] at c
  by_cases b : hasF σ i ∧ 1 ≤ kind ∧ kind ≤ 5
  · rw [if_neg (Classical.not_not.mpr ⟨b.1, Int32.not_lt.mpr b.2.1, b.2.2⟩)] at c
    have hx := has_kF I1.1 b.1
    generalize i.toNatClampNeg = x at c hx
    have m := fun (ν : ps_M) (hm : isMd ν 83) => mq_mark (L := L) (xs := xs) (d := e + 15) (σ := τ) hm I2.1 (i := i) (x := x) (fun _ => hx) kind
    have bb : ¬ ¬ (hasF τ i ∧ 1 ≤ kind ∧ kind ≤ 5) := Classical.not_not.mpr ⟨(E.has i).mp b.1, b.2⟩
    by_cases b2 : ¬ isOfF (σ (9 + x)) kind
    · rw [if_pos b2] at c
      have m := m (FC μ 3) (h.2.1.of rfl rfl)
      have q1 : MS (FC μ 3) 83 0 τ = FC μ 3 := MS_id s4 (fun a i h1 _ _ => FC_hi (by omega))
      rw [if_neg bb, ← (E.2 x hx.2).1, if_pos b2, q1] at m
      exact ⟨_, _, _, c, m, (by first | exact h.2.1.1 | exact hm.1 | exact hi.2.1.1 | exact hi1.2.1.1 | exact (hi1.2.1.of fν.2.2.1 fν.2.2.2.1).1 | (rw [hs.2.2.1]; exact h.2.1.1)), FCM h (by omega)⟩
    · rw [if_neg b2] at c
      have m := m μ h.2.1
      rw [if_neg bb, ← (E.2 x hx.2).1, if_neg b2, s2, ← E.mark hx.2] at m
      exact ⟨_, _, _, c, m, (by first | exact h.2.1.1 | exact hm.1 | exact hi.2.1.1 | exact hi1.2.1.1 | exact (hi1.2.1.of fν.2.2.1 fν.2.2.2.1).1 | (rw [hs.2.2.1]; exact h.2.1.1)), h⟩
  · rw [if_pos (fun q => b ⟨q.1, Int32.not_lt.mp q.2.1, q.2.2⟩)] at c
    have m := mq_mark (L := L) (xs := xs) (d := e + 15) h.2.1 I2.1 (i := i) (has_kF I2.1) kind
    rw [if_pos (fun q => b ⟨(E.has i).mpr q.1, q.2⟩), s2] at m
    exact ⟨_, _, _, c, m, (by first | exact h.2.1.1 | exact hm.1 | exact hi.2.1.1 | exact hi1.2.1.1 | exact (hi1.2.1.of fν.2.2.1 fν.2.2.2.1).1 | (rw [hs.2.2.1]; exact h.2.1.1)), h⟩
theorem op_rest (h : Inv W μ) (i : Int32) : opI (ps_XX L xs) e j_X7_rest j_X8_rest [.int i] W μ := by
  obtain ⟨g, σ, τ, s1, s2, s3, s4, I1, I2, E⟩ := h.sh
  have c := kq_rest (L := L) (xs := xs) (d := e + 18) h.1 I1.1 (has_kF I1.1) (i := i)
  have m := mq_rest (L := L) (xs := xs) (d := e + 17) h.2.1 I2.1 (i := i) (has_kF I2.1)
  rw [s1] at c
  rw [s2] at m
  by_cases b : hasF σ i
  · have hx := has_kF I1.1 b
    rw [if_pos b] at c
    rw [if_pos ((E.has i).mp b), ← (E.2 _ hx.2).2.1, ← (E.2 _ hx.2).2.2] at m
    exact ⟨_, _, _, c, m, (by first | exact h.2.1.1 | exact hm.1 | exact hi.2.1.1 | exact hi1.2.1.1 | exact (hi1.2.1.of fν.2.2.1 fν.2.2.2.1).1 | (rw [hs.2.2.1]; exact h.2.1.1)), h⟩
  · rw [if_neg b] at c
    rw [if_neg (fun q => b ((E.has i).mpr q))] at m
    exact ⟨_, _, _, c, m, (by first | exact h.2.1.1 | exact hm.1 | exact hi.2.1.1 | exact hi1.2.1.1 | exact (hi1.2.1.of fν.2.2.1 fν.2.2.2.1).1 | (rw [hs.2.2.1]; exact h.2.1.1)), h⟩
theorem op_tell (h : Inv W μ) (what : Int32) : opI (ps_XX L xs) e j_X7_tell j_X8_tell [.int what] W μ := by
  obtain ⟨g, σ, τ, s1, s2, s3, s4, I1, I2, E⟩ := h.sh
  have c := kq_tell (L := L) (xs := xs) (d := e + 17) h.1 I1.1 I1.2.2.1 what
  rw [s1] at c
  have m := fun (ν : ps_M) (hm : isMd ν 83) => mq_tell (L := L) (xs := xs) (d := e + 17) (σ := τ) hm I2.1 I2.2.2.1 what
  by_cases b : 0 ≤ what ∧ what ≤ 8
  · rw [if_neg (Classical.not_not.mpr ⟨Int32.not_lt.mpr b.1, b.2⟩)] at c
    by_cases b2 : σ 8 = 0
    · rw [if_pos b2] at c
      have m := m μ h.2.1
      rw [if_neg (Classical.not_not.mpr b), if_pos ((E.1 8 (by omega)).symm.trans b2), s2] at m
      exact ⟨_, _, _, c, m, (by first | exact h.2.1.1 | exact hm.1 | exact hi.2.1.1 | exact hi1.2.1.1 | exact (hi1.2.1.of fν.2.2.1 fν.2.2.2.1).1 | (rw [hs.2.2.1]; exact h.2.1.1)), h⟩
    · rw [if_neg b2] at c
      have m := m (ps_sI μ 0 11 (ofShipF σ what)) (h.2.1.of rfl rfl)
      have q1 : MS (ps_sI μ 0 11 (ofShipF σ what)) 83 0 τ = ps_sI μ 0 11 (ofShipF σ what) := MS_id s4 (fun a i h1 _ _ => sI_off (by omega))
      have q2 : MS (ps_sI (ps_sI μ 0 11 (ofShipF σ what)) 83 9 (ofShipF σ what)) 83 0 τ = ps_sI (ps_sI μ 0 11 (ofShipF σ what)) 83 9 (ofShipF σ what) := MS_id s4 (fun a i h1 h2 _ => by rw [sI_off (by omega), sI_off (by omega)])
      rw [if_neg (Classical.not_not.mpr b), if_neg (fun q => b2 ((E.1 8 (by omega)).trans q)), ← E.ofShip, q1, q2] at m
      exact ⟨_, _, _, c, m, (by first | exact h.2.1.1 | exact hm.1 | exact hi.2.1.1 | exact hi1.2.1.1 | exact (hi1.2.1.of fν.2.2.1 fν.2.2.2.1).1 | (rw [hs.2.2.1]; exact h.2.1.1)), inv_told h rfl⟩
  · rw [if_pos (fun q => b ⟨Int32.not_lt.mp q.1, q.2⟩)] at c
    have m := m μ h.2.1
    rw [if_pos b, s2] at m
    exact ⟨_, _, _, c, m, (by first | exact h.2.1.1 | exact hm.1 | exact hi.2.1.1 | exact hi1.2.1.1 | exact (hi1.2.1.of fν.2.2.1 fν.2.2.2.1).1 | (rw [hs.2.2.1]; exact h.2.1.1)), h⟩
theorem op_can (h : Inv W μ) : opI (ps_XX L xs) e j_X7_can j_X8_can [] W μ := by
  obtain ⟨g, σ, τ, s1, s2, s3, s4, I1, I2, E⟩ := h.sh
  have c := kq_can (L := L) (xs := xs) (d := e + 15) h.1 (σ := σ)
  have m := mq_can (L := L) (xs := xs) (d := e + 15) h.2.1 I2
  rw [s1] at c
  rw [s2, ← E.canSet, ← E.1 8 (by omega)] at m
  by_cases b : σ 8 = 0
  · rw [if_pos b] at c m
    exact ⟨_, _, _, c, m, (by first | exact h.2.1.1 | exact hm.1 | exact hi.2.1.1 | exact hi1.2.1.1 | exact (hi1.2.1.of fν.2.2.1 fν.2.2.2.1).1 | (rw [hs.2.2.1]; exact h.2.1.1)), h⟩
  · rw [if_neg b] at c m
    exact ⟨_, _, _, c, m, (by first | exact h.2.1.1 | exact hm.1 | exact hi.2.1.1 | exact hi1.2.1.1 | exact (hi1.2.1.of fν.2.2.1 fν.2.2.2.1).1 | (rw [hs.2.2.1]; exact h.2.1.1)), h⟩
theorem countCM (h : Inv W μ) {g : Nat} {σ τ : Nat → Int32} (E : eqS g σ τ) {what : Int32} (hw : 0 ≤ what ∧ what ≤ 8) : countC μ g σ what = countM μ 83 g τ what := by
  unfold countC countM
  rw [E.1 8 (by omega), E.1 0 (by omega), E.1 5 (by omega), psum_c (f := fun k => σ (21 + k)) (k := fun k => τ (21 + k)) g (fun i hi => (E.2 i hi).2.2), cntN_c (p := fun k => isOfF (σ (9 + k)) 1) (q := fun k => isOfF (τ (9 + k)) 1) g (fun i hi => by rw [(E.2 i hi).1]), cntN_c (p := fun k => isOfF (σ (9 + k)) 2) (q := fun k => isOfF (τ (9 + k)) 2) g (fun i hi => by rw [(E.2 i hi).1])]
  by_cases b6 : what = 6
  · subst b6
    have := cntN_c (p := fun k => 0 ≤ ps_i μ (45 + 2 * k) 0) (q := thereP μ 83 6) 6 (fun k hk => by
      rw [(h.rw hk).1]
      exact ⟨fun q => Or.inl ⟨rfl, q⟩, fun q => q.elim (fun q => q.2) (fun q => q.elim (fun q => absurd rfl q.1) (fun q => absurd rfl q.1))⟩)
    rw [← this]; rfl
  by_cases b7 : what = 7
  · subst b7
    have h1 := cntN_c (p := fun k => 0 ≤ ps_i μ (57 + 2 * k) 0) (q := thereP μ 83 7) 4 (fun k hk => by
      rw [(h.tx hk).1]
      exact ⟨fun q => Or.inr (Or.inl ⟨by decide, rfl, hk, Int32.not_lt.mpr q⟩), fun q => q.elim (fun q => absurd q.1 (by decide)) (fun q => q.elim (fun q => Int32.not_lt.mp q.2.2.2) (fun q => absurd rfl q.2.1))⟩)
    have h2 : cntN (thereP μ 83 7) 6 = cntN (thereP μ 83 7) 4 := by
      have n4 : ¬ thereP μ 83 7 4 := fun q => q.elim (fun q => absurd q.1 (by decide)) (fun q => q.elim (fun q => absurd q.2.2.1 (by omega)) (fun q => absurd rfl q.2.1))
      have n5 : ¬ thereP μ 83 7 5 := fun q => q.elim (fun q => absurd q.1 (by decide)) (fun q => q.elim (fun q => absurd q.2.2.1 (by omega)) (fun q => absurd rfl q.2.1))
      show cntN (thereP μ 83 7) 4 + (if thereP μ 83 7 4 then 1 else 0) + (if thereP μ 83 7 5 then 1 else 0) = _
      rw [if_neg n4, if_neg n5, Int32.add_zero, Int32.add_zero]
    rw [h2, ← h1]; rfl
  by_cases b8 : what = 8
  · subst b8
    have h1 := cntN_c (p := fun k => ¬ ps_i μ (65 + 6 * k) 1 = 0) (q := thereP μ 83 8) 3 (fun k hk => by
      rcases h.kp hk with z | z
      · exact ⟨fun q => absurd z.2 q, fun q => q.elim (fun q => absurd q.1 (by decide)) (fun q => q.elim (fun q => absurd q.2.1 (by decide)) (fun q => absurd (show ps_i μ (83 + 1) (458 * (1 + k)) < 0 from by rw [show ps_i μ (83 + 1) (458 * (1 + k)) = -1 from z.1]; decide) q.2.2.2))⟩
      · exact ⟨fun _ => Or.inr (Or.inr ⟨by decide, by decide, hk, z.2.1⟩), fun _ q => absurd (z.1.symm.trans q) (by decide)⟩)
    have h2 : cntN (thereP μ 83 8) 6 = cntN (thereP μ 83 8) 3 := by
      have nn : ∀ j, 3 ≤ j → ¬ thereP μ 83 8 j := fun j hj q => q.elim (fun q => absurd q.1 (by decide)) (fun q => q.elim (fun q => absurd q.2.1 (by decide)) (fun q => absurd q.2.2.1 (by omega)))
      show cntN (thereP μ 83 8) 3 + (if thereP μ 83 8 3 then 1 else 0) + (if thereP μ 83 8 4 then 1 else 0) + (if thereP μ 83 8 5 then 1 else 0) = _
      rw [if_neg (nn 3 (by omega)), if_neg (nn 4 (by omega)), if_neg (nn 5 (by omega)), Int32.add_zero, Int32.add_zero, Int32.add_zero]
    rw [h2, ← h1]; rfl
  obtain ⟨k, h1, h2, rfl⟩ := rng_nat (lo := 0) (hi := 8) (by omega) hw (by omega)
  rcases (show k = 0 ∨ k = 1 ∨ k = 2 ∨ k = 3 ∨ k = 4 ∨ k = 5 ∨ k = 6 ∨ k = 7 ∨ k = 8 by omega) with rfl | rfl | rfl | rfl | rfl | rfl | rfl | rfl | rfl
  · rfl
  · rfl
  · rfl
  · rfl
  · rfl
  · rfl
  · exact absurd rfl b6
  · exact absurd rfl b7
  · exact absurd rfl b8
theorem op_count (h : Inv W μ) (what : Int32) : opI (ps_XX L xs) e j_X7_count j_X8_count [.int what] W μ := by
  obtain ⟨g, σ, τ, s1, s2, s3, s4, I1, I2, E⟩ := h.sh
  have c := kq_count (L := L) (xs := xs) (d := e + 16) h.1 I1.1 what
  have m := mq_count (L := L) (xs := xs) (d := e + 16) h.2.1 I2.1 what
  rw [s1] at c
  rw [s2] at m
  by_cases b : 0 ≤ what ∧ what ≤ 8
  · rw [if_pos ⟨Int32.not_lt.mpr b.1, b.2⟩] at c
    rw [if_pos b, ← countCM h E b] at m
    exact ⟨_, _, _, c, m, (by first | exact h.2.1.1 | exact hm.1 | exact hi.2.1.1 | exact hi1.2.1.1 | exact (hi1.2.1.of fν.2.2.1 fν.2.2.2.1).1 | (rw [hs.2.2.1]; exact h.2.1.1)), h⟩
  · rw [if_neg (fun q => b ⟨Int32.not_lt.mp q.1, q.2⟩)] at c
    rw [if_neg b] at m
    exact ⟨_, _, _, c, m, (by first | exact h.2.1.1 | exact hm.1 | exact hi.2.1.1 | exact hi1.2.1.1 | exact (hi1.2.1.of fν.2.2.1 fν.2.2.2.1).1 | (rw [hs.2.2.1]; exact h.2.1.1)), h⟩
theorem digCM (h : Inv W μ) {g : Nat} {σ τ : Nat → Int32} (I1 : shI g σ) (E : eqS g σ τ) : digC μ g σ = digM μ 83 g τ := by
  unfold digC digM
  have w9 : ∀ k, k < 9 → 0 ≤ nI k ∧ nI k ≤ 8 := fun k hk => ⟨nI_pos' (by omega), nI_le (a := k) (b := 8) (by omega) (by omega)⟩
  have d1 : dgF (fun k => countC μ g σ (nI k)) 9 17 = dgF (fun k => countM μ 83 g τ (nI k)) 9 17 := dg_c 9 (fun k hk => countCM h E (w9 k hk)) 17
  have d2 : ∀ z, dgF (fun k => ofShipF σ (nI k)) 9 z = dgF (fun k => ofShipF τ (nI k)) 9 z := dg_c 9 (fun k hk => E.ofShip _)
  have d3 : ∀ z, dgF (fun k => ofGangF σ (k / 5) (nI (k % 5))) (5 * g) z = dgF (fun k => ofGangF τ (k / 5) (nI (k % 5))) (5 * g) z := dg_c (5 * g) (fun k hk => E.ofGang (by omega) _)
  have d4 : ∀ z, dgF (fun k => if ps_i μ (65 + 6 * k) 1 = 0 then -1 else ps_i μ (65 + 6 * k + 1) 5) 3 z = dgF (fun k => ps_i μ (83 + 1) (458 * (k + 1))) 3 z := dg_c 3 (fun k hk => by
    rw [Nat.add_comm k 1]
    rcases h.kp hk with z | z
    · rw [if_pos z.2]; exact z.1.symm
    · rw [if_neg (by rw [z.1]; decide)]; exact z.2.2)
  rw [rwF_c 4 (fun k hk => ⟨(h.tx hk).1, (h.tx hk).2.2⟩), rwF_c 6 (fun k hk => ⟨(h.rw hk).1, (h.rw hk).2.2⟩)]
  refine congrArg _ (congrArg _ ?_)
  rw [d4, d1, d2, d3, E.1 8 (by omega)]
  refine congrArg _ ?_
  have e8 : τ 8 = nI g := (E.1 8 (by omega)).symm.trans I1.1.2.1
  rw [e8]
  have hg := I1.1.1
  by_cases b : g = 0
  · subst b
    rw [if_pos n00, if_pos n01, dg_50]
  · rw [if_neg (fun q => b (by have := congrArg Int32.toNatClampNeg q; rw [nI_clamp (by omega)] at this; exact this)), if_neg (show ¬ nI g ≤ 0 from nI_ge (a := 0) (b := g) (by omega) (by omega))]
theorem op_digest (h : Inv W μ) : opL (ps_XX L xs) e j_X7_digest j_X8_digest [] W μ := by
  obtain ⟨g, σ, τ, s1, s2, s3, s4, I1, I2, E⟩ := h.sh
  have c := kq_digest (L := L) (xs := xs) (d := e + 15) h.1 I1.1 I1.2.2.1 (fun k hk => by rw [(h.rw hk).1]; exact (h.rw hk).2.1) (fun k hk => by rw [(h.tx hk).1]; exact (h.tx hk).2.1)
  have m := mq_digest (L := L) (xs := xs) (d := e + 14) h.2.1 I2.1 I2.2.2.1 (fun k hk => (h.rw hk).2.1) (fun k hk => (h.tx hk).2.1)
  rw [s1] at c
  rw [s2, ← digCM h I1 E] at m
  exact ⟨_, _, _, c, m, (by first | exact h.2.1.1 | exact hm.1 | exact hi.2.1.1 | exact hi1.2.1.1 | exact (hi1.2.1.of fν.2.2.1 fν.2.2.2.1).1 | (rw [hs.2.2.1]; exact h.2.1.1)), h⟩
theorem op_fault (h : Inv W μ) (r : Int32) : opI (ps_XX L xs) e j_X7_fault j_X8_fault [.int r] W μ := by
  by_cases b1 : ¬ textP r
  · obtain ⟨p, s, c⟩ := kq_fault (L := L) (xs := xs) (d := e + 13) h.1 (r := r) (k := 0) (fun q => absurd q b1) (E := (ps_i μ (57 + 2 * 0) 0).toNatClampNeg) (fun h0 => sz_S (by omega) (by rw [(h.tx (k := 0) (by omega)).1]; exact (h.tx (k := 0) (by omega)).2.1) h0)
    obtain ⟨p', s', s2, m⟩ := mq_fault (L := L) (xs := xs) (d := e + 15) h.2.1 (r := r) (k := 0) (fun q => absurd q b1) (E := (ps_i μ (83 + 5) 0).toNatClampNeg) (fun h0 => sz_S (by omega) (h.tx (k := 0) (by omega)).2.1 h0)
    rw [if_pos b1] at c m
    exact ⟨_, _, _, c, m, (by first | exact h.2.1.1 | exact hm.1 | exact hi.2.1.1 | exact hi1.2.1.1 | exact (hi1.2.1.of fν.2.2.1 fν.2.2.2.1).1 | (rw [hs.2.2.1]; exact h.2.1.1)), h⟩
  have hr := text_k (Classical.not_not.mp b1)
  have hz := h.tx hr.2
  generalize r.toNatClampNeg = k at hr hz
  have hsz := hz.2.1
  rw [← hz.1] at hsz
  obtain ⟨p, s, c⟩ := kq_fault (L := L) (xs := xs) (d := e + 13) h.1 (r := r) (k := k) (fun _ => hr) (E := (ps_i μ (57 + 2 * k) 0).toNatClampNeg) (fun h0 => sz_S (by omega) hsz h0)
  have m := fun (ν : ps_M) (hm : isMd ν 83) (ez : ps_i ν (83 + 5) k = ps_i μ (57 + 2 * k) 0) => mq_fault (L := L) (xs := xs) (d := e + 15) hm (r := r) (k := k) (fun _ => hr) (E := (ps_i μ (57 + 2 * k) 0).toNatClampNeg) (fun h0 => by rw [ez] at h0 ⊢; exact sz_S (by omega) hsz h0)
  rw [if_neg b1] at c
  by_cases b2 : ¬ 0 ≤ ps_i μ (57 + 2 * k) 0
  · rw [if_pos b2] at c
    have ez : ps_i (FC μ 1) (83 + 5) k = ps_i μ (57 + 2 * k) 0 := by rw [FC_hi (by omega)]; exact hz.1.symm
    obtain ⟨_, _, _, m⟩ := m (FC μ 1) (h.2.1.of rfl rfl) ez
    rw [ez, if_neg b1, if_pos b2] at m
    exact ⟨_, _, _, c, m, (by first | exact h.2.1.1 | exact hm.1 | exact hi.2.1.1 | exact hi1.2.1.1 | exact (hi1.2.1.of fν.2.2.1 fν.2.2.2.1).1 | (rw [hs.2.2.1]; exact h.2.1.1)), FCM h (by omega)⟩
  rw [if_neg b2] at c
  have hs : ScE μ (RC (ps_sR μ 14 1 (some (57 + 2 * k))) p s) := RC_scr
  generalize hν : RC (ps_sR μ 14 1 (some (57 + 2 * k))) p s = ν at c hs
  have ez : ps_i ν (83 + 5) k = ps_i μ (57 + 2 * k) 0 := by
    rw [hs.2.2.2.2.2 _ _ (by unfold scr; omega)]; exact hz.1.symm
  obtain ⟨p', s', s2, m⟩ := m ν (h.sc hs).2.1 ez
  have ec : chF0 (fun x => ps_i ν (83 + 6) (60 * k + x)) (ps_i μ (57 + 2 * k) 0).toNatClampNeg = chF0 (ps_i μ (57 + 2 * k + 1)) (ps_i μ (57 + 2 * k) 0).toNatClampNeg := chF0_c (fun i hi => by
    rw [hs.2.2.2.2.2 _ _ (by unfold scr; omega)]
    exact (hz.2.2 i (by rw [← hz.1]; exact hi)).symm)
  rw [ez, if_neg b1, if_neg b2, ec] at m
  exact ⟨_, _, _, c, m, (by first | exact h.2.1.1 | exact hm.1 | exact hi.2.1.1 | exact hi1.2.1.1 | exact (hi1.2.1.of fν.2.2.1 fν.2.2.2.1).1 | (rw [hs.2.2.1]; exact h.2.1.1)), (h.sc hs).sc RD_scr⟩
end OPS4
