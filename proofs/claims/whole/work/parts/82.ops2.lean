-- ===== calls answered alike: rows and texts =====
theorem neg1_cl : (-1 : Int32).toNatClampNeg = 0 := rfl
section OPS2
variable {L : Nat} {xs : Nat → Int32} {e W : Nat} {μ : ps_M}
theorem inv_row (h : Inv W μ) {k N : Nat} (hk : k < 6) (hN : N ≤ 40) : Inv W (MR (RN μ (45 + 2 * k) N 0) 83 k (nI N)) := by
  obtain ⟨g, h1, h2, h3, h4, h5⟩ := h.2.2.2.2.1
  have q : ∀ a i, ¬ (a = 45 + 2 * k ∧ i = 0 ∨ a = 45 + 2 * k + 1 ∨ a = 86 ∧ i = k ∨ a = 87 ∧ 40 * k ≤ i ∧ i < 40 * k + 40) → ps_i (MR (RN μ (45 + 2 * k) N 0) 83 k (nI N)) a i = ps_i μ a i := fun a i z => by
    rw [MR_at, if_neg (by omega), if_neg (by omega), RN_at, if_neg (by omega), if_neg (by omega)]
  refine Inv.mk (g := g) h rfl rfl rfl rfl ⟨?_, h2.c (fun a i _ _ => q _ _ (by omega)) (fun a i _ _ => q _ _ (by omega)), h3.c (fun a i _ _ => q _ _ (by omega)) (fun i => q _ _ (by omega)) (fun i hi => q _ _ (by omega)) (fun i _ _ => q _ _ (by omega)) (fun i => q _ _ (by omega)), h4.c (fun a i _ _ => q _ _ (by omega)) (fun i hi => q _ _ (by omega)) (fun i _ _ => q _ _ (by omega)) (fun i => q _ _ (by omega)), h5.c (fun i _ => q _ _ (by omega)) (fun i => q _ _ (by omega)) (fun i _ => q _ _ (by omega)) (fun i => q _ _ (by omega))⟩ h.2.2.2.2.2.1 h.2.2.2.2.2.2
  · intro x hx
    have hh := h1 x hx
    by_cases z : x = k
    · subst z
      have e1 : ps_i (MR (RN μ (45 + 2 * x) N 0) 83 x (nI N)) (45 + 2 * x) 0 = nI N := by rw [MR_at, if_neg (by omega), if_neg (by omega), RN_at, if_neg (by omega), if_pos ⟨rfl, rfl⟩]
      have e2 : ps_i (MR (RN μ (45 + 2 * x) N 0) 83 x (nI N)) 86 x = nI N := by rw [MR_at, if_neg (by omega), if_pos ⟨rfl, rfl⟩]
      rw [e1, e2, nI_clamp (by omega)]
      refine ⟨rfl, Or.inr ⟨N, hN, rfl⟩, fun i hi => ?_⟩
      rw [MR_at, if_neg (by omega), if_neg (by omega), RN_at, if_pos ⟨rfl, hi⟩, MR_at, if_pos ⟨rfl, by omega, by omega⟩]
    · rw [q _ _ (by omega), q _ _ (by omega)]
      refine ⟨hh.1, hh.2.1, fun i hi => ?_⟩
      have hb := sz_bd (by omega) hh.2.1
      rw [q _ _ (by omega), q _ _ (by omega)]
      exact hh.2.2 i hi
theorem inv_text (h : Inv W μ) {k N : Nat} (hk : k < 4) (hN : N ≤ 60) : Inv W (MT (RN μ (57 + 2 * k) N 32) 83 k (nI N)) := by
  obtain ⟨g, h1, h2, h3, h4, h5⟩ := h.2.2.2.2.1
  have q : ∀ a i, ¬ (a = 57 + 2 * k ∧ i = 0 ∨ a = 57 + 2 * k + 1 ∨ a = 88 ∧ i = k ∨ a = 89 ∧ 60 * k ≤ i ∧ i < 60 * k + 60) → ps_i (MT (RN μ (57 + 2 * k) N 32) 83 k (nI N)) a i = ps_i μ a i := fun a i z => by
    rw [MT_at, if_neg (by omega), if_neg (by omega), RN_at, if_neg (by omega), if_neg (by omega)]
  refine Inv.mk (g := g) h rfl rfl rfl rfl ⟨h1.c (fun a i _ _ => q _ _ (by omega)) (fun a i _ _ => q _ _ (by omega)), ?_, h3.c (fun a i _ _ => q _ _ (by omega)) (fun i => q _ _ (by omega)) (fun i hi => q _ _ (by omega)) (fun i _ _ => q _ _ (by omega)) (fun i => q _ _ (by omega)), h4.c (fun a i _ _ => q _ _ (by omega)) (fun i hi => q _ _ (by omega)) (fun i _ _ => q _ _ (by omega)) (fun i => q _ _ (by omega)), h5.c (fun i _ => q _ _ (by omega)) (fun i => q _ _ (by omega)) (fun i _ => q _ _ (by omega)) (fun i => q _ _ (by omega))⟩ h.2.2.2.2.2.1 h.2.2.2.2.2.2
  · intro x hx
    have hh := h2 x hx
    by_cases z : x = k
    · subst z
      have e1 : ps_i (MT (RN μ (57 + 2 * x) N 32) 83 x (nI N)) (57 + 2 * x) 0 = nI N := by rw [MT_at, if_neg (by omega), if_neg (by omega), RN_at, if_neg (by omega), if_pos ⟨rfl, rfl⟩]
      have e2 : ps_i (MT (RN μ (57 + 2 * x) N 32) 83 x (nI N)) 88 x = nI N := by rw [MT_at, if_neg (by omega), if_pos ⟨rfl, rfl⟩]
      rw [e1, e2, nI_clamp (by omega)]
      refine ⟨rfl, Or.inr ⟨N, hN, rfl⟩, fun i hi => ?_⟩
      rw [MT_at, if_neg (by omega), if_neg (by omega), RN_at, if_pos ⟨rfl, hi⟩, MT_at, if_pos ⟨rfl, by omega, by omega⟩]
    · rw [q _ _ (by omega), q _ _ (by omega)]
      refine ⟨hh.1, hh.2.1, fun i hi => ?_⟩
      have hb := sz_bd (by omega) hh.2.1
      rw [q _ _ (by omega), q _ _ (by omega)]
      exact hh.2.2 i hi
theorem op_row (h : Inv W μ) (r n : Int32) : opI (ps_XX L xs) e j_X7_row j_X8_row [.int r, .int n] W μ := by
  have c := kq_row (L := L) (xs := xs) (d := e + 16) h.1 (r := r) (k := r.toNatClampNeg) row_k (n := n) (N := n.toNatClampNeg) (fun h0 h1 => n_k (M := 40) (by omega) h0 h1)
  have m := fun (ν : ps_M) (hm : isMd ν 83) => mq_row (L := L) (xs := xs) (d := e + 17) hm (r := r) (k := r.toNatClampNeg) row_k n
  by_cases b1 : ¬ rowP r ∨ ¬ n ≤ 40
  · rw [if_pos b1] at c
    have m := m μ h.2.1
    rw [if_pos b1] at m
    exact ⟨_, _, _, c, m, (by first | exact h.2.1.1 | exact hm.1 | exact hi.2.1.1 | exact hi1.2.1.1 | exact (hi1.2.1.of fν.2.2.1 fν.2.2.2.1).1 | (rw [hs.2.2.1]; exact h.2.1.1)), h⟩
  rw [if_neg b1] at c
  by_cases b2 : ¬ 0 ≤ n
  · rw [if_pos b2] at c
    have m := m (FC μ 5) (h.2.1.of rfl rfl)
    rw [if_neg b1, if_pos b2] at m
    exact ⟨_, _, _, c, m, (by first | exact h.2.1.1 | exact hm.1 | exact hi.2.1.1 | exact hi1.2.1.1 | exact (hi1.2.1.of fν.2.2.1 fν.2.2.2.1).1 | (rw [hs.2.2.1]; exact h.2.1.1)), FCM h (by omega)⟩
  rw [if_neg b2] at c
  have hr := row_k (Classical.not_not.mp (fun q => b1 (Or.inl q)))
  have hn := n_k (M := 40) (by omega) (Classical.not_not.mp b2) (Classical.not_not.mp (fun q => b1 (Or.inr q)))
  have m := m (RN μ (45 + 2 * r.toNatClampNeg) n.toNatClampNeg 0) (h.2.1.of rfl rfl)
  rw [if_neg b1, if_neg b2] at m
  have z := inv_row h hr.2 hn.2
  rw [← hn.1] at z
  exact ⟨_, _, _, c, m, (by first | exact h.2.1.1 | exact hm.1 | exact hi.2.1.1 | exact hi1.2.1.1 | exact (hi1.2.1.of fν.2.2.1 fν.2.2.2.1).1 | (rw [hs.2.2.1]; exact h.2.1.1)), z⟩
theorem op_text (h : Inv W μ) (r n : Int32) : opI (ps_XX L xs) e j_X7_text j_X8_text [.int r, .int n] W μ := by
  have c := kq_text (L := L) (xs := xs) (d := e + 16) h.1 (r := r) (k := r.toNatClampNeg) text_k (n := n) (N := n.toNatClampNeg) (fun h0 h1 => n_k (M := 60) (by omega) h0 h1)
  have m := fun (ν : ps_M) (hm : isMd ν 83) => mq_text (L := L) (xs := xs) (d := e + 17) hm (r := r) (k := r.toNatClampNeg) text_k n
  by_cases b1 : ¬ textP r ∨ ¬ n ≤ 60
  · rw [if_pos b1] at c
    have m := m μ h.2.1
    rw [if_pos b1] at m
    exact ⟨_, _, _, c, m, (by first | exact h.2.1.1 | exact hm.1 | exact hi.2.1.1 | exact hi1.2.1.1 | exact (hi1.2.1.of fν.2.2.1 fν.2.2.2.1).1 | (rw [hs.2.2.1]; exact h.2.1.1)), h⟩
  rw [if_neg b1] at c
  by_cases b2 : ¬ 0 ≤ n
  · rw [if_pos b2] at c
    have m := m (FC μ 5) (h.2.1.of rfl rfl)
    rw [if_neg b1, if_pos b2] at m
    exact ⟨_, _, _, c, m, (by first | exact h.2.1.1 | exact hm.1 | exact hi.2.1.1 | exact hi1.2.1.1 | exact (hi1.2.1.of fν.2.2.1 fν.2.2.2.1).1 | (rw [hs.2.2.1]; exact h.2.1.1)), FCM h (by omega)⟩
  rw [if_neg b2] at c
  have hr := text_k (Classical.not_not.mp (fun q => b1 (Or.inl q)))
  have hn := n_k (M := 60) (by omega) (Classical.not_not.mp b2) (Classical.not_not.mp (fun q => b1 (Or.inr q)))
  have m := m (RN μ (57 + 2 * r.toNatClampNeg) n.toNatClampNeg 32) (h.2.1.of rfl rfl)
  rw [if_neg b1, if_neg b2] at m
  have z := inv_text h hr.2 hn.2
  rw [← hn.1] at z
  exact ⟨_, _, _, c, m, (by first | exact h.2.1.1 | exact hm.1 | exact hi.2.1.1 | exact hi1.2.1.1 | exact (hi1.2.1.of fν.2.2.1 fν.2.2.2.1).1 | (rw [hs.2.2.1]; exact h.2.1.1)), z⟩
theorem inv_lay (h : Inv W μ) {k x : Nat} (hk : k < 6) (hx : x < (ps_i μ 86 k).toNatClampNeg) (v : Int32) : Inv W (ps_sI (ps_sI (ps_sI (ps_sI μ 0 11 (ps_i μ (45 + 2 * k + 1) x)) (45 + 2 * k + 1) x v) (83 + 4) (40 * k + x) v) 83 9 (ps_i μ 87 (40 * k + x))) := by
  obtain ⟨g, h1, h2, h3, h4, h5⟩ := h.2.2.2.2.1
  have q : ∀ a i, ¬ (a = 0 ∧ i = 11 ∨ a = 83 ∧ i = 9 ∨ a = 45 + 2 * k + 1 ∧ i = x ∨ a = 87 ∧ i = 40 * k + x) → ps_i (ps_sI (ps_sI (ps_sI (ps_sI μ 0 11 (ps_i μ (45 + 2 * k + 1) x)) (45 + 2 * k + 1) x v) (83 + 4) (40 * k + x) v) 83 9 (ps_i μ 87 (40 * k + x))) a i = ps_i μ a i := fun a i z => by
    rw [sI_off (by omega), sI_off (by omega), sI_off (by omega), sI_off (by omega)]
  refine Inv.mk (g := g) h rfl rfl rfl rfl ⟨?_, h2.c (fun a i _ _ => q _ _ (by omega)) (fun a i _ _ => q _ _ (by omega)), h3.c (fun a i _ _ => q _ _ (by omega)) (fun i => q _ _ (by omega)) (fun i hi => q _ _ (by omega)) (fun i _ _ => q _ _ (by omega)) (fun i => q _ _ (by omega)), h4.c (fun a i _ _ => q _ _ (by omega)) (fun i hi => q _ _ (by omega)) (fun i _ _ => q _ _ (by omega)) (fun i => q _ _ (by omega)), ?_⟩ h.2.2.2.2.2.1 h.2.2.2.2.2.2
  · intro y hy
    have hh := h1 y hy
    have hb := sz_bd (by omega) hh.2.1
    have hb2 := sz_bd (by omega) (h1 k hk).2.1
    rw [q _ _ (by omega), q _ _ (by omega)]
    refine ⟨hh.1, hh.2.1, fun i hi => ?_⟩
    by_cases z : y = k ∧ i = x
    · rw [z.1, z.2, sI_off (by omega), sI_off (by omega), sI_at, sI_off (by omega), show (87 : Nat) = 83 + 4 from rfl, sI_at]
    · rw [q _ _ (by omega), q _ _ (by omega)]
      exact hh.2.2 i hi
  · refine ⟨?_, ?_, fun f hf => ?_⟩
    · rw [q _ _ (by omega), q _ _ (by omega)]; exact h5.1
    · rw [sI_off (by omega), sI_off (by omega), sI_off (by omega), sI_at, sI_at]; exact (h1 k hk).2.2 x hx
    · rw [q _ _ (by omega), q _ _ (by omega)]; exact h5.2.2 f hf
theorem inv_put (h : Inv W μ) {k x : Nat} (hk : k < 4) (hx : x < (ps_i μ 88 k).toNatClampNeg) (v : Int32) : Inv W (ps_sI (ps_sI μ (57 + 2 * k + 1) x v) (83 + 6) (60 * k + x) v) := by
  obtain ⟨g, h1, h2, h3, h4, h5⟩ := h.2.2.2.2.1
  have q : ∀ a i, ¬ (a = 57 + 2 * k + 1 ∧ i = x ∨ a = 89 ∧ i = 60 * k + x) → ps_i (ps_sI (ps_sI μ (57 + 2 * k + 1) x v) (83 + 6) (60 * k + x) v) a i = ps_i μ a i := fun a i z => by
    rw [sI_off (by omega), sI_off (by omega)]
  refine Inv.mk (g := g) h rfl rfl rfl rfl ⟨h1.c (fun a i _ _ => q _ _ (by omega)) (fun a i _ _ => q _ _ (by omega)), ?_, h3.c (fun a i _ _ => q _ _ (by omega)) (fun i => q _ _ (by omega)) (fun i hi => q _ _ (by omega)) (fun i _ _ => q _ _ (by omega)) (fun i => q _ _ (by omega)), h4.c (fun a i _ _ => q _ _ (by omega)) (fun i hi => q _ _ (by omega)) (fun i _ _ => q _ _ (by omega)) (fun i => q _ _ (by omega)), h5.c (fun i _ => q _ _ (by omega)) (fun i => q _ _ (by omega)) (fun i _ => q _ _ (by omega)) (fun i => q _ _ (by omega))⟩ h.2.2.2.2.2.1 h.2.2.2.2.2.2
  · intro y hy
    have hh := h2 y hy
    have hb := sz_bd (by omega) hh.2.1
    have hb2 := sz_bd (by omega) (h2 k hk).2.1
    rw [q _ _ (by omega), q _ _ (by omega)]
    refine ⟨hh.1, hh.2.1, fun i hi => ?_⟩
    by_cases z : y = k ∧ i = x
    · rw [z.1, z.2, sI_off (by omega), sI_at, show (89 : Nat) = 83 + 6 from rfl, sI_at]
    · rw [q _ _ (by omega), q _ _ (by omega)]
      exact hh.2.2 i hi
theorem inv_tear (h : Inv W μ) {k : Nat} (hk : k < 6) : Inv W (ps_sI (ps_sI μ (45 + 2 * k) 0 (-1)) (83 + 3) k (-1)) := by
  obtain ⟨g, h1, h2, h3, h4, h5⟩ := h.2.2.2.2.1
  have q : ∀ a i, ¬ (a = 45 + 2 * k ∧ i = 0 ∨ a = 86 ∧ i = k) → ps_i (ps_sI (ps_sI μ (45 + 2 * k) 0 (-1)) (83 + 3) k (-1)) a i = ps_i μ a i := fun a i z => by
    rw [sI_off (by omega), sI_off (by omega)]
  refine Inv.mk (g := g) h rfl rfl rfl rfl ⟨?_, h2.c (fun a i _ _ => q _ _ (by omega)) (fun a i _ _ => q _ _ (by omega)), h3.c (fun a i _ _ => q _ _ (by omega)) (fun i => q _ _ (by omega)) (fun i hi => q _ _ (by omega)) (fun i _ _ => q _ _ (by omega)) (fun i => q _ _ (by omega)), h4.c (fun a i _ _ => q _ _ (by omega)) (fun i hi => q _ _ (by omega)) (fun i _ _ => q _ _ (by omega)) (fun i => q _ _ (by omega)), h5.c (fun i _ => q _ _ (by omega)) (fun i => q _ _ (by omega)) (fun i _ => q _ _ (by omega)) (fun i => q _ _ (by omega))⟩ h.2.2.2.2.2.1 h.2.2.2.2.2.2
  · intro y hy
    by_cases z : y = k
    · subst z
      have e2 : ps_i (ps_sI (ps_sI μ (45 + 2 * y) 0 (-1)) (83 + 3) y (-1)) 86 y = -1 := sI_at
      rw [e2, sI_off (by omega), sI_at]
      exact ⟨rfl, Or.inl rfl, fun i hi => absurd hi (by rw [neg1_cl]; omega)⟩
    · rw [q _ _ (by omega), q _ _ (by omega)]
      refine ⟨(h1 y hy).1, (h1 y hy).2.1, fun i hi => ?_⟩
      rw [q _ _ (by omega), q _ _ (by omega)]
      exact (h1 y hy).2.2 i hi
theorem op_lay (h : Inv W μ) (r i : Int32) (v : Int32) : opI (ps_XX L xs) e j_X7_lay j_X8_lay [.int r, .int i, .int v] W μ := by
  by_cases b1 : rowP r
  · have hr := row_k b1
    have hz := h.rw hr.2
    generalize hk : r.toNatClampNeg = k at hr hz
    have hsz := hz.2.1
    rw [← hz.1] at hsz
    have c := kq_lay (L := L) (xs := xs) (d := e + 16) h.1 (r := r) (k := k) (fun _ => hr) (i := i) (i' := i.toNatClampNeg) (fun q => ⟨(has_k (by omega) hsz q).1, (has_k (by omega) hsz q).2.2⟩) v
    rw [if_neg (Classical.not_not.mpr b1)] at c
    have m := fun (ν : ps_M) (hm : isMd ν 83) (ez : ps_i ν (83 + 3) k = ps_i μ (45 + 2 * k) 0) => mq_lay (L := L) (xs := xs) (d := e + 16) hm (r := r) (k := k) (fun _ => hr) (i := i) (i' := i.toNatClampNeg) (fun q => by rw [ez] at q; exact in_k (by omega) hsz q) v
    by_cases b2 : ¬ 0 ≤ ps_i μ (45 + 2 * k) 0
    · rw [if_pos b2] at c
      have ez : ps_i (FC μ 1) (83 + 3) k = ps_i μ (45 + 2 * k) 0 := by unfold FC; rw [sI_off (by omega), sI_off (by omega)]; exact hz.1.symm
      have m := m (FC μ 1) (h.2.1.of rfl rfl) ez
      rw [ez, if_neg (Classical.not_not.mpr b1), if_pos b2] at m
      exact ⟨_, _, _, c, m, (by first | exact h.2.1.1 | exact hm.1 | exact hi.2.1.1 | exact hi1.2.1.1 | exact (hi1.2.1.of fν.2.2.1 fν.2.2.2.1).1 | (rw [hs.2.2.1]; exact h.2.1.1)), FCM h (by omega)⟩
    rw [if_neg b2] at c
    have b2 := Classical.not_not.mp b2
    by_cases b3 : ¬ hasZ (ps_i μ (45 + 2 * k) 0) i
    · rw [if_pos b3] at c
      have ez : ps_i (FC μ 2) (83 + 3) k = ps_i μ (45 + 2 * k) 0 := by unfold FC; rw [sI_off (by omega), sI_off (by omega)]; exact hz.1.symm
      have m := m (FC μ 2) (h.2.1.of rfl rfl) ez
      rw [ez, if_neg (Classical.not_not.mpr b1), if_neg (Classical.not_not.mpr b2), if_pos (fun q => b3 ((has_eq (by omega) hsz b2).mp q))] at m
      exact ⟨_, _, _, c, m, (by first | exact h.2.1.1 | exact hm.1 | exact hi.2.1.1 | exact hi1.2.1.1 | exact (hi1.2.1.of fν.2.2.1 fν.2.2.2.1).1 | (rw [hs.2.2.1]; exact h.2.1.1)), FCM h (by omega)⟩
    rw [if_neg b3] at c
    have b3 := Classical.not_not.mp b3
    have hx : i.toNatClampNeg < (ps_i μ 86 k).toNatClampNeg := by rw [← hz.1]; exact (has_k (by omega) hsz b3).2.1
    have hb := sz_bd (by omega) hz.2.1
    have ez : ps_i (ps_sI (ps_sI μ 0 11 (ps_i μ (45 + 2 * k + 1) i.toNatClampNeg)) (45 + 2 * k + 1) i.toNatClampNeg v) (83 + 3) k = ps_i μ (45 + 2 * k) 0 := by rw [sI_off (by omega), sI_off (by omega)]; exact hz.1.symm
    have ev : ps_i (ps_sI (ps_sI μ 0 11 (ps_i μ (45 + 2 * k + 1) i.toNatClampNeg)) (45 + 2 * k + 1) i.toNatClampNeg v) (83 + 4) (40 * k + i.toNatClampNeg) = ps_i μ 87 (40 * k + i.toNatClampNeg) := by rw [sI_off (by omega), sI_off (by omega)]
    have m := m (ps_sI (ps_sI μ 0 11 (ps_i μ (45 + 2 * k + 1) i.toNatClampNeg)) (45 + 2 * k + 1) i.toNatClampNeg v) (h.2.1.of rfl rfl) ez
    rw [ez, ev, if_neg (Classical.not_not.mpr b1), if_neg (Classical.not_not.mpr b2), if_neg (Classical.not_not.mpr ((has_eq (by omega) hsz b2).mpr b3))] at m
    exact ⟨_, _, _, c, m, (by first | exact h.2.1.1 | exact hm.1 | exact hi.2.1.1 | exact hi1.2.1.1 | exact (hi1.2.1.of fν.2.2.1 fν.2.2.2.1).1 | (rw [hs.2.2.1]; exact h.2.1.1)), inv_lay h hr.2 hx v⟩
  · have hz0 := h.rw (k := 0) (by omega)
    have hsz := hz0.2.1
    have hsz2 := hsz
    rw [← hz0.1] at hsz
    have c := kq_lay (L := L) (xs := xs) (d := e + 16) h.1 (r := r) (k := 0) (fun q => absurd q b1) (i := i) (i' := i.toNatClampNeg) (fun q => ⟨(has_k (by omega) hsz q).1, (has_k (by omega) hsz q).2.2⟩) v
    rw [if_pos b1] at c
    have m := mq_lay (L := L) (xs := xs) (d := e + 16) h.2.1 (r := r) (k := 0) (fun q => absurd q b1) (i := i) (i' := i.toNatClampNeg) (fun q => in_k (by omega) hsz2 q) v
    rw [if_pos b1] at m
    exact ⟨_, _, _, c, m, (by first | exact h.2.1.1 | exact hm.1 | exact hi.2.1.1 | exact hi1.2.1.1 | exact (hi1.2.1.of fν.2.2.1 fν.2.2.2.1).1 | (rw [hs.2.2.1]; exact h.2.1.1)), h⟩
theorem op_at (h : Inv W μ) (r i : Int32) : opI (ps_XX L xs) e j_X7_at j_X8_at [.int r, .int i] W μ := by
  by_cases b1 : rowP r
  · have hr := row_k b1
    have hz := h.rw hr.2
    generalize hk : r.toNatClampNeg = k at hr hz
    have hsz := hz.2.1
    rw [← hz.1] at hsz
    have c := kq_at (L := L) (xs := xs) (d := e + 16) h.1 (r := r) (k := k) (fun _ => hr) (i := i) (i' := i.toNatClampNeg) (fun q => ⟨(has_k (by omega) hsz q).1, (has_k (by omega) hsz q).2.2⟩)
    rw [if_neg (Classical.not_not.mpr b1)] at c
    have m := fun (ν : ps_M) (hm : isMd ν 83) (ez : ps_i ν (83 + 3) k = ps_i μ (45 + 2 * k) 0) => mq_at (L := L) (xs := xs) (d := e + 16) hm (r := r) (k := k) (fun _ => hr) (i := i) (i' := i.toNatClampNeg) (fun q => by rw [ez] at q; exact in_k (by omega) hsz q)
    by_cases b2 : ¬ 0 ≤ ps_i μ (45 + 2 * k) 0
    · rw [if_pos b2] at c
      have ez : ps_i (FC μ 1) (83 + 3) k = ps_i μ (45 + 2 * k) 0 := by unfold FC; rw [sI_off (by omega), sI_off (by omega)]; exact hz.1.symm
      have m := m (FC μ 1) (h.2.1.of rfl rfl) ez
      rw [ez, if_neg (Classical.not_not.mpr b1), if_pos b2] at m
      exact ⟨_, _, _, c, m, (by first | exact h.2.1.1 | exact hm.1 | exact hi.2.1.1 | exact hi1.2.1.1 | exact (hi1.2.1.of fν.2.2.1 fν.2.2.2.1).1 | (rw [hs.2.2.1]; exact h.2.1.1)), FCM h (by omega)⟩
    rw [if_neg b2] at c
    have b2 := Classical.not_not.mp b2
    by_cases b3 : ¬ hasZ (ps_i μ (45 + 2 * k) 0) i
    · rw [if_pos b3] at c
      have ez : ps_i (FC μ 2) (83 + 3) k = ps_i μ (45 + 2 * k) 0 := by unfold FC; rw [sI_off (by omega), sI_off (by omega)]; exact hz.1.symm
      have m := m (FC μ 2) (h.2.1.of rfl rfl) ez
      rw [ez, if_neg (Classical.not_not.mpr b1), if_neg (Classical.not_not.mpr b2), if_pos (fun q => b3 ((has_eq (by omega) hsz b2).mp q))] at m
      exact ⟨_, _, _, c, m, (by first | exact h.2.1.1 | exact hm.1 | exact hi.2.1.1 | exact hi1.2.1.1 | exact (hi1.2.1.of fν.2.2.1 fν.2.2.2.1).1 | (rw [hs.2.2.1]; exact h.2.1.1)), FCM h (by omega)⟩
    rw [if_neg b3] at c
    have b3 := Classical.not_not.mp b3
    have hx : i.toNatClampNeg < (ps_i μ 86 k).toNatClampNeg := by rw [← hz.1]; exact (has_k (by omega) hsz b3).2.1
    have hb := sz_bd (by omega) hz.2.1
    have ez : ps_i (ps_sI μ 0 11 (ps_i μ (45 + 2 * k + 1) i.toNatClampNeg)) (83 + 3) k = ps_i μ (45 + 2 * k) 0 := by rw [sI_off (by omega)]; exact hz.1.symm
    have ev : ps_i (ps_sI μ 0 11 (ps_i μ (45 + 2 * k + 1) i.toNatClampNeg)) (83 + 4) (40 * k + i.toNatClampNeg) = ps_i μ 87 (40 * k + i.toNatClampNeg) := by rw [sI_off (by omega)]
    have m := m (ps_sI μ 0 11 (ps_i μ (45 + 2 * k + 1) i.toNatClampNeg)) (h.2.1.of rfl rfl) ez
    rw [ez, ev, if_neg (Classical.not_not.mpr b1), if_neg (Classical.not_not.mpr b2), if_neg (Classical.not_not.mpr ((has_eq (by omega) hsz b2).mpr b3))] at m
    exact ⟨_, _, _, c, m, (by first | exact h.2.1.1 | exact hm.1 | exact hi.2.1.1 | exact hi1.2.1.1 | exact (hi1.2.1.of fν.2.2.1 fν.2.2.2.1).1 | (rw [hs.2.2.1]; exact h.2.1.1)), inv_told h (hz.2.2 _ hx)⟩
  · have hz0 := h.rw (k := 0) (by omega)
    have hsz := hz0.2.1
    have hsz2 := hsz
    rw [← hz0.1] at hsz
    have c := kq_at (L := L) (xs := xs) (d := e + 16) h.1 (r := r) (k := 0) (fun q => absurd q b1) (i := i) (i' := i.toNatClampNeg) (fun q => ⟨(has_k (by omega) hsz q).1, (has_k (by omega) hsz q).2.2⟩)
    rw [if_pos b1] at c
    have m := mq_at (L := L) (xs := xs) (d := e + 16) h.2.1 (r := r) (k := 0) (fun q => absurd q b1) (i := i) (i' := i.toNatClampNeg) (fun q => in_k (by omega) hsz2 q)
    rw [if_pos b1] at m
    exact ⟨_, _, _, c, m, (by first | exact h.2.1.1 | exact hm.1 | exact hi.2.1.1 | exact hi1.2.1.1 | exact (hi1.2.1.of fν.2.2.1 fν.2.2.2.1).1 | (rw [hs.2.2.1]; exact h.2.1.1)), h⟩
theorem op_put (h : Inv W μ) (r i : Int32) (v : Int32) : opI (ps_XX L xs) e j_X7_put j_X8_put [.int r, .int i, .int v] W μ := by
  by_cases b1 : textP r
  · have hr := text_k b1
    have hz := h.tx hr.2
    generalize hk : r.toNatClampNeg = k at hr hz
    have hsz := hz.2.1
    rw [← hz.1] at hsz
    have c := kq_put (L := L) (xs := xs) (d := e + 16) h.1 (r := r) (k := k) (fun _ => hr) (i := i) (i' := i.toNatClampNeg) (fun q => ⟨(has_k (by omega) hsz q).1, (has_k (by omega) hsz q).2.2⟩) v
    rw [if_neg (Classical.not_not.mpr b1)] at c
    have m := fun (ν : ps_M) (hm : isMd ν 83) (ez : ps_i ν (83 + 5) k = ps_i μ (57 + 2 * k) 0) => mq_put (L := L) (xs := xs) (d := e + 17) hm (r := r) (k := k) (fun _ => hr) (i := i) (i' := i.toNatClampNeg) (fun q => by rw [ez] at q; exact in_k (by omega) hsz q) v
    by_cases b2 : ¬ 0 ≤ ps_i μ (57 + 2 * k) 0
    · rw [if_pos b2] at c
      have ez : ps_i (FC μ 1) (83 + 5) k = ps_i μ (57 + 2 * k) 0 := by unfold FC; rw [sI_off (by omega), sI_off (by omega)]; exact hz.1.symm
      have m := m (FC μ 1) (h.2.1.of rfl rfl) ez
      rw [ez, if_neg (Classical.not_not.mpr b1), if_pos b2] at m
      exact ⟨_, _, _, c, m, (by first | exact h.2.1.1 | exact hm.1 | exact hi.2.1.1 | exact hi1.2.1.1 | exact (hi1.2.1.of fν.2.2.1 fν.2.2.2.1).1 | (rw [hs.2.2.1]; exact h.2.1.1)), FCM h (by omega)⟩
    rw [if_neg b2] at c
    have b2 := Classical.not_not.mp b2
    by_cases b3 : ¬ hasZ (ps_i μ (57 + 2 * k) 0) i
    · rw [if_pos b3] at c
      have ez : ps_i (FC μ 2) (83 + 5) k = ps_i μ (57 + 2 * k) 0 := by unfold FC; rw [sI_off (by omega), sI_off (by omega)]; exact hz.1.symm
      have m := m (FC μ 2) (h.2.1.of rfl rfl) ez
      rw [ez, if_neg (Classical.not_not.mpr b1), if_neg (Classical.not_not.mpr b2), if_pos (fun q => b3 ((has_eq (by omega) hsz b2).mp q))] at m
      exact ⟨_, _, _, c, m, (by first | exact h.2.1.1 | exact hm.1 | exact hi.2.1.1 | exact hi1.2.1.1 | exact (hi1.2.1.of fν.2.2.1 fν.2.2.2.1).1 | (rw [hs.2.2.1]; exact h.2.1.1)), FCM h (by omega)⟩
    rw [if_neg b3] at c
    have b3 := Classical.not_not.mp b3
    have hx : i.toNatClampNeg < (ps_i μ 88 k).toNatClampNeg := by rw [← hz.1]; exact (has_k (by omega) hsz b3).2.1
    have hb := sz_bd (by omega) hz.2.1
    have ez : ps_i (ps_sI μ (57 + 2 * k + 1) i.toNatClampNeg v.toInt8.toInt32) (83 + 5) k = ps_i μ (57 + 2 * k) 0 := by rw [sI_off (by omega)]; exact hz.1.symm
    have ev : ps_i (ps_sI μ (57 + 2 * k + 1) i.toNatClampNeg v.toInt8.toInt32) (83 + 6) (60 * k + i.toNatClampNeg) = ps_i μ (57 + 2 * k + 1) i.toNatClampNeg := by rw [sI_off (by omega)]; exact (hz.2.2 _ hx).symm
    have m := m (ps_sI μ (57 + 2 * k + 1) i.toNatClampNeg v.toInt8.toInt32) (h.2.1.of rfl rfl) ez
    rw [ez, ev, if_neg (Classical.not_not.mpr b1), if_neg (Classical.not_not.mpr b2), if_neg (Classical.not_not.mpr ((has_eq (by omega) hsz b2).mpr b3))] at m
    exact ⟨_, _, _, c, m, (by first | exact h.2.1.1 | exact hm.1 | exact hi.2.1.1 | exact hi1.2.1.1 | exact (hi1.2.1.of fν.2.2.1 fν.2.2.2.1).1 | (rw [hs.2.2.1]; exact h.2.1.1)), inv_put h hr.2 hx _⟩
  · have hz0 := h.tx (k := 0) (by omega)
    have hsz := hz0.2.1
    have hsz2 := hsz
    rw [← hz0.1] at hsz
    have c := kq_put (L := L) (xs := xs) (d := e + 16) h.1 (r := r) (k := 0) (fun q => absurd q b1) (i := i) (i' := i.toNatClampNeg) (fun q => ⟨(has_k (by omega) hsz q).1, (has_k (by omega) hsz q).2.2⟩) v
    rw [if_pos b1] at c
    have m := mq_put (L := L) (xs := xs) (d := e + 17) h.2.1 (r := r) (k := 0) (fun q => absurd q b1) (i := i) (i' := i.toNatClampNeg) (fun q => in_k (by omega) hsz2 q) v
    rw [if_pos b1] at m
    exact ⟨_, _, _, c, m, (by first | exact h.2.1.1 | exact hm.1 | exact hi.2.1.1 | exact hi1.2.1.1 | exact (hi1.2.1.of fν.2.2.1 fν.2.2.2.1).1 | (rw [hs.2.2.1]; exact h.2.1.1)), h⟩
end OPS2
