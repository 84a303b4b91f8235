-- ===== calls answered alike: tear, mean, gains, copy =====
theorem FC_hi {μ : ps_M} {f a i : Nat} (h : 45 ≤ a) : ps_i (FC μ f) a i = ps_i μ a i := by unfold FC; rw [sI_off (by omega), sI_off (by omega)]
theorem lsum_c {f g : Nat → Int32} : ∀ n, (∀ i, i < n → f i = g i) → lsum f n = lsum g n
  | 0, _ => rfl
  | n + 1, h => by
    show lsum f n + (f n).toInt64 = lsum g n + (g n).toInt64
    rw [lsum_c n (fun i hi => h i (by omega)), h n (by omega)]
theorem span_k {i n z : Int32} (hz : szP z 40) (hn : 0 ≤ n) (h : spanP i n z) : i = nI i.toNatClampNeg ∧ n = nI n.toNatClampNeg ∧ i.toNatClampNeg + n.toNatClampNeg ≤ z.toNatClampNeg := by
  obtain ⟨h1, h2⟩ := h
  obtain ⟨N, hN, rfl⟩ := nI_of (Int32.not_lt.mpr hn)
  have hi : ¬ i < 0 := by rw [Int32.lt_iff_toInt_lt]; have e1 : (0 : Int32).toInt = 0 := rfl; omega
  obtain ⟨x, hx, rfl⟩ := nI_of hi
  rw [nI_clamp hx, nI_clamp hN]
  rw [nI_toInt hx, nI_toInt hN] at h2
  refine ⟨rfl, rfl, ?_⟩
  rcases hz with rfl | ⟨S, hS, rfl⟩
  · have e1 : (-1 : Int32).toInt = -1 := rfl
    omega
  · rw [nI_toInt (by omega)] at h2
    rw [nI_clamp (by omega)]
    omega
section OPS3
variable {L : Nat} {xs : Nat → Int32} {e W : Nat} {μ : ps_M}
theorem op_tear (h : Inv W μ) (r : Int32) : opI (ps_XX L xs) e j_X7_tear j_X8_tear [.int r] W μ := by
  by_cases b1 : ¬ rowP r
  · have c := kq_tear (L := L) (xs := xs) (d := e + 17) h.1 (r := r) (k := 0) (fun q => absurd q b1)
    have m := mq_tear (L := L) (xs := xs) (d := e + 17) h.2.1 (r := r) (k := 0) (fun q => absurd q b1)
    rw [if_pos b1] at c m
    exact ⟨_, _, _, c, m, (by first | exact h.2.1.1 | exact hm.1 | exact hi.2.1.1 | exact hi1.2.1.1 | exact (hi1.2.1.of fν.2.2.1 fν.2.2.2.1).1 | (rw [hs.2.2.1]; exact h.2.1.1)), h⟩
  have hr := row_k (Classical.not_not.mp b1)
  have hz := h.rw hr.2
  generalize r.toNatClampNeg = k at hr hz
  have hsz := hz.2.1
  rw [← hz.1] at hsz
  have c := kq_tear (L := L) (xs := xs) (d := e + 17) h.1 (r := r) (k := k) (fun _ => hr)
  have m := fun (ν : ps_M) (hm : isMd ν 83) (ez : ps_i ν (83 + 3) k = ps_i μ (45 + 2 * k) 0) => mq_tear (L := L) (xs := xs) (d := e + 17) hm (r := r) (k := k) (fun _ => hr)
  rw [if_neg b1] at c
  by_cases b2 : ¬ 0 ≤ ps_i μ (45 + 2 * k) 0
  · rw [if_pos b2] at c
    have ez : ps_i (FC μ 1) (83 + 3) k = ps_i μ (45 + 2 * k) 0 := by rw [FC_hi (by omega)]; exact hz.1.symm
    have m := m (FC μ 1) (h.2.1.of rfl rfl) ez
    rw [ez, if_neg b1, if_pos b2] at m
    exact ⟨_, _, _, c, m, (by first | exact h.2.1.1 | exact hm.1 | exact hi.2.1.1 | exact hi1.2.1.1 | exact (hi1.2.1.of fν.2.2.1 fν.2.2.2.1).1 | (rw [hs.2.2.1]; exact h.2.1.1)), FCM h (by omega)⟩
  rw [if_neg b2] at c
  have hS := sz_S (by omega) hsz (Classical.not_not.mp b2)
  have ez : ps_i (ps_sI μ (45 + 2 * k) 0 (-1)) (83 + 3) k = ps_i μ (45 + 2 * k) 0 := by rw [sI_off (by omega)]; exact hz.1.symm
  have m := m (ps_sI μ (45 + 2 * k) 0 (-1)) (h.2.1.of rfl rfl) ez
  rw [ez, if_neg b1, if_neg b2] at m
  exact ⟨_, _, _, c, m, (by first | exact h.2.1.1 | exact hm.1 | exact hi.2.1.1 | exact hi1.2.1.1 | exact (hi1.2.1.of fν.2.2.1 fν.2.2.2.1).1 | (rw [hs.2.2.1]; exact h.2.1.1)), inv_tear h hr.2⟩
theorem op_mean (h : Inv W μ) (r : Int32) : opI (ps_XX L xs) e j_X7_mean j_X8_mean [.int r] W μ := by
  by_cases b1 : ¬ rowP r
  · have c := kq_mean (L := L) (xs := xs) (d := e + 17) h.1 (r := r) (k := 0) (fun q => absurd q b1) (S := (ps_i μ (45 + 2 * 0) 0).toNatClampNeg) (fun h0 => sz_S (by omega) (by rw [(h.rw (k := 0) (by omega)).1]; exact (h.rw (k := 0) (by omega)).2.1) h0)
    have m := mq_mean (L := L) (xs := xs) (d := e + 17) h.2.1 (r := r) (k := 0) (fun q => absurd q b1) (S := (ps_i μ (83 + 3) 0).toNatClampNeg) (fun h0 => sz_S (by omega) (h.rw (k := 0) (by omega)).2.1 h0)
    rw [if_pos b1] at c m
    exact ⟨_, _, _, c, m, (by first | exact h.2.1.1 | exact hm.1 | exact hi.2.1.1 | exact hi1.2.1.1 | exact (hi1.2.1.of fν.2.2.1 fν.2.2.2.1).1 | (rw [hs.2.2.1]; exact h.2.1.1)), h⟩
  have hr := row_k (Classical.not_not.mp b1)
  have hz := h.rw hr.2
  generalize r.toNatClampNeg = k at hr hz
  have hsz := hz.2.1
  rw [← hz.1] at hsz
  have c := kq_mean (L := L) (xs := xs) (d := e + 17) h.1 (r := r) (k := k) (fun _ => hr) (S := (ps_i μ (45 + 2 * k) 0).toNatClampNeg) (fun h0 => sz_S (by omega) hsz h0)
  have m := fun (ν : ps_M) (hm : isMd ν 83) (ez : ps_i ν (83 + 3) k = ps_i μ (45 + 2 * k) 0) => mq_mean (L := L) (xs := xs) (d := e + 17) hm (r := r) (k := k) (fun _ => hr) (S := (ps_i μ (45 + 2 * k) 0).toNatClampNeg) (fun h0 => by rw [ez] at h0 ⊢; exact sz_S (by omega) hsz h0)
  rw [if_neg b1] at c
  by_cases b2 : ¬ 0 ≤ ps_i μ (45 + 2 * k) 0
  · rw [if_pos b2] at c
    have ez : ps_i (FC μ 1) (83 + 3) k = ps_i μ (45 + 2 * k) 0 := by rw [FC_hi (by omega)]; exact hz.1.symm
    have m := m (FC μ 1) (h.2.1.of rfl rfl) ez
    rw [ez, if_neg b1, if_pos b2] at m
    exact ⟨_, _, _, c, m, (by first | exact h.2.1.1 | exact hm.1 | exact hi.2.1.1 | exact hi1.2.1.1 | exact (hi1.2.1.of fν.2.2.1 fν.2.2.2.1).1 | (rw [hs.2.2.1]; exact h.2.1.1)), FCM h (by omega)⟩
  rw [if_neg b2] at c
  have hS := sz_S (by omega) hsz (Classical.not_not.mp b2)
  by_cases b3 : ps_i μ (45 + 2 * k) 0 = 0
  · rw [if_pos b3] at c
    have ez : ps_i (FC μ 4) (83 + 3) k = ps_i μ (45 + 2 * k) 0 := by rw [FC_hi (by omega)]; exact hz.1.symm
    have m := m (FC μ 4) (h.2.1.of rfl rfl) ez
    rw [ez, if_neg b1, if_neg b2, if_pos b3] at m
    exact ⟨_, _, _, c, m, (by first | exact h.2.1.1 | exact hm.1 | exact hi.2.1.1 | exact hi1.2.1.1 | exact (hi1.2.1.of fν.2.2.1 fν.2.2.2.1).1 | (rw [hs.2.2.1]; exact h.2.1.1)), FCM h (by omega)⟩
  rw [if_neg b3] at c
  generalize hSS : (ps_i μ (45 + 2 * k) 0).toNatClampNeg = S at c m hS
  have hl : lsum (ps_i μ (45 + 2 * k + 1)) S = lsum (fun x => ps_i μ (83 + 4) (40 * k + x)) S := lsum_c S (fun i hi => hz.2.2 i (by rw [← hz.1, hSS]; exact hi))
  have ez : ps_i (ps_sI μ 0 11 (lsum (ps_i μ (45 + 2 * k + 1)) S / (nI S).toInt64).toInt32) (83 + 3) k = ps_i μ (45 + 2 * k) 0 := by rw [sI_off (by omega)]; exact hz.1.symm
  have m := m (ps_sI μ 0 11 (lsum (ps_i μ (45 + 2 * k + 1)) S / (nI S).toInt64).toInt32) (h.2.1.of rfl rfl) ez
  have el : lsum (fun x => ps_i (ps_sI μ 0 11 (lsum (ps_i μ (45 + 2 * k + 1)) S / (nI S).toInt64).toInt32) (83 + 4) (40 * k + x)) S = lsum (ps_i μ (45 + 2 * k + 1)) S := by rw [hl]; exact lsum_c S (fun i hi => sI_off (by omega))
  rw [ez, el, if_neg b1, if_neg b2, if_neg b3] at m
  exact ⟨_, _, _, c, m, (by first | exact h.2.1.1 | exact hm.1 | exact hi.2.1.1 | exact hi1.2.1.1 | exact (hi1.2.1.of fν.2.2.1 fν.2.2.2.1).1 | (rw [hs.2.2.1]; exact h.2.1.1)), inv_told h rfl⟩
theorem op_gains (h : Inv W μ) (r : Int32) : opI (ps_XX L xs) e j_X7_gains j_X8_gains [.int r] W μ := by
  by_cases b1 : ¬ rowP r
  · have c := kq_gains (L := L) (xs := xs) (d := e + 17) h.1 (r := r) (k := 0) (fun q => absurd q b1) (S := (ps_i μ (45 + 2 * 0) 0).toNatClampNeg) (fun h0 => sz_S (by omega) (by rw [(h.rw (k := 0) (by omega)).1]; exact (h.rw (k := 0) (by omega)).2.1) h0)
    have m := mq_gains (L := L) (xs := xs) (d := e + 17) h.2.1 (r := r) (k := 0) (fun q => absurd q b1) (S := (ps_i μ (83 + 3) 0).toNatClampNeg) (fun h0 => sz_S (by omega) (h.rw (k := 0) (by omega)).2.1 h0)
    rw [if_pos b1] at c m
    exact ⟨_, _, _, c, m, (by first | exact h.2.1.1 | exact hm.1 | exact hi.2.1.1 | exact hi1.2.1.1 | exact (hi1.2.1.of fν.2.2.1 fν.2.2.2.1).1 | (rw [hs.2.2.1]; exact h.2.1.1)), h⟩
  have hr := row_k (Classical.not_not.mp b1)
  have hz := h.rw hr.2
  generalize r.toNatClampNeg = k at hr hz
  have hsz := hz.2.1
  rw [← hz.1] at hsz
  have c := kq_gains (L := L) (xs := xs) (d := e + 17) h.1 (r := r) (k := k) (fun _ => hr) (S := (ps_i μ (45 + 2 * k) 0).toNatClampNeg) (fun h0 => sz_S (by omega) hsz h0)
  have m := fun (ν : ps_M) (hm : isMd ν 83) (ez : ps_i ν (83 + 3) k = ps_i μ (45 + 2 * k) 0) => mq_gains (L := L) (xs := xs) (d := e + 17) hm (r := r) (k := k) (fun _ => hr) (S := (ps_i μ (45 + 2 * k) 0).toNatClampNeg) (fun h0 => by rw [ez] at h0 ⊢; exact sz_S (by omega) hsz h0)
  rw [if_neg b1] at c
  by_cases b2 : ¬ 0 ≤ ps_i μ (45 + 2 * k) 0
  · rw [if_pos b2] at c
    have ez : ps_i (FC μ 1) (83 + 3) k = ps_i μ (45 + 2 * k) 0 := by rw [FC_hi (by omega)]; exact hz.1.symm
    have m := m (FC μ 1) (h.2.1.of rfl rfl) ez
    rw [ez, if_neg b1, if_pos b2] at m
    exact ⟨_, _, _, c, m, (by first | exact h.2.1.1 | exact hm.1 | exact hi.2.1.1 | exact hi1.2.1.1 | exact (hi1.2.1.of fν.2.2.1 fν.2.2.2.1).1 | (rw [hs.2.2.1]; exact h.2.1.1)), FCM h (by omega)⟩
  rw [if_neg b2] at c
  have hS := sz_S (by omega) hsz (Classical.not_not.mp b2)
  by_cases b3 : ¬ 2 ≤ ps_i μ (45 + 2 * k) 0
  · rw [if_pos b3] at c
    have ez : ps_i (FC μ 5) (83 + 3) k = ps_i μ (45 + 2 * k) 0 := by rw [FC_hi (by omega)]; exact hz.1.symm
    have m := m (FC μ 5) (h.2.1.of rfl rfl) ez
    rw [ez, if_neg b1, if_neg b2, if_pos b3] at m
    exact ⟨_, _, _, c, m, (by first | exact h.2.1.1 | exact hm.1 | exact hi.2.1.1 | exact hi1.2.1.1 | exact (hi1.2.1.of fν.2.2.1 fν.2.2.2.1).1 | (rw [hs.2.2.1]; exact h.2.1.1)), FCM h (by omega)⟩
  rw [if_neg b3] at c
  have hSS : ∃ S, (ps_i μ (45 + 2 * k) 0).toNatClampNeg = S := ⟨_, rfl⟩
  obtain ⟨S, hSS⟩ := hSS
  have m := m μ h.2.1 hz.1.symm
  rw [hSS] at c m hS
  have hS2 : 2 ≤ S := by
    have := Classical.not_not.mp b3
    rw [hS.1, show (2 : Int32) = nI 2 from rfl, Int32.le_iff_toInt_le, nI_toInt (by omega), nI_toInt (by omega)] at this
    omega
  have e1 : ps_i μ (83 + 4) (40 * k) = ps_i μ (45 + 2 * k + 1) 0 := (hz.2.2 0 (by rw [← hz.1, hSS]; omega)).symm
  have e2 : ps_i μ (83 + 4) (40 * k + S - 1) = ps_i μ (45 + 2 * k + 1) (S - 1) := by
    rw [show 40 * k + S - 1 = 40 * k + (S - 1) by omega]
    exact (hz.2.2 (S - 1) (by rw [← hz.1, hSS]; omega)).symm
  rw [show ps_i μ (83 + 3) k = ps_i μ (45 + 2 * k) 0 from hz.1.symm, e1, e2, if_neg b1, if_neg b2, if_neg b3] at m
  by_cases b4 : lg_cmp ((ps_i μ (45 + 2 * k + 1) (S - 1)).toInt64 - (ps_i μ (45 + 2 * k + 1) 0).toInt64) 2 ≤ 0
  · rw [if_pos b4] at c m
    by_cases b5 : 0 ≤ lg_cmp ((ps_i μ (45 + 2 * k + 1) (S - 1)).toInt64 - (ps_i μ (45 + 2 * k + 1) 0).toInt64) (-2)
    · rw [if_pos b5] at c m
      exact ⟨_, _, _, c, m, (by first | exact h.2.1.1 | exact hm.1 | exact hi.2.1.1 | exact hi1.2.1.1 | exact (hi1.2.1.of fν.2.2.1 fν.2.2.2.1).1 | (rw [hs.2.2.1]; exact h.2.1.1)), h⟩
    · rw [if_neg b5] at c m
      exact ⟨_, _, _, c, m, (by first | exact h.2.1.1 | exact hm.1 | exact hi.2.1.1 | exact hi1.2.1.1 | exact (hi1.2.1.of fν.2.2.1 fν.2.2.2.1).1 | (rw [hs.2.2.1]; exact h.2.1.1)), h⟩
  · rw [if_neg b4] at c m
    exact ⟨_, _, _, c, m, (by first | exact h.2.1.1 | exact hm.1 | exact hi.2.1.1 | exact hi1.2.1.1 | exact (hi1.2.1.of fν.2.2.1 fν.2.2.2.1).1 | (rw [hs.2.2.1]; exact h.2.1.1)), h⟩
theorem wcp_at {μ : ps_M} {I : Nat → Nat → Int32} {c a b n k i : Nat} : ps_i (ps_wI μ (cpR I c a b n)) k i = if k = c ∧ b ≤ i ∧ i < b + n then I c (a + (i - b)) else I k i := rfl
theorem cp_at {μ : ps_M} {k0 sp k1 dp n a i : Nat} : ps_i (ps_cp μ k0 sp k1 dp n) a i = if a = k1 ∧ dp ≤ i ∧ i < dp + n then ps_i μ k0 (sp + (i - dp)) else ps_i μ a i := by
  show (if a = k1 then va_cpy (ps_i μ k0) (ps_i μ k1) sp dp n i else ps_i μ a i) = _
  unfold va_cpy
  by_cases h : a = k1
  · subst h
    rw [if_pos rfl]
    by_cases h2 : dp ≤ i ∧ i < dp + n
    · rw [if_pos h2, if_pos ⟨rfl, h2⟩]
    · rw [if_neg h2, if_neg (fun q => h2 q.2)]
  · rw [if_neg h, if_neg (fun q => h q.1)]
theorem inv_copy (h : Inv W μ) {k t a b N : Nat} (hk : k < 6) (ht : t < 6) (ha : a + N ≤ (ps_i μ 86 k).toNatClampNeg) (hb : b + N ≤ (ps_i μ 86 t).toNatClampNeg) : Inv W (ps_wI (ps_cp μ (45 + 2 * k + 1) a (45 + 2 * t + 1) b N) (cpR (ps_i (ps_cp μ (45 + 2 * k + 1) a (45 + 2 * t + 1) b N)) (83 + 4) (40 * k + a) (40 * t + b) N)) := by
  obtain ⟨g, h1, h2, h3, h4, h5⟩ := h.2.2.2.2.1
  have q : ∀ a1 i, ¬ (a1 = 45 + 2 * t + 1 ∧ b ≤ i ∧ i < b + N ∨ a1 = 87 ∧ 40 * t + b ≤ i ∧ i < 40 * t + b + N) → ps_i (ps_wI (ps_cp μ (45 + 2 * k + 1) a (45 + 2 * t + 1) b N) (cpR (ps_i (ps_cp μ (45 + 2 * k + 1) a (45 + 2 * t + 1) b N)) (83 + 4) (40 * k + a) (40 * t + b) N)) a1 i = ps_i μ a1 i := fun a1 i z => by
    rw [wcp_at, if_neg (by omega), cp_at, if_neg (by omega)]
  refine Inv.mk (g := g) h rfl rfl rfl rfl ⟨?_, h2.c (fun a i _ _ => q _ _ (by omega)) (fun a i _ _ => q _ _ (by omega)), h3.c (fun a i _ _ => q _ _ (by omega)) (fun i => q _ _ (by omega)) (fun i hi => q _ _ (by omega)) (fun i _ _ => q _ _ (by omega)) (fun i => q _ _ (by omega)), h4.c (fun a i _ _ => q _ _ (by omega)) (fun i hi => q _ _ (by omega)) (fun i _ _ => q _ _ (by omega)) (fun i => q _ _ (by omega)), h5.c (fun i _ => q _ _ (by omega)) (fun i => q _ _ (by omega)) (fun i _ => q _ _ (by omega)) (fun i => q _ _ (by omega))⟩ h.2.2.2.2.2.1 h.2.2.2.2.2.2
  · intro y hy
    have hh := h1 y hy
    have hb1 := sz_bd (by omega) hh.2.1
    have hb2 := sz_bd (by omega) (h1 k hk).2.1
    have hb3 := sz_bd (by omega) (h1 t ht).2.1
    rw [q _ _ (by omega), q _ _ (by omega)]
    refine ⟨hh.1, hh.2.1, fun i hi => ?_⟩
    by_cases z : y = t ∧ b ≤ i ∧ i < b + N
    · obtain ⟨rfl, z1, z2⟩ := z
      rw [wcp_at, if_neg (by omega), wcp_at, if_pos ⟨rfl, by omega, by omega⟩, cp_at, if_pos ⟨rfl, z1, z2⟩, cp_at, if_neg (by omega), show 40 * k + a + (40 * y + i - (40 * y + b)) = 40 * k + (a + (i - b)) by omega]
      exact (h1 k hk).2.2 _ (by omega)
    · rw [q _ _ (by omega), q _ _ (by omega)]
      exact hh.2.2 i hi
theorem op_copy (h : Inv W μ) (r i to j n : Int32) : opI (ps_XX L xs) e j_X7_copy j_X8_copy [.int r, .int i, .int to, .int j, .int n] W μ := by
  by_cases b1 : ¬ rowP r ∨ ¬ rowP to
  · have hk : ∃ k t, (rowP r → r = nI k ∧ k < 6) ∧ (rowP to → to = nI t ∧ t < 6) ∧ k < 6 ∧ t < 6 := by
      by_cases q1 : rowP r
      · by_cases q2 : rowP to
        · exact absurd b1 (by rw [not_or, Classical.not_not, Classical.not_not]; exact ⟨q1, q2⟩)
        · exact ⟨_, 0, row_k, fun q => absurd q q2, (row_k q1).2, by omega⟩
      · by_cases q2 : rowP to
        · exact ⟨0, _, fun q => absurd q q1, row_k, by omega, (row_k q2).2⟩
        · exact ⟨0, 0, fun q => absurd q q1, fun q => absurd q q2, by omega, by omega⟩
    obtain ⟨k, t, hr, hr2, hk, ht⟩ := hk
    have hz := h.rw hk
    have hy := h.rw ht
    have hsz := hz.2.1
    have hsy := hy.2.1
    have m := mq_copy (L := L) (xs := xs) (d := e + 17) h.2.1 hr hr2 (i := i) (j := j) (n := n) (a := i.toNatClampNeg) (b := j.toNatClampNeg) (N := n.toNatClampNeg) (fun h0 s1 s2 => by
      have a1 := span_k hsz h0 s1
      have a2 := span_k hsy h0 s2
      have := sz_bd (by omega) hsz
      have := sz_bd (by omega) hsy
      exact ⟨a1.2.1, a1.1, a2.1, by omega, by omega⟩)
    rw [← hz.1] at hsz
    rw [← hy.1] at hsy
    have c := kq_copy (L := L) (xs := xs) (d := e + 17) h.1 hr hr2 (i := i) (j := j) (n := n) (a := i.toNatClampNeg) (b := j.toNatClampNeg) (N := n.toNatClampNeg) (S := (ps_i μ (45 + 2 * k) 0).toNatClampNeg) (T := (ps_i μ (45 + 2 * t) 0).toNatClampNeg) (fun h0 => sz_S (by omega) hsz h0) (fun h0 => sz_S (by omega) hsy h0) (fun h0 s1 s2 => by
      have a1 := span_k hsz h0 s1
      have a2 := span_k hsy h0 s2
      have := sz_bd (by omega) hsz
      have := sz_bd (by omega) hsy
      exact ⟨a1.2.1, a1.1, a2.1, by omega, by omega⟩)
    rw [if_pos b1] at c m
    exact ⟨_, _, _, c, m, (by first | exact h.2.1.1 | exact hm.1 | exact hi.2.1.1 | exact hi1.2.1.1 | exact (hi1.2.1.of fν.2.2.1 fν.2.2.2.1).1 | (rw [hs.2.2.1]; exact h.2.1.1)), h⟩
  have hb := not_or.mp b1
  have hr := row_k (Classical.not_not.mp hb.1)
  have hr2 := row_k (Classical.not_not.mp hb.2)
  have hz := h.rw hr.2
  have hy := h.rw hr2.2
  generalize r.toNatClampNeg = k at hr hz
  generalize to.toNatClampNeg = t at hr2 hy
  have hsz := hz.2.1
  have hsy := hy.2.1
  rw [← hz.1] at hsz
  rw [← hy.1] at hsy
  have hs : 0 ≤ n → spanP i n (ps_i μ (45 + 2 * k) 0) → spanP j n (ps_i μ (45 + 2 * t) 0) → n = nI n.toNatClampNeg ∧ i = nI i.toNatClampNeg ∧ j = nI j.toNatClampNeg ∧ i.toNatClampNeg + n.toNatClampNeg ≤ 40 ∧ j.toNatClampNeg + n.toNatClampNeg ≤ 40 := fun h0 s1 s2 => by
    have a1 := span_k hsz h0 s1
    have a2 := span_k hsy h0 s2
    have := sz_bd (by omega) hsz
    have := sz_bd (by omega) hsy
    exact ⟨a1.2.1, a1.1, a2.1, by omega, by omega⟩
  have c := kq_copy (L := L) (xs := xs) (d := e + 17) h.1 (fun _ => hr) (fun _ => hr2) (i := i) (j := j) (n := n) (S := (ps_i μ (45 + 2 * k) 0).toNatClampNeg) (T := (ps_i μ (45 + 2 * t) 0).toNatClampNeg) (fun h0 => sz_S (by omega) hsz h0) (fun h0 => sz_S (by omega) hsy h0) hs
  have m := fun (ν : ps_M) (hm : isMd ν 83) (ez : ps_i ν (83 + 3) k = ps_i μ (45 + 2 * k) 0) (ey : ps_i ν (83 + 3) t = ps_i μ (45 + 2 * t) 0) => mq_copy (L := L) (xs := xs) (d := e + 17) hm (fun _ => hr) (fun _ => hr2) (i := i) (j := j) (n := n) (a := i.toNatClampNeg) (b := j.toNatClampNeg) (N := n.toNatClampNeg) (by rw [ez, ey]; exact hs)
  rw [if_neg b1] at c
  by_cases b2 : ¬ 0 ≤ n
  · rw [if_pos b2] at c
    have m := m (FC μ 5) (h.2.1.of rfl rfl) (by rw [FC_hi (by omega)]; exact hz.1.symm) (by rw [FC_hi (by omega)]; exact hy.1.symm)
    rw [if_neg b1, if_pos b2] at m
    exact ⟨_, _, _, c, m, (by first | exact h.2.1.1 | exact hm.1 | exact hi.2.1.1 | exact hi1.2.1.1 | exact (hi1.2.1.of fν.2.2.1 fν.2.2.2.1).1 | (rw [hs.2.2.1]; exact h.2.1.1)), FCM h (by omega)⟩
  rw [if_neg b2] at c
  by_cases b3 : ¬ 0 ≤ ps_i μ (45 + 2 * k) 0 ∨ ¬ 0 ≤ ps_i μ (45 + 2 * t) 0
  · rw [if_pos b3] at c
    have ez : ps_i (FC μ 1) (83 + 3) k = ps_i μ (45 + 2 * k) 0 := by rw [FC_hi (by omega)]; exact hz.1.symm
    have ey : ps_i (FC μ 1) (83 + 3) t = ps_i μ (45 + 2 * t) 0 := by rw [FC_hi (by omega)]; exact hy.1.symm
    have m := m (FC μ 1) (h.2.1.of rfl rfl) ez ey
    rw [ez, ey, if_neg b1, if_neg b2, if_pos (by rw [← Int32.not_le]; exact b3)] at m
    exact ⟨_, _, _, c, m, (by first | exact h.2.1.1 | exact hm.1 | exact hi.2.1.1 | exact hi1.2.1.1 | exact (hi1.2.1.of fν.2.2.1 fν.2.2.2.1).1 | (rw [hs.2.2.1]; exact h.2.1.1)), FCM h (by omega)⟩
  rw [if_neg b3] at c
  by_cases b4 : ¬ spanP i n (ps_i μ (45 + 2 * k) 0) ∨ ¬ spanP j n (ps_i μ (45 + 2 * t) 0)
  · rw [if_pos b4] at c
    have ez : ps_i (FC μ 2) (83 + 3) k = ps_i μ (45 + 2 * k) 0 := by rw [FC_hi (by omega)]; exact hz.1.symm
    have ey : ps_i (FC μ 2) (83 + 3) t = ps_i μ (45 + 2 * t) 0 := by rw [FC_hi (by omega)]; exact hy.1.symm
    have m := m (FC μ 2) (h.2.1.of rfl rfl) ez ey
    rw [ez, ey, if_neg b1, if_neg b2, if_neg (by rw [← Int32.not_le]; exact b3), if_pos b4] at m
    exact ⟨_, _, _, c, m, (by first | exact h.2.1.1 | exact hm.1 | exact hi.2.1.1 | exact hi1.2.1.1 | exact (hi1.2.1.of fν.2.2.1 fν.2.2.2.1).1 | (rw [hs.2.2.1]; exact h.2.1.1)), FCM h (by omega)⟩
  rw [if_neg b4] at c
  have hc := not_or.mp b4
  have a1 := span_k hsz (Classical.not_not.mp b2) (Classical.not_not.mp hc.1)
  have a2 := span_k hsy (Classical.not_not.mp b2) (Classical.not_not.mp hc.2)
  generalize i.toNatClampNeg = a at *
  generalize j.toNatClampNeg = b at *
  generalize n.toNatClampNeg = N at *
  have ez : ps_i (ps_cp μ (45 + 2 * k + 1) a (45 + 2 * t + 1) b N) (83 + 3) k = ps_i μ (45 + 2 * k) 0 := by rw [cp_at, if_neg (by omega)]; exact hz.1.symm
  have ey : ps_i (ps_cp μ (45 + 2 * k + 1) a (45 + 2 * t + 1) b N) (83 + 3) t = ps_i μ (45 + 2 * t) 0 := by rw [cp_at, if_neg (by omega)]; exact hy.1.symm
  have m := m (ps_cp μ (45 + 2 * k + 1) a (45 + 2 * t + 1) b N) (h.2.1.of rfl rfl) ez ey
  rw [ez, ey, if_neg b1, if_neg b2, if_neg (by rw [← Int32.not_le]; exact b3), if_neg b4] at m
  exact ⟨_, _, _, c, m, (by first | exact h.2.1.1 | exact hm.1 | exact hi.2.1.1 | exact hi1.2.1.1 | exact (hi1.2.1.of fν.2.2.1 fν.2.2.2.1).1 | (rw [hs.2.2.1]; exact h.2.1.1)), inv_copy h hr.2 hr2.2 (by rw [← hz.1]; exact a1.2.2) (by rw [← hy.1]; exact a2.2.2)⟩
end OPS3
