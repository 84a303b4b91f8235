-- ===== calls answered alike: rows, texts, what is told =====
theorem isMd.of {μ ν : ps_M} (h : isMd μ 83) (hs : ps_s ν = ps_s μ) (hr : ps_r ν = ps_r μ) : isMd ν 83 := by unfold isMd; rw [hs, hr]; exact h
theorem row_k {r : Int32} (h : rowP r) : r = nI r.toNatClampNeg ∧ r.toNatClampNeg < 6 := by
  obtain ⟨k, h1, h2, rfl⟩ := rng_nat (lo := 0) (hi := 5) (by omega) h (by omega)
  rw [nI_clamp (by omega)]; exact ⟨rfl, by omega⟩
theorem text_k {r : Int32} (h : textP r) : r = nI r.toNatClampNeg ∧ r.toNatClampNeg < 4 := by
  obtain ⟨k, h1, h2, rfl⟩ := rng_nat (lo := 0) (hi := 3) (by omega) h (by omega)
  rw [nI_clamp (by omega)]; exact ⟨rfl, by omega⟩
theorem kept_k {r : Int32} (h : keptP r) : r = nI r.toNatClampNeg ∧ r.toNatClampNeg < 3 := by
  obtain ⟨k, h1, h2, rfl⟩ := rng_nat (lo := 0) (hi := 2) (by omega) h (by omega)
  rw [nI_clamp (by omega)]; exact ⟨rfl, by omega⟩
theorem n_k {r : Int32} {M : Nat} (hM : M < 2 ^ 31) (h0 : 0 ≤ r) (h : r ≤ nI M) : r = nI r.toNatClampNeg ∧ r.toNatClampNeg ≤ M := by
  obtain ⟨k, h1, h2, rfl⟩ := rng_nat (lo := 0) (hi := M) (by omega) ⟨h0, h⟩ (by omega)
  rw [nI_clamp (by omega)]; exact ⟨rfl, by omega⟩
theorem sz_S {z : Int32} {M : Nat} (hM : M ≤ 60) (h : szP z M) (h0 : 0 ≤ z) : z = nI z.toNatClampNeg ∧ z.toNatClampNeg ≤ M := by
  rcases h with rfl | ⟨S, hS, rfl⟩
  · exact absurd h0 (by decide)
  · rw [nI_clamp (by omega)]; exact ⟨rfl, hS⟩
theorem has_in2 {z i : Int32} {M : Nat} (hM : M ≤ 60) (h : szP z M) : (0 ≤ i ∧ i ≤ z - 1) ↔ (0 ≤ z → hasZ z i) ∧ 0 ≤ i ∧ i ≤ z - 1 := ⟨fun q => ⟨fun h0 => by
    obtain ⟨e, hS⟩ := sz_S hM h h0
    generalize z.toNatClampNeg = S at e hS
    subst e
    refine ⟨Int32.not_lt.mpr q.1, fun w => ?_⟩
    rcases (show S = 0 ∨ 0 < S by omega) with rfl | hS0
    · obtain ⟨x, hx, rfl⟩ := nI_of (Int32.not_lt.mpr q.1)
      have := q.2
      rw [show nI 0 - 1 = -1 from rfl] at this
      exact nI_pos hx (Int32.lt_of_le_of_lt this (by decide))
    · rw [show nI S - 1 = nI (S - 1) from pk_sub (b := 1) (by omega)] at q
      exact nI_ge (a := S - 1) (b := S) (by omega) (by omega) (Int32.le_trans w q.2), q⟩, fun q => q.2⟩
theorem has_eq {z i : Int32} {M : Nat} (hM : M ≤ 60) (h : szP z M) (h0 : 0 ≤ z) : (0 ≤ i ∧ i ≤ z - 1) ↔ hasZ z i := by
  obtain ⟨e, hS⟩ := sz_S hM h h0
  generalize z.toNatClampNeg = S at e hS
  subst e
  constructor
  · intro q; exact ((has_in2 hM h).mp q).1 h0
  · intro q
    obtain ⟨x, hx, rfl⟩ := nI_of q.1
    have hxS : x < S := Nat.lt_of_not_le (fun w => q.2 (nI_le w hx))
    refine ⟨nI_pos' hx, ?_⟩
    rw [show nI S - 1 = nI (S - 1) from pk_sub (b := 1) (by omega)]
    exact nI_le (by omega) (by omega)
theorem has_k {z i : Int32} {M : Nat} (hM : M ≤ 60) (h : szP z M) (q : hasZ z i) : i = nI i.toNatClampNeg ∧ i.toNatClampNeg < z.toNatClampNeg ∧ i.toNatClampNeg < M := by
  obtain ⟨x, hx, rfl⟩ := nI_of q.1
  rcases h with rfl | ⟨S, hS, rfl⟩
  · exact absurd (show (-1 : Int32) ≤ nI x from Int32.le_trans (by decide) (nI_pos' hx)) q.2
  · have hxS : x < S := Nat.lt_of_not_le (fun w => q.2 (nI_le w hx))
    rw [nI_clamp hx, nI_clamp (by omega)]
    exact ⟨rfl, hxS, by omega⟩
theorem in_k {z i : Int32} {M : Nat} (hM : M ≤ 60) (h : szP z M) (q : 0 ≤ i ∧ i ≤ z - 1) : i = nI i.toNatClampNeg ∧ i.toNatClampNeg < M := by
  rcases h with rfl | ⟨S, hS, rfl⟩
  · exact absurd (Int32.le_trans q.1 q.2) (by decide)
  · rcases (show S = 0 ∨ 0 < S by omega) with rfl | hS0
    · exact absurd (Int32.le_trans q.1 q.2) (by decide)
    · rw [show nI S - 1 = nI (S - 1) from pk_sub (b := 1) (by omega)] at q
      obtain ⟨h1, h2⟩ := n_k (M := S - 1) (by omega) q.1 q.2
      exact ⟨h1, by omega⟩
theorem MR_at {μ : ps_M} {m k a i : Nat} {n : Int32} : ps_i (MR μ m k n) a i = if a = m + 4 ∧ 40 * k ≤ i ∧ i < 40 * k + 40 then 0 else if a = m + 3 ∧ i = k then n else ps_i μ a i := rfl
theorem MT_at {μ : ps_M} {m k a i : Nat} {n : Int32} : ps_i (MT μ m k n) a i = if a = m + 6 ∧ 60 * k ≤ i ∧ i < 60 * k + 60 then 32 else if a = m + 5 ∧ i = k then n else ps_i μ a i := rfl
theorem RN_at {μ : ps_M} {r N a i : Nat} {v : Int32} : ps_i (RN μ r N v) a i = if a = r + 1 ∧ i < N then v else if a = r ∧ i = 0 then nI N else ps_i μ a i := rfl
theorem TK_at {μ : ps_M} {r N a i : Nat} {f : Nat → Int32} : ps_i (TK μ r N f) a i = if a = r + 1 ∧ i < N then f i else if a = r ∧ i = 0 then nI N else ps_i μ a i := rfl
theorem TR_at {μ : ps_M} {m k N x c a i : Nat} : ps_i (TR μ m k N x c) a i = if a = m + 4 ∧ 40 * k ≤ i ∧ i < 40 * k + c then nI (dig N x (i - 40 * k)) else ps_i (MR μ m k (nI N)) a i := rfl
section OPS1
variable {L : Nat} {xs : Nat → Int32} {e W : Nat} {μ : ps_M}
theorem Inv.rw (h : Inv W μ) {k : Nat} (hk : k < 6) : ps_i μ (45 + 2 * k) 0 = ps_i μ 86 k ∧ szP (ps_i μ 86 k) 40 ∧ ∀ i, i < (ps_i μ 86 k).toNatClampNeg → ps_i μ (45 + 2 * k + 1) i = ps_i μ 87 (40 * k + i) := by
  obtain ⟨g, h1, _⟩ := h.2.2.2.2.1
  exact h1 k hk
theorem Inv.tx (h : Inv W μ) {k : Nat} (hk : k < 4) : ps_i μ (57 + 2 * k) 0 = ps_i μ 88 k ∧ szP (ps_i μ 88 k) 60 ∧ ∀ i, i < (ps_i μ 88 k).toNatClampNeg → ps_i μ (57 + 2 * k + 1) i = ps_i μ 89 (60 * k + i) := by
  obtain ⟨g, _, h1, _⟩ := h.2.2.2.2.1
  exact h1 k hk
theorem Inv.sc' (h : Inv W μ) : Sc (ps_i μ) (ps_i μ) := by
  obtain ⟨g, _, _, _, _, h1⟩ := h.2.2.2.2.1
  exact h1
theorem op_asked (h : Inv W μ) : opI (ps_XX L xs) e j_X7_asked j_X8_asked [] W μ := by
  have m := mq_asked (L := L) (xs := xs) (d := e + 19) h.2.1
  rw [← h.sc'.2.1] at m
  exact ⟨_, _, _, kq_asked (d := e + 19) h.1, m, (by first | exact h.2.1.1 | exact hm.1 | exact hi.2.1.1 | exact hi1.2.1.1 | exact (hi1.2.1.of fν.2.2.1 fν.2.2.2.1).1 | (rw [hs.2.2.1]; exact h.2.1.1)), h⟩
theorem op_finding (h : Inv W μ) : opI (ps_XX L xs) e j_X7_finding j_X8_finding [] W μ := by
  have m := mq_finding (L := L) (xs := xs) (d := e + 19) h.2.1
  rw [← h.sc'.1] at m
  exact ⟨_, _, _, kq_finding (d := e + 19) h.1, m, (by first | exact h.2.1.1 | exact hm.1 | exact hi.2.1.1 | exact hi1.2.1.1 | exact (hi1.2.1.of fν.2.2.1 fν.2.2.2.1).1 | (rw [hs.2.2.1]; exact h.2.1.1)), h⟩
theorem op_upper (h : Inv W μ) : opL (ps_XX L xs) e j_X7_upper j_X8_upper [] W μ := by
  have m := mq_upper (L := L) (xs := xs) (d := e + 19) h.2.1
  rw [← h.2.2.2.2.2.1] at m
  exact ⟨_, _, _, kq_upper (d := e + 19) h.1, m, (by first | exact h.2.1.1 | exact hm.1 | exact hi.2.1.1 | exact hi1.2.1.1 | exact (hi1.2.1.of fν.2.2.1 fν.2.2.2.1).1 | (rw [hs.2.2.1]; exact h.2.1.1)), h⟩
theorem op_lower (h : Inv W μ) : opL (ps_XX L xs) e j_X7_lower j_X8_lower [] W μ := by
  have m := mq_lower (L := L) (xs := xs) (d := e + 19) h.2.1
  rw [← h.2.2.2.2.2.2] at m
  exact ⟨_, _, _, kq_lower (d := e + 19) h.1, m, (by first | exact h.2.1.1 | exact hm.1 | exact hi.2.1.1 | exact hi1.2.1.1 | exact (hi1.2.1.of fν.2.2.1 fν.2.2.2.1).1 | (rw [hs.2.2.1]; exact h.2.1.1)), h⟩
theorem rng_c {f a b : Int32} : (¬ f < a ∧ f ≤ b) ↔ (a ≤ f ∧ f ≤ b) := by rw [Int32.not_lt]
theorem op_findings (h : Inv W μ) (f : Int32) : opI (ps_XX L xs) e j_X7_findings j_X8_findings [.int f] W μ := by
  have hk : 1 ≤ f ∧ f ≤ 5 → f = nI f.toNatClampNeg ∧ f.toNatClampNeg < 6 := fun q => by
    obtain ⟨h1, h2⟩ := n_k (M := 5) (by omega) (Int32.le_trans (by decide) q.1) q.2
    exact ⟨h1, by omega⟩
  have c := kq_findings (L := L) (xs := xs) (d := e + 19) h.1 (f := f) (k := f.toNatClampNeg) (fun q => hk (rng_c.mp q))
  have m := mq_findings (L := L) (xs := xs) (d := e + 18) h.2.1 (f := f) (k := f.toNatClampNeg) hk
  by_cases b : 1 ≤ f ∧ f ≤ 5
  · rw [if_pos (rng_c.mpr b)] at c
    rw [if_pos b, show ps_i μ (83 + 7) f.toNatClampNeg = ps_i μ 44 f.toNatClampNeg from (h.sc'.2.2 _ (hk b).2).symm] at m
    exact ⟨_, _, _, c, m, (by first | exact h.2.1.1 | exact hm.1 | exact hi.2.1.1 | exact hi1.2.1.1 | exact (hi1.2.1.of fν.2.2.1 fν.2.2.2.1).1 | (rw [hs.2.2.1]; exact h.2.1.1)), h⟩
  · rw [if_neg (fun q => b (rng_c.mp q))] at c
    rw [if_neg b] at m
    exact ⟨_, _, _, c, m, (by first | exact h.2.1.1 | exact hm.1 | exact hi.2.1.1 | exact hi1.2.1.1 | exact (hi1.2.1.of fν.2.2.1 fν.2.2.2.1).1 | (rw [hs.2.2.1]; exact h.2.1.1)), h⟩
theorem inv_told (h : Inv W μ) {x y : Int32} (hxy : x = y) : Inv W (ps_sI (ps_sI μ 0 11 x) 83 9 y) := by
  obtain ⟨g, h1, h2, h3, h4, h5⟩ := h.2.2.2.2.1
  have q : ∀ a i, ¬ (a = 0 ∧ i = 11 ∨ a = 83 ∧ i = 9) → ps_i (ps_sI (ps_sI μ 0 11 x) 83 9 y) a i = ps_i μ a i := fun a i z => by
    rw [sI_off (by omega), sI_off (by omega)]
  refine Inv.mk (g := g) h rfl rfl rfl rfl ⟨h1.c (fun a i _ _ => q _ _ (by omega)) (fun a i _ _ => q _ _ (by omega)), h2.c (fun a i _ _ => q _ _ (by omega)) (fun a i _ _ => q _ _ (by omega)), h3.c (fun a i _ _ => q _ _ (by omega)) (fun i => q _ _ (by omega)) (fun i hi => q _ _ (by omega)) (fun i _ _ => q _ _ (by omega)) (fun i => q _ _ (by omega)), h4.c (fun a i _ _ => q _ _ (by omega)) (fun i hi => q _ _ (by omega)) (fun i _ _ => q _ _ (by omega)) (fun i => q _ _ (by omega)), ?_⟩ h.2.2.2.2.2.1 h.2.2.2.2.2.2
  · refine ⟨?_, ?_, fun f hf => ?_⟩
    · rw [q _ _ (by omega), q _ _ (by omega)]; exact h5.1
    · rw [sI_off (by omega), sI_at, sI_at]; exact hxy
    · rw [q _ _ (by omega), q _ _ (by omega)]; exact h5.2.2 f hf
end OPS1
