-- ===== locals that nobody needs may lie there =====
theorem ps_ndk {lv : List (Nat × Value)} (h : va_nd (lv.map Prod.fst) = true) {b : Nat} {v : Value} (hm : (b, v) ∈ lv) : lv.lookup b = some v := by
  induction lv with
  | nil => cases hm
  | cons a l ih =>
    obtain ⟨x, y⟩ := a
    simp only [List.map_cons, va_nd, Bool.and_eq_true, decide_eq_true_eq] at h
    rw [List.lookup_cons]
    rcases List.mem_cons.mp hm with e | e
    · cases e
      rw [beq_self_eq_true]
    · have hne : ¬ b = x := fun z => h.1 (by rw [← z]; exact List.mem_map.mpr ⟨(b, v), e, rfl⟩)
      have hb' : (b == x) = false := by simpa using hne
      rw [hb']
      exact ih h.2 e
theorem ps_ndf {lv : List (Nat × Value)} {f : Nat × Value → Bool} (h : va_nd (lv.map Prod.fst) = true) : va_nd ((lv.filter f).map Prod.fst) = true := by
  induction lv with
  | nil => rfl
  | cons a l ih =>
    simp only [List.map_cons, va_nd, Bool.and_eq_true, decide_eq_true_eq] at h
    rw [List.filter_cons]
    split
    · simp only [List.map_cons, va_nd, Bool.and_eq_true, decide_eq_true_eq]
      refine ⟨fun z => h.1 ?_, ih h.2⟩
      obtain ⟨q, hq, he⟩ := List.mem_map.mp z
      exact List.mem_map.mpr ⟨q, (List.mem_filter.mp hq).1, he⟩
    · exact ih h.2
theorem ps_nd1 {lv : List (Nat × Value)} (h : va_nd (lv.map Prod.fst) = true) (b : Nat) (v : Value) : va_nd ((ps_st1 lv b v).map Prod.fst) = true := by
  unfold ps_st1
  simp only [List.map_cons, va_nd, Bool.and_eq_true, decide_eq_true_eq]
  refine ⟨fun z => ?_, ps_ndf h⟩
  obtain ⟨q, hq, he⟩ := List.mem_map.mp z
  have := (List.mem_filter.mp hq).2
  simp [he] at this
theorem ps_nd2 {lv : List (Nat × Value)} (h : va_nd (lv.map Prod.fst) = true) (b : Nat) (v : Value) : va_nd ((ps_st2 lv b v).map Prod.fst) = true := by
  unfold ps_st2
  simp only [List.map_cons, va_nd, Bool.and_eq_true, decide_eq_true_eq]
  refine ⟨fun z => ?_, ps_ndf h⟩
  obtain ⟨q, hq, he⟩ := List.mem_map.mp z
  have := (List.mem_filter.mp hq).2
  simp [he] at this
def ps_le (l' lv : List (Nat × Value)) : Prop := va_nd (lv.map Prod.fst) = true ∧ ∀ q ∈ l', q ∈ lv
theorem ps_le.lk {l' lv : List (Nat × Value)} (h : ps_le l' lv) {b : Nat} {v : Value} (hl : l'.lookup b = some v) : lv.lookup b = some v := ps_ndk h.1 (h.2 _ (ps_lkm hl))
theorem ps_le.s1 {l' lv : List (Nat × Value)} (h : ps_le l' lv) (b : Nat) (v : Value) : ps_le (ps_st1 l' b v) (ps_st1 lv b v) := by
  refine ⟨ps_nd1 h.1 b v, fun q hq => ?_⟩
  rcases List.mem_cons.mp hq with e | e
  · rw [e]; exact List.mem_cons_self
  · have := List.mem_filter.mp e
    exact List.mem_cons_of_mem _ (List.mem_filter.mpr ⟨h.2 q this.1, this.2⟩)
theorem ps_le.s2 {l' lv : List (Nat × Value)} (h : ps_le l' lv) (b : Nat) (v : Value) : ps_le (ps_st2 l' b v) (ps_st2 lv b v) := by
  refine ⟨ps_nd2 h.1 b v, fun q hq => ?_⟩
  rcases List.mem_cons.mp hq with e | e
  · rw [e]; exact List.mem_cons_self
  · have := List.mem_filter.mp e
    exact List.mem_cons_of_mem _ (List.mem_filter.mpr ⟨h.2 q this.1, this.2⟩)
theorem ps_weak {X : Nat → Nat × (Nat → Int32)} {Cl : Nat → List Value → ps_M → Option Value → ps_M → Prop} {j : Nat} {P : ps_F → Prop} (hC : ps_Cl X Cl j P) : ps_Cl X Cl j (fun f => ∀ lv, ps_le f.2.1 lv → P (f.1, lv, f.2.2)) := by
  exact ⟨fun x0 x1 x2 x3 x4 x5 x6 x7 g0 g1 lz hz => hC.1 _ _ _ _ _ _ _ _ g0 (g1 lz hz),
    fun x0 x1 x2 x3 x4 x5 x6 x7 g0 g1 lz hz => hC.2.1 _ _ _ _ _ _ _ _ g0 (g1 lz hz),
    fun x0 x1 x2 x3 x4 x5 x6 x7 x8 g0 g1 g2 lz hz => hC.2.2.1 _ _ _ _ _ _ _ _ _ g0 (hz.lk g1) (g2 lz hz),
    fun x0 x1 x2 x3 x4 x5 x6 x7 x8 g0 g1 g2 lz hz => hC.2.2.2.1 _ _ _ _ _ _ _ _ _ g0 (hz.lk g1) (g2 lz hz),
    fun x0 x1 x2 x3 x4 x5 x6 x7 x8 g0 g1 g2 lz hz => hC.2.2.2.2.1 _ _ _ _ _ _ _ _ _ g0 (hz.lk g1) (g2 lz hz),
    fun x0 x1 x2 x3 x4 x5 x6 x7 x8 x9 g0 g1 g2 lz hz => hC.2.2.2.2.2.1 _ _ _ _ _ _ _ _ _ _ g0 rfl (g2 _ (g1 ▸ hz.s1 _ _)),
    fun x0 x1 x2 x3 x4 x5 x6 x7 x8 x9 g0 g1 g2 lz hz => hC.2.2.2.2.2.2.1 _ _ _ _ _ _ _ _ _ _ g0 rfl (g2 _ (g1 ▸ hz.s2 _ _)),
    fun x0 x1 x2 x3 x4 x5 x6 x7 x8 x9 g0 g1 g2 lz hz => hC.2.2.2.2.2.2.2.1 _ _ _ _ _ _ _ _ _ _ g0 rfl (g2 _ (g1 ▸ hz.s1 _ _)),
    fun x0 x1 x2 x3 x4 x5 x6 x7 x8 x9 g0 g1 g2 g3 lz hz => hC.2.2.2.2.2.2.2.2.1 _ _ _ _ _ _ _ _ _ _ g0 (hz.lk g1) rfl (g3 _ (g2 ▸ hz.s1 _ _)),
    fun x0 x1 x2 x3 x4 x5 x6 x7 x8 x9 g0 g1 lz hz => hC.2.2.2.2.2.2.2.2.2.1 _ _ _ _ _ _ _ _ _ _ g0 (g1 lz hz),
    fun x0 x1 x2 x3 x4 x5 x6 x7 x8 x9 g0 g1 lz hz => hC.2.2.2.2.2.2.2.2.2.2.1 _ _ _ _ _ _ _ _ _ _ g0 (g1 lz hz),
    fun x0 x1 x2 x3 x4 x5 x6 x7 x8 x9 g0 g1 lz hz => hC.2.2.2.2.2.2.2.2.2.2.2.1 _ _ _ _ _ _ _ _ _ _ g0 (g1 lz hz),
    fun x0 x1 x2 x3 x4 x5 x6 x7 x8 x9 g0 g1 lz hz => hC.2.2.2.2.2.2.2.2.2.2.2.2.1 _ _ _ _ _ _ _ _ _ _ g0 (g1 lz hz),
    fun x0 x1 x2 x3 x4 x5 x6 x7 x8 x9 g0 g1 lz hz => hC.2.2.2.2.2.2.2.2.2.2.2.2.2.1 _ _ _ _ _ _ _ _ _ _ g0 (g1 lz hz),
    fun x0 x1 x2 x3 x4 x5 x6 x7 x8 x9 g0 g1 lz hz => hC.2.2.2.2.2.2.2.2.2.2.2.2.2.2.1 _ _ _ _ _ _ _ _ _ _ g0 (g1 lz hz),
    fun x0 x1 x2 x3 x4 x5 x6 x7 x8 x9 g0 g1 lz hz => hC.2.2.2.2.2.2.2.2.2.2.2.2.2.2.2.1 _ _ _ _ _ _ _ _ _ _ g0 (g1 lz hz),
    fun x0 x1 x2 x3 x4 x5 x6 x7 x8 x9 g0 g1 lz hz => hC.2.2.2.2.2.2.2.2.2.2.2.2.2.2.2.2.1 _ _ _ _ _ _ _ _ _ _ g0 (g1 lz hz),
    fun x0 x1 x2 x3 x4 x5 x6 x7 x8 x9 g0 g1 g2 lz hz => hC.2.2.2.2.2.2.2.2.2.2.2.2.2.2.2.2.2.1 _ _ _ _ _ _ _ _ _ _ g0 g1 (g2 lz hz),
    fun x0 x1 x2 x3 x4 x5 x6 x7 x8 x9 g0 g1 g2 lz hz => hC.2.2.2.2.2.2.2.2.2.2.2.2.2.2.2.2.2.2.1 _ _ _ _ _ _ _ _ _ _ g0 g1 (g2 lz hz),
    fun x0 x1 x2 x3 x4 x5 x6 x7 x8 x9 g0 g1 lz hz => hC.2.2.2.2.2.2.2.2.2.2.2.2.2.2.2.2.2.2.2.1 _ _ _ _ _ _ _ _ _ _ g0 (g1 lz hz),
    fun x0 x1 x2 x3 x4 x5 x6 x7 x8 x9 g0 g1 lz hz => hC.2.2.2.2.2.2.2.2.2.2.2.2.2.2.2.2.2.2.2.2.1 _ _ _ _ _ _ _ _ _ _ g0 (g1 lz hz),
    fun x0 x1 x2 x3 x4 x5 x6 x7 x8 x9 g0 g1 lz hz => hC.2.2.2.2.2.2.2.2.2.2.2.2.2.2.2.2.2.2.2.2.2.1 _ _ _ _ _ _ _ _ _ _ g0 (g1 lz hz),
    fun x0 x1 x2 x3 x4 x5 x6 x7 x8 x9 g0 g1 g2 lz hz => hC.2.2.2.2.2.2.2.2.2.2.2.2.2.2.2.2.2.2.2.2.2.2.1 _ _ _ _ _ _ _ _ _ _ g0 g1 (g2 lz hz),
    fun x0 x1 x2 x3 x4 x5 x6 x7 x8 x9 g0 g1 g2 lz hz => hC.2.2.2.2.2.2.2.2.2.2.2.2.2.2.2.2.2.2.2.2.2.2.2.1 _ _ _ _ _ _ _ _ _ _ g0 g1 (g2 lz hz),
    fun x0 x1 x2 x3 x4 x5 x6 x7 x8 x9 g0 g1 lz hz => hC.2.2.2.2.2.2.2.2.2.2.2.2.2.2.2.2.2.2.2.2.2.2.2.2.1 _ _ _ _ _ _ _ _ _ _ g0 (g1 lz hz),
    fun x0 x1 x2 x3 x4 x5 x6 x7 x8 g0 g1 lz hz => hC.2.2.2.2.2.2.2.2.2.2.2.2.2.2.2.2.2.2.2.2.2.2.2.2.2.1 _ _ _ _ _ _ _ _ _ g0 (g1 lz hz),
    fun x0 x1 x2 x3 x4 x5 x6 x7 x8 g0 g1 lz hz => hC.2.2.2.2.2.2.2.2.2.2.2.2.2.2.2.2.2.2.2.2.2.2.2.2.2.2.1 _ _ _ _ _ _ _ _ _ g0 (g1 lz hz),
    fun x0 x1 x2 x3 x4 x5 x6 x7 x8 g0 g1 lz hz => hC.2.2.2.2.2.2.2.2.2.2.2.2.2.2.2.2.2.2.2.2.2.2.2.2.2.2.2.1 _ _ _ _ _ _ _ _ _ g0 (g1 lz hz),
    fun x0 x1 x2 x3 x4 x5 x6 x7 x8 g0 g1 g2 lz hz => hC.2.2.2.2.2.2.2.2.2.2.2.2.2.2.2.2.2.2.2.2.2.2.2.2.2.2.2.2.1 _ _ _ _ _ _ _ _ _ g0 g1 (g2 lz hz),
    fun x0 x1 x2 x3 x4 x5 x6 x7 x8 x9 g0 g1 g2 g3 lz hz => hC.2.2.2.2.2.2.2.2.2.2.2.2.2.2.2.2.2.2.2.2.2.2.2.2.2.2.2.2.2.1 _ _ _ _ _ _ _ _ _ _ g0 g1 g2 (g3 lz hz),
    fun x0 x1 x2 x3 x4 x5 x6 x7 x8 g0 g1 g2 lz hz => hC.2.2.2.2.2.2.2.2.2.2.2.2.2.2.2.2.2.2.2.2.2.2.2.2.2.2.2.2.2.2.1 _ _ _ _ _ _ _ _ _ g0 (fun z => g1 z lz hz) (fun z => g2 z lz hz),
    fun x0 x1 x2 x3 x4 x5 x6 x7 x8 g0 g1 g2 lz hz => hC.2.2.2.2.2.2.2.2.2.2.2.2.2.2.2.2.2.2.2.2.2.2.2.2.2.2.2.2.2.2.2.1 _ _ _ _ _ _ _ _ _ g0 (fun z => g1 z lz hz) (fun z => g2 z lz hz),
    fun x0 x1 x2 x3 x4 x5 x6 x7 x8 g0 g1 g2 lz hz => hC.2.2.2.2.2.2.2.2.2.2.2.2.2.2.2.2.2.2.2.2.2.2.2.2.2.2.2.2.2.2.2.2.1 _ _ _ _ _ _ _ _ _ g0 (fun z => g1 z lz hz) (fun z => g2 z lz hz),
    fun x0 x1 x2 x3 x4 x5 x6 x7 x8 g0 g1 g2 lz hz => hC.2.2.2.2.2.2.2.2.2.2.2.2.2.2.2.2.2.2.2.2.2.2.2.2.2.2.2.2.2.2.2.2.2.1 _ _ _ _ _ _ _ _ _ g0 (fun z => g1 z lz hz) (fun z => g2 z lz hz),
    fun x0 x1 x2 x3 x4 x5 x6 x7 x8 g0 g1 g2 lz hz => hC.2.2.2.2.2.2.2.2.2.2.2.2.2.2.2.2.2.2.2.2.2.2.2.2.2.2.2.2.2.2.2.2.2.2.1 _ _ _ _ _ _ _ _ _ g0 (fun z => g1 z lz hz) (fun z => g2 z lz hz),
    fun x0 x1 x2 x3 x4 x5 x6 x7 x8 g0 g1 g2 lz hz => hC.2.2.2.2.2.2.2.2.2.2.2.2.2.2.2.2.2.2.2.2.2.2.2.2.2.2.2.2.2.2.2.2.2.2.2.1 _ _ _ _ _ _ _ _ _ g0 (fun z => g1 z lz hz) (fun z => g2 z lz hz),
    fun x0 x1 x2 x3 x4 x5 x6 x7 x8 x9 g0 g1 g2 lz hz => hC.2.2.2.2.2.2.2.2.2.2.2.2.2.2.2.2.2.2.2.2.2.2.2.2.2.2.2.2.2.2.2.2.2.2.2.2.1 _ _ _ _ _ _ _ _ _ _ g0 (fun z => g1 z lz hz) (fun z => g2 z lz hz),
    fun x0 x1 x2 x3 x4 x5 x6 x7 x8 x9 g0 g1 g2 lz hz => hC.2.2.2.2.2.2.2.2.2.2.2.2.2.2.2.2.2.2.2.2.2.2.2.2.2.2.2.2.2.2.2.2.2.2.2.2.2.1 _ _ _ _ _ _ _ _ _ _ g0 (fun z => g1 z lz hz) (fun z => g2 z lz hz),
    fun x0 x1 x2 x3 x4 x5 x6 x7 x8 x9 g0 g1 g2 lz hz => hC.2.2.2.2.2.2.2.2.2.2.2.2.2.2.2.2.2.2.2.2.2.2.2.2.2.2.2.2.2.2.2.2.2.2.2.2.2.2.1 _ _ _ _ _ _ _ _ _ _ g0 (fun z => g1 z lz hz) (fun z => g2 z lz hz),
    fun x0 x1 x2 x3 x4 x5 x6 x7 x8 x9 g0 g1 g2 lz hz => hC.2.2.2.2.2.2.2.2.2.2.2.2.2.2.2.2.2.2.2.2.2.2.2.2.2.2.2.2.2.2.2.2.2.2.2.2.2.2.2.1 _ _ _ _ _ _ _ _ _ _ g0 (fun z => g1 z lz hz) (fun z => g2 z lz hz),
    fun x0 x1 x2 x3 x4 x5 x6 x7 x8 x9 g0 g1 g2 lz hz => hC.2.2.2.2.2.2.2.2.2.2.2.2.2.2.2.2.2.2.2.2.2.2.2.2.2.2.2.2.2.2.2.2.2.2.2.2.2.2.2.2.1 _ _ _ _ _ _ _ _ _ _ g0 (fun z => g1 z lz hz) (fun z => g2 z lz hz),
    fun x0 x1 x2 x3 x4 x5 x6 x7 x8 x9 g0 g1 g2 lz hz => hC.2.2.2.2.2.2.2.2.2.2.2.2.2.2.2.2.2.2.2.2.2.2.2.2.2.2.2.2.2.2.2.2.2.2.2.2.2.2.2.2.2.1 _ _ _ _ _ _ _ _ _ _ g0 (fun z => g1 z lz hz) (fun z => g2 z lz hz),
    fun x0 x1 x2 x3 x4 x5 x6 x7 g0 g1 lz hz => hC.2.2.2.2.2.2.2.2.2.2.2.2.2.2.2.2.2.2.2.2.2.2.2.2.2.2.2.2.2.2.2.2.2.2.2.2.2.2.2.2.2.2.1 _ _ _ _ _ _ _ _ g0 (g1 lz hz),
    fun x0 x1 x2 x3 x4 x5 x6 x7 x8 g0 g1 lz hz => hC.2.2.2.2.2.2.2.2.2.2.2.2.2.2.2.2.2.2.2.2.2.2.2.2.2.2.2.2.2.2.2.2.2.2.2.2.2.2.2.2.2.2.2.1 _ _ _ _ _ _ _ _ _ g0 (g1 lz hz),
    fun x0 x1 x2 x3 x4 x5 x6 x7 x8 x9 g0 g1 g2 g3 lz hz => hC.2.2.2.2.2.2.2.2.2.2.2.2.2.2.2.2.2.2.2.2.2.2.2.2.2.2.2.2.2.2.2.2.2.2.2.2.2.2.2.2.2.2.2.2.1 _ _ _ _ _ _ _ _ _ _ g0 g1 (fun z => g2 z lz hz) (fun a b c d => g3 a b c d lz hz),
    fun x0 x1 x2 x3 x4 x5 x6 x7 x8 x9 x10 x11 x12 g0 g1 g2 g3 g4 lz hz => hC.2.2.2.2.2.2.2.2.2.2.2.2.2.2.2.2.2.2.2.2.2.2.2.2.2.2.2.2.2.2.2.2.2.2.2.2.2.2.2.2.2.2.2.2.2.1 _ _ _ _ _ _ _ _ _ _ _ _ _ g0 g1 g2 g3 (g4 lz hz),
    fun x0 x1 x2 x3 x4 x5 x6 x7 x8 x9 x10 x11 g0 g1 g2 g3 lz hz => hC.2.2.2.2.2.2.2.2.2.2.2.2.2.2.2.2.2.2.2.2.2.2.2.2.2.2.2.2.2.2.2.2.2.2.2.2.2.2.2.2.2.2.2.2.2.2.1 _ _ _ _ _ _ _ _ _ _ _ _ g0 g1 g2 (g3 lz hz),
    fun x0 x1 x2 x3 x4 x5 x6 x7 x8 x9 x10 x11 g0 g1 g2 g3 lz hz => hC.2.2.2.2.2.2.2.2.2.2.2.2.2.2.2.2.2.2.2.2.2.2.2.2.2.2.2.2.2.2.2.2.2.2.2.2.2.2.2.2.2.2.2.2.2.2.2.1 _ _ _ _ _ _ _ _ _ _ _ _ g0 g1 g2 (g3 lz hz),
    fun x0 x1 x2 x3 x4 x5 x6 x7 x8 x9 x10 x11 x12 x13 g0 g1 g2 g3 g4 lz hz => hC.2.2.2.2.2.2.2.2.2.2.2.2.2.2.2.2.2.2.2.2.2.2.2.2.2.2.2.2.2.2.2.2.2.2.2.2.2.2.2.2.2.2.2.2.2.2.2.2.1 _ _ _ _ _ _ _ _ _ _ _ _ _ _ g0 g1 g2 g3 (g4 lz hz),
    fun x0 x1 x2 x3 x4 x5 x6 x7 x8 x9 x10 x11 x12 g0 g1 g2 g3 lz hz => hC.2.2.2.2.2.2.2.2.2.2.2.2.2.2.2.2.2.2.2.2.2.2.2.2.2.2.2.2.2.2.2.2.2.2.2.2.2.2.2.2.2.2.2.2.2.2.2.2.2.1 _ _ _ _ _ _ _ _ _ _ _ _ _ g0 g1 g2 (g3 lz hz),
    fun x0 x1 x2 x3 x4 x5 x6 x7 x8 x9 x10 x11 x12 g0 g1 g2 g3 lz hz => hC.2.2.2.2.2.2.2.2.2.2.2.2.2.2.2.2.2.2.2.2.2.2.2.2.2.2.2.2.2.2.2.2.2.2.2.2.2.2.2.2.2.2.2.2.2.2.2.2.2.2.1 _ _ _ _ _ _ _ _ _ _ _ _ _ g0 g1 g2 (g3 lz hz),
    fun x0 x1 x2 x3 x4 x5 x6 x7 g0 g1 lz hz => hC.2.2.2.2.2.2.2.2.2.2.2.2.2.2.2.2.2.2.2.2.2.2.2.2.2.2.2.2.2.2.2.2.2.2.2.2.2.2.2.2.2.2.2.2.2.2.2.2.2.2.2.1 _ _ _ _ _ _ _ _ g0 (g1 lz hz),
    fun x0 x1 x2 x3 x4 x5 x6 x7 x8 x9 x10 g0 g1 g2 g3 lz hz => hC.2.2.2.2.2.2.2.2.2.2.2.2.2.2.2.2.2.2.2.2.2.2.2.2.2.2.2.2.2.2.2.2.2.2.2.2.2.2.2.2.2.2.2.2.2.2.2.2.2.2.2.2.1 _ _ _ _ _ _ _ _ _ _ _ g0 g1 g2 (g3 lz hz),
    fun x0 x1 x2 x3 x4 x5 x6 x7 x8 x9 g0 g1 g2 g3 lz hz => hC.2.2.2.2.2.2.2.2.2.2.2.2.2.2.2.2.2.2.2.2.2.2.2.2.2.2.2.2.2.2.2.2.2.2.2.2.2.2.2.2.2.2.2.2.2.2.2.2.2.2.2.2.2.1 _ _ _ _ _ _ _ _ _ _ g0 g1 g2 (g3 lz hz),
    fun x0 x1 x2 x3 x4 x5 x6 x7 x8 x9 x10 x11 g0 g1 g2 g3 lz hz => hC.2.2.2.2.2.2.2.2.2.2.2.2.2.2.2.2.2.2.2.2.2.2.2.2.2.2.2.2.2.2.2.2.2.2.2.2.2.2.2.2.2.2.2.2.2.2.2.2.2.2.2.2.2.2.1 _ _ _ _ _ _ _ _ _ _ _ _ g0 g1 g2 (g3 lz hz),
    fun x0 x1 x2 x3 x4 x5 x6 x7 x8 x9 x10 g0 g1 g2 g3 lz hz => hC.2.2.2.2.2.2.2.2.2.2.2.2.2.2.2.2.2.2.2.2.2.2.2.2.2.2.2.2.2.2.2.2.2.2.2.2.2.2.2.2.2.2.2.2.2.2.2.2.2.2.2.2.2.2.2.1 _ _ _ _ _ _ _ _ _ _ _ g0 g1 g2 (g3 lz hz),
    fun x0 x1 x2 x3 x4 x5 x6 x7 x8 x9 x10 x11 g0 g1 g2 g3 lz hz => hC.2.2.2.2.2.2.2.2.2.2.2.2.2.2.2.2.2.2.2.2.2.2.2.2.2.2.2.2.2.2.2.2.2.2.2.2.2.2.2.2.2.2.2.2.2.2.2.2.2.2.2.2.2.2.2.2.1 _ _ _ _ _ _ _ _ _ _ _ _ g0 g1 g2 (g3 lz hz),
    fun x0 x1 x2 x3 x4 x5 x6 x7 x8 x9 x10 x11 g0 g1 g2 g3 g4 g5 lz hz => hC.2.2.2.2.2.2.2.2.2.2.2.2.2.2.2.2.2.2.2.2.2.2.2.2.2.2.2.2.2.2.2.2.2.2.2.2.2.2.2.2.2.2.2.2.2.2.2.2.2.2.2.2.2.2.2.2.2.1 _ _ _ _ _ _ _ _ _ _ _ _ g0 g1 g2 g3 g4 (g5 lz hz),
    fun x0 x1 x2 x3 x4 x5 x6 x7 x8 x9 x10 x11 x12 x13 g0 g1 g2 g3 g4 g5 g6 lz hz => hC.2.2.2.2.2.2.2.2.2.2.2.2.2.2.2.2.2.2.2.2.2.2.2.2.2.2.2.2.2.2.2.2.2.2.2.2.2.2.2.2.2.2.2.2.2.2.2.2.2.2.2.2.2.2.2.2.2.2.1 _ _ _ _ _ _ _ _ _ _ _ _ _ _ g0 g1 g2 g3 g4 g5 (g6 lz hz),
    fun x0 x1 x2 x3 x4 x5 x6 x7 x8 x9 x10 g0 g1 g2 g3 g4 lz hz => hC.2.2.2.2.2.2.2.2.2.2.2.2.2.2.2.2.2.2.2.2.2.2.2.2.2.2.2.2.2.2.2.2.2.2.2.2.2.2.2.2.2.2.2.2.2.2.2.2.2.2.2.2.2.2.2.2.2.2.2.1 _ _ _ _ _ _ _ _ _ _ _ g0 g1 g2 g3 (g4 lz hz),
    fun x0 x1 x2 x3 x4 x5 x6 x7 x8 g0 g1 g2 lz hz => hC.2.2.2.2.2.2.2.2.2.2.2.2.2.2.2.2.2.2.2.2.2.2.2.2.2.2.2.2.2.2.2.2.2.2.2.2.2.2.2.2.2.2.2.2.2.2.2.2.2.2.2.2.2.2.2.2.2.2.2.2.1 _ _ _ _ _ _ _ _ _ g0 g1 (g2 lz hz),
    fun x0 x1 x2 x3 x4 x5 x6 x7 x8 x9 x10 x11 x12 g0 g1 g2 g3 g4 g5 g6 lz hz => hC.2.2.2.2.2.2.2.2.2.2.2.2.2.2.2.2.2.2.2.2.2.2.2.2.2.2.2.2.2.2.2.2.2.2.2.2.2.2.2.2.2.2.2.2.2.2.2.2.2.2.2.2.2.2.2.2.2.2.2.2.2.1 _ _ _ _ _ _ _ _ _ _ _ _ _ g0 g1 g2 g3 g4 g5 (g6 lz hz),
    fun x0 x1 x2 x3 x4 x5 x6 x7 x8 x9 x10 x11 x12 g0 g1 g2 g3 g4 g5 g6 lz hz => hC.2.2.2.2.2.2.2.2.2.2.2.2.2.2.2.2.2.2.2.2.2.2.2.2.2.2.2.2.2.2.2.2.2.2.2.2.2.2.2.2.2.2.2.2.2.2.2.2.2.2.2.2.2.2.2.2.2.2.2.2.2.2.1 _ _ _ _ _ _ _ _ _ _ _ _ _ g0 g1 g2 g3 g4 g5 (g6 lz hz),
    fun x0 x1 x2 x3 x4 x5 x6 x7 x8 x9 x10 x11 x12 x13 x14 x15 g0 g1 g2 g3 g4 g5 g6 g7 g8 lz hz => hC.2.2.2.2.2.2.2.2.2.2.2.2.2.2.2.2.2.2.2.2.2.2.2.2.2.2.2.2.2.2.2.2.2.2.2.2.2.2.2.2.2.2.2.2.2.2.2.2.2.2.2.2.2.2.2.2.2.2.2.2.2.2.2.1 _ _ _ _ _ _ _ _ _ _ _ _ _ _ _ _ g0 g1 g2 g3 g4 g5 g6 g7 (g8 lz hz),
    fun x0 x1 x2 x3 x4 x5 x6 x7 x8 x9 g0 g1 g2 g3 g4 lz hz => hC.2.2.2.2.2.2.2.2.2.2.2.2.2.2.2.2.2.2.2.2.2.2.2.2.2.2.2.2.2.2.2.2.2.2.2.2.2.2.2.2.2.2.2.2.2.2.2.2.2.2.2.2.2.2.2.2.2.2.2.2.2.2.2.2.1 _ _ _ _ _ _ _ _ _ _ g0 g1 g2 g3 (g4 lz hz),
    fun x0 x1 x2 x3 x4 x5 x6 x7 x8 x9 g0 g1 g2 g3 g4 lz hz => hC.2.2.2.2.2.2.2.2.2.2.2.2.2.2.2.2.2.2.2.2.2.2.2.2.2.2.2.2.2.2.2.2.2.2.2.2.2.2.2.2.2.2.2.2.2.2.2.2.2.2.2.2.2.2.2.2.2.2.2.2.2.2.2.2.2.1 _ _ _ _ _ _ _ _ _ _ g0 g1 g2 g3 (g4 lz hz),
    fun x0 x1 x2 x3 x4 x5 x6 x7 g0 g1 lz hz => hC.2.2.2.2.2.2.2.2.2.2.2.2.2.2.2.2.2.2.2.2.2.2.2.2.2.2.2.2.2.2.2.2.2.2.2.2.2.2.2.2.2.2.2.2.2.2.2.2.2.2.2.2.2.2.2.2.2.2.2.2.2.2.2.2.2.2.1 _ _ _ _ _ _ _ _ g0 (g1 lz hz),
    fun x0 x1 x2 x3 x4 x5 x6 x7 x8 g0 g1 g2 lz hz => hC.2.2.2.2.2.2.2.2.2.2.2.2.2.2.2.2.2.2.2.2.2.2.2.2.2.2.2.2.2.2.2.2.2.2.2.2.2.2.2.2.2.2.2.2.2.2.2.2.2.2.2.2.2.2.2.2.2.2.2.2.2.2.2.2.2.2.2.1 _ _ _ _ _ _ _ _ _ g0 g1 (g2 lz hz),
    fun x0 x1 x2 x3 x4 x5 x6 x7 x8 x9 x10 x11 x12 x13 x14 g0 g1 g2 g3 g4 g5 g6 g7 g8 g9 lz hz => hC.2.2.2.2.2.2.2.2.2.2.2.2.2.2.2.2.2.2.2.2.2.2.2.2.2.2.2.2.2.2.2.2.2.2.2.2.2.2.2.2.2.2.2.2.2.2.2.2.2.2.2.2.2.2.2.2.2.2.2.2.2.2.2.2.2.2.2.2.1 _ _ _ _ _ _ _ _ _ _ _ _ _ _ _ g0 g1 g2 g3 g4 g5 g6 g7 g8 (g9 lz hz),
    fun x0 x1 x2 x3 x4 x5 x6 x7 x8 x9 g0 g1 g2 lz hz => hC.2.2.2.2.2.2.2.2.2.2.2.2.2.2.2.2.2.2.2.2.2.2.2.2.2.2.2.2.2.2.2.2.2.2.2.2.2.2.2.2.2.2.2.2.2.2.2.2.2.2.2.2.2.2.2.2.2.2.2.2.2.2.2.2.2.2.2.2.2.1 _ _ _ _ _ _ _ _ _ _ g0 g1 (g2 lz hz),
    fun x0 x1 x2 x3 x4 x5 x6 x7 x8 x9 g0 g1 g2 lz hz => hC.2.2.2.2.2.2.2.2.2.2.2.2.2.2.2.2.2.2.2.2.2.2.2.2.2.2.2.2.2.2.2.2.2.2.2.2.2.2.2.2.2.2.2.2.2.2.2.2.2.2.2.2.2.2.2.2.2.2.2.2.2.2.2.2.2.2.2.2.2.2 _ _ _ _ _ _ _ _ _ _ g0 g1 (g2 lz hz)⟩
/-- fewer locals, in any order -/
theorem e_lv {X : Nat → Nat × (Nat → Int32)} {Cl : Nat → List Value → ps_M → Option Value → ps_M → Prop} {j : Nat} {r : Option Value} {μ' : ps_M} {pc : Nat} {lv l' : List (Nat × Value)} {st : List Value} {μ : ps_M} (ks : List Nat) (hn : va_nd (lv.map Prod.fst) = true) (hl : lv_pick lv ks = l') (h : ps_To X Cl j (ps_rt j r μ') (pc, l', st, μ)) : ps_To X Cl j (ps_rt j r μ') (pc, lv, st, μ) := by
  intro P hC hK
  refine h _ (ps_weak hC) (fun f hf l2 _ => hK _ hf) lv ⟨hn, fun q hq => ?_⟩
  rw [← hl] at hq
  obtain ⟨k, -, hk⟩ := List.mem_filterMap.mp hq
  exact List.mem_of_getElem? hk
