-- ===== worlds of the abstract memory =====
def ps_ph (base : Nat) (ex : Nat → Nat) (k : Nat) : Nat := if k < ps_X then base + k else ex (k - ps_X)
def ps_cv (φ : Nat → Nat) (v : Value) : Value := match v with
  | .ref k => .ref (φ k)
  | v => v
theorem ps_cv_cat (φ : Nat → Nat) (v : Value) : (ps_cv φ v).category = v.category := by cases v <;> rfl
theorem ps_cv_rf (φ : Nat → Nat) (r : Option Nat) : ps_cv φ (va_rf r) = va_rf (r.map φ) := by cases r <;> rfl
theorem ps_cv_sum (φ : Nat → Nat) (st : List Value) : ((st.map (ps_cv φ)).map fun v => v.category).sum = (st.map fun v => v.category).sum := by
  rw [List.map_map]
  congr 1
  apply List.map_congr_left
  intro v _
  exact ps_cv_cat φ v
def ps_fv (φ : Nat → Nat) (μ : ps_M) (tc k i : Nat) : Value := if tc = 1 then .long (ps_l μ k i) else if tc = 2 then va_rf ((ps_r μ k i).map φ) else .int (ps_i μ k i)
def ps_ce (φ : Nat → Nat) (cA : Nat → ClassId) (μ : ps_M) (k : Nat) : va_E :=
  if (ps_s μ k).1 < 10 then .inr ((ps_s μ k).1, (List.range (ps_nf (ps_s μ k).1)).map (fun i => ps_fv φ μ (ps_tc (ps_s μ k).1 i) k i))
  else if (ps_s μ k).1 < 12 then .inl (cA (ps_s μ k).1, (ps_s μ k).2, .inl (ps_i μ k))
  else .inl (cA (ps_s μ k).1, (ps_s μ k).2, .inr (.inr (.inr (.inr (fun i => (ps_r μ k i).map φ)))))
def ps_ws (φ : Nat → Nat) (cA : Nat → ClassId) (μ : ps_M) : va_W := (List.range (ps_n μ)).map (fun k => (φ k, ps_ce φ cA μ k))
theorem ps_ws_get {φ : Nat → Nat} {cA : Nat → ClassId} {μ : ps_M} {k : Nat} (h : k < ps_n μ) : (ps_ws φ cA μ)[k]? = some (φ k, ps_ce φ cA μ k) := by
  simp [ps_ws, h]
theorem ps_ws_set {φ : Nat → Nat} {cA : Nat → ClassId} {μ μ' : ps_M} {k : Nat} {e : va_E} (hn : ps_n μ' = ps_n μ) (he : ps_ce φ cA μ' k = e) (ho : ∀ j, j ≠ k → ps_ce φ cA μ' j = ps_ce φ cA μ j) : (ps_ws φ cA μ).set k (φ k, e) = ps_ws φ cA μ' := by
  apply List.ext_getElem?
  intro i
  rw [List.getElem?_set]
  by_cases hi : k = i
  · subst hi
    rw [if_pos rfl]
    by_cases hk : k < ps_n μ
    · rw [if_pos (by simp [ps_ws, hk]), ps_ws_get (by rw [hn]; exact hk), he]
    · rw [if_neg (by simp [ps_ws, hk])]
      simp [ps_ws, hn, hk]
  · rw [if_neg hi]
    by_cases hk : i < ps_n μ
    · rw [ps_ws_get hk, ps_ws_get (by rw [hn]; exact hk), ho i (fun h => hi h.symm)]
    · simp [ps_ws, hn, hk]
theorem ps_ws_push {φ : Nat → Nat} {cA : Nat → ClassId} {μ μ' : ps_M} {a : Nat} {e : va_E} (hn : ps_n μ' = ps_n μ + 1) (ha : φ (ps_n μ) = a) (he : ps_ce φ cA μ' (ps_n μ) = e) (ho : ∀ j, j < ps_n μ → ps_ce φ cA μ' j = ps_ce φ cA μ j) : ps_ws φ cA μ ++ [(a, e)] = ps_ws φ cA μ' := by
  unfold ps_ws
  rw [hn, List.range_succ, List.map_append]
  congr 1
  · apply List.map_congr_left
    intro j hj
    rw [ho j (List.mem_range.mp hj)]
  · simp [ha, he]
theorem ps_D {base : Nat} {ex : Nat → Nat} {cA : Nat → ClassId} {μ : ps_M} (h : ps_n μ ≤ ps_X) : va_D (fun q => base ≤ q) (ps_ws (ps_ph base ex) cA μ) := by
  have key : ∀ (k : Nat) (q : Nat × va_E), (ps_ws (ps_ph base ex) cA μ)[k]? = some q → q.1 = base + k := by
    intro k q hq
    have hk : k < ps_n μ := by
      have := (List.getElem?_eq_some_iff.mp hq).1
      simpa [ps_ws] using this
    rw [ps_ws_get hk] at hq
    cases hq
    show ps_ph base ex k = base + k
    unfold ps_ph
    rw [if_pos (Nat.lt_of_lt_of_le hk h)]
  refine ⟨fun i j p q hi hj hpq => ?_, fun k q hk => ?_⟩
  · have h1 := key i p hi
    have h2 := key j q hj
    omega
  · have h1 := key k q hk
    show base ≤ q.1
    omega
/-- a memory that differs in one cell's ints -/
theorem ps_ce_sI {φ : Nat → Nat} {cA : Nat → ClassId} {μ : ps_M} {k i : Nat} {v : Int32} {j : Nat} (h : j ≠ k) : ps_ce φ cA (ps_sI μ k i v) j = ps_ce φ cA μ j := by
  have e : ps_i (ps_sI μ k i v) j = ps_i μ j := by
    funext b
    show ps_up (ps_i μ) k i v j b = ps_i μ j b
    unfold ps_up
    rw [if_neg (fun q => h q.1)]
  unfold ps_ce ps_fv
  rw [e]
  rfl
theorem ps_ce_sL {φ : Nat → Nat} {cA : Nat → ClassId} {μ : ps_M} {k i : Nat} {v : Int64} {j : Nat} (h : j ≠ k) : ps_ce φ cA (ps_sL μ k i v) j = ps_ce φ cA μ j := by
  have e : ps_l (ps_sL μ k i v) j = ps_l μ j := by
    funext b
    show ps_up (ps_l μ) k i v j b = ps_l μ j b
    unfold ps_up
    rw [if_neg (fun q => h q.1)]
  unfold ps_ce ps_fv
  rw [e]
  rfl
theorem ps_ce_sR {φ : Nat → Nat} {cA : Nat → ClassId} {μ : ps_M} {k i : Nat} {v : Option Nat} {j : Nat} (h : j ≠ k) : ps_ce φ cA (ps_sR μ k i v) j = ps_ce φ cA μ j := by
  have e : ps_r (ps_sR μ k i v) j = ps_r μ j := by
    funext b
    show ps_up (ps_r μ) k i v j b = ps_r μ j b
    unfold ps_up
    rw [if_neg (fun q => h q.1)]
  unfold ps_ce ps_fv
  rw [e]
  rfl
theorem ps_ce_cp {φ : Nat → Nat} {cA : Nat → ClassId} {μ : ps_M} {k0 sp k1 dp n : Nat} {j : Nat} (h : j ≠ k1) : ps_ce φ cA (ps_cp μ k0 sp k1 dp n) j = ps_ce φ cA μ j := by
  have e : ps_i (ps_cp μ k0 sp k1 dp n) j = ps_i μ j := by
    funext b
    show (if j = k1 then va_cpy (ps_i μ k0) (ps_i μ k1) sp dp n b else ps_i μ j b) = ps_i μ j b
    rw [if_neg h]
  unfold ps_ce ps_fv
  rw [e]
  rfl
theorem ps_ce_nw {φ : Nat → Nat} {cA : Nat → ClassId} {μ : ps_M} {kd len sz : Nat} {j : Nat} (h : j < ps_n μ) : ps_ce φ cA (ps_nw μ kd len sz) j = ps_ce φ cA μ j := by
  have hne : j ≠ ps_n μ := Nat.ne_of_lt h
  have e : ps_i (ps_nw μ kd len sz) j = ps_i μ j := by
    funext b
    show (if j = ps_n μ then 0 else ps_i μ j b) = ps_i μ j b
    rw [if_neg hne]
  have e1 : ps_l (ps_nw μ kd len sz) j = ps_l μ j := by
    funext b
    show (if j = ps_n μ then 0 else ps_l μ j b) = ps_l μ j b
    rw [if_neg hne]
  have e2 : ps_r (ps_nw μ kd len sz) j = ps_r μ j := by
    funext b
    show (if j = ps_n μ then none else ps_r μ j b) = ps_r μ j b
    rw [if_neg hne]
  have e3 : ps_s (ps_nw μ kd len sz) j = ps_s μ j := by
    show (if j = ps_n μ then (kd, len) else ps_s μ j) = ps_s μ j
    rw [if_neg hne]
  unfold ps_ce ps_fv
  rw [e, e1, e2, e3]
/-- an object's cell -/
theorem ps_ce_ob {φ : Nat → Nat} {cA : Nat → ClassId} {μ : ps_M} {k ci z : Nat} (h : ps_s μ k = (ci, z)) (hc : ci < 10) : ps_ce φ cA μ k = .inr (ci, (List.range (ps_nf ci)).map (fun i => ps_fv φ μ (ps_tc ci i) k i)) := by
  unfold ps_ce
  rw [h, if_pos hc]
theorem ps_ce_in {φ : Nat → Nat} {cA : Nat → ClassId} {μ : ps_M} {k kd n : Nat} (h : ps_s μ k = (kd, n)) (h1 : 10 ≤ kd) (h2 : kd < 12) : ps_ce φ cA μ k = .inl (cA kd, n, .inl (ps_i μ k)) := by
  unfold ps_ce
  rw [h, if_neg (Nat.not_lt.mpr h1), if_pos h2]
theorem ps_ce_rf {φ : Nat → Nat} {cA : Nat → ClassId} {μ : ps_M} {k kd n : Nat} (h : ps_s μ k = (kd, n)) (h1 : 12 ≤ kd) : ps_ce φ cA μ k = .inl (cA kd, n, .inr (.inr (.inr (.inr (fun i => (ps_r μ k i).map φ))))) := by
  unfold ps_ce
  rw [h, if_neg (show ¬ kd < 10 by omega), if_neg (show ¬ kd < 12 by omega)]
theorem ps_set_map {α : Type} (f g : Nat → α) (n k : Nat) (v : α) (hk : g k = v) (ho : ∀ i, i ≠ k → g i = f i) : ((List.range n).map f).set k v = (List.range n).map g := by
  apply List.ext_getElem?
  intro i
  rw [List.getElem?_set]
  by_cases hi : k = i
  · subst hi
    rw [if_pos rfl]
    by_cases hn : k < n
    · rw [if_pos (by simpa using hn)]; simp [hn, hk]
    · rw [if_neg (by simpa using hn)]; simp [hn]
  · rw [if_neg hi]
    by_cases hn : i < n
    · simp [hn, ho i (fun h => hi h.symm)]
    · simp [hn]
theorem ps_lkm {lv : List (Nat × Value)} {b : Nat} {v : Value} (h : lv.lookup b = some v) : (b, v) ∈ lv := by
  induction lv with
  | nil => cases h
  | cons a l ih =>
    obtain ⟨x, y⟩ := a
    rw [List.lookup_cons] at h
    by_cases hb : b = x
    · subst hb
      rw [beq_self_eq_true] at h
      cases h
      exact List.mem_cons_self
    · have hb' : (b == x) = false := by simpa using hb
      rw [hb'] at h
      exact List.mem_cons_of_mem _ (ih h)
def ps_lm (φ : Nat → Nat) (lv : List (Nat × Value)) : List (Nat × Value) := lv.map (fun q => (q.1, ps_cv φ q.2))
theorem ps_lk {φ : Nat → Nat} {ls : Array Slot} {nL b : Nat} {lv : List (Nat × Value)} {v : Value} (hl : lv_has ls nL (ps_lm φ lv)) (h : lv.lookup b = some v) : ls[b]? = some (.val (ps_cv φ v)) :=
  hl.2.2 (b, ps_cv φ v) (List.mem_map.mpr ⟨(b, v), ps_lkm h, rfl⟩)
theorem ps_lki {φ : Nat → Nat} {b : Nat} {lv : List (Nat × Value)} {v : Value} (h : lv.lookup b = some v) : ∃ k : Nat, (ps_lm φ lv)[k]? = some (b, ps_cv φ v) :=
  List.getElem?_of_mem (List.mem_map.mpr ⟨(b, v), ps_lkm h, rfl⟩)
theorem ps_st1m (φ : Nat → Nat) (lv : List (Nat × Value)) (b : Nat) (v : Value) : (b, ps_cv φ v) :: (ps_lm φ lv).filter (fun q => !(q.1 == b) && !(q.1 + 1 == b && q.2.category == 2)) = ps_lm φ (ps_st1 lv b v) := by
  unfold ps_lm ps_st1
  rw [List.map_cons, List.filter_map]
  congr 2
  apply List.filter_congr
  intro q _
  simp only [Function.comp, ps_cv_cat]
theorem ps_st2m (φ : Nat → Nat) (lv : List (Nat × Value)) (b : Nat) (v : Value) : (b, ps_cv φ v) :: (ps_lm φ lv).filter (fun q => !(q.1 == b) && (!(q.1 == b + 1) && !(q.1 + 1 == b && q.2.category == 2))) = ps_lm φ (ps_st2 lv b v) := by
  unfold ps_lm ps_st2
  rw [List.map_cons, List.filter_map]
  congr 2
  apply List.filter_congr
  intro q _
  simp only [Function.comp, ps_cv_cat]
theorem ps_lm_args (φ : Nat → Nat) : ∀ (as : List Value) (i : Nat), lv_args i (as.map (ps_cv φ)) = ps_lm φ (lv_args i as)
  | [], _ => rfl
  | a :: as, i => by
    show (i, ps_cv φ a) :: lv_args (if (ps_cv φ a).category = 2 then i + 2 else i + 1) (as.map (ps_cv φ)) = (i, ps_cv φ a) :: ps_lm φ (lv_args (if a.category = 2 then i + 2 else i + 1) as)
    rw [ps_cv_cat, ps_lm_args φ as]
