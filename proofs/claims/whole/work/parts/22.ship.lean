-- ===== a ship as 27 numbers: 0 water 1 leak 2 cargo 3 thrown 4 hours 5 passed 6 choke 7 sail 8 gangs, 9+i kinds, 15+i forces, 21+i strengths =====
def ps_wI (μ : ps_M) (I : Nat → Nat → Int32) : ps_M := (ps_n μ, ps_w μ, ps_s μ, I, ps_l μ, ps_r μ)
def shG (I : Nat → Nat → Int32) (b : Nat) : Nat → Int32 := fun k => if k < 9 then I b k else if k < 15 then I (b + 1) (k - 9) else if k < 21 then I (b + 2) (k - 15) else if k < 27 then I (b + 3) (k - 21) else 0
def shP (I : Nat → Nat → Int32) (b : Nat) (σ : Nat → Int32) : Nat → Nat → Int32 := fun a i => if a = b ∧ i < 9 then σ i else if a = b + 1 ∧ i < 6 then σ (9 + i) else if a = b + 2 ∧ i < 6 then σ (15 + i) else if a = b + 3 ∧ i < 6 then σ (21 + i) else I a i
def SM (μ : ps_M) (b : Nat) (σ : Nat → Int32) : ps_M := ps_wI μ (shP (ps_i μ) b σ)
def isSh (μ : ps_M) (b : Nat) : Prop := ps_s μ b = (3, 0) ∧ ps_s μ (b + 1) = (10, 6) ∧ ps_s μ (b + 2) = (10, 6) ∧ ps_s μ (b + 3) = (10, 6) ∧ ps_r μ b 9 = some (b + 1) ∧ ps_r μ b 10 = some (b + 2) ∧ ps_r μ b 11 = some (b + 3)
theorem isSh.wI {μ : ps_M} {b : Nat} {I : Nat → Nat → Int32} (h : isSh μ b) : isSh (ps_wI μ I) b := h
theorem isSh.SM {μ : ps_M} {b c : Nat} {σ : Nat → Int32} (h : isSh μ b) : isSh (SM μ c σ) b := h
theorem ps_i_wI (μ : ps_M) (I : Nat → Nat → Int32) : ps_i (ps_wI μ I) = I := rfl
theorem ps_i_SM (μ : ps_M) (b : Nat) (σ : Nat → Int32) : ps_i (SM μ b σ) = shP (ps_i μ) b σ := rfl
theorem ps_M_ext {μ ν : ps_M} (h1 : ps_n μ = ps_n ν) (h2 : ps_w μ = ps_w ν) (h3 : ps_s μ = ps_s ν) (h4 : ps_i μ = ps_i ν) (h5 : ps_l μ = ps_l ν) (h6 : ps_r μ = ps_r ν) : μ = ν := by
  obtain ⟨a, b, c, d, e, f⟩ := μ
  obtain ⟨a', b', c', d', e', f'⟩ := ν
  cases h1; cases h2; cases h3; cases h4; cases h5; cases h6
  rfl
theorem ps_wI_self (μ : ps_M) : ps_wI μ (ps_i μ) = μ := rfl
theorem SM_g {μ : ps_M} {b i : Nat} {σ : Nat → Int32} (h : i < 9) : ps_i (SM μ b σ) b i = σ i := by
  show shP (ps_i μ) b σ b i = σ i
  unfold shP
  rw [if_pos ⟨rfl, h⟩]
theorem SM_k {μ : ps_M} {b i : Nat} {σ : Nat → Int32} (h : i < 6) : ps_i (SM μ b σ) (b + 1) i = σ (9 + i) := by
  show shP (ps_i μ) b σ (b + 1) i = _
  unfold shP
  rw [if_neg (by omega), if_pos ⟨rfl, h⟩]
theorem SM_f {μ : ps_M} {b i : Nat} {σ : Nat → Int32} (h : i < 6) : ps_i (SM μ b σ) (b + 2) i = σ (15 + i) := by
  show shP (ps_i μ) b σ (b + 2) i = _
  unfold shP
  rw [if_neg (by omega), if_neg (by omega), if_pos ⟨rfl, h⟩]
theorem SM_s {μ : ps_M} {b i : Nat} {σ : Nat → Int32} (h : i < 6) : ps_i (SM μ b σ) (b + 3) i = σ (21 + i) := by
  show shP (ps_i μ) b σ (b + 3) i = _
  unfold shP
  rw [if_neg (by omega), if_neg (by omega), if_neg (by omega), if_pos ⟨rfl, h⟩]
theorem SM_off {μ : ps_M} {b a i : Nat} {σ : Nat → Int32} (h : a < b ∨ b + 3 < a) : ps_i (SM μ b σ) a i = ps_i μ a i := by
  show shP (ps_i μ) b σ a i = _
  unfold shP
  rw [if_neg (by omega), if_neg (by omega), if_neg (by omega), if_neg (by omega)]
theorem SM_eq {μ : ps_M} {b : Nat} {σ τ : Nat → Int32} (h : ∀ k, k < 27 → σ k = τ k) : SM μ b σ = SM μ b τ := by
  unfold SM
  congr 1
  funext a i
  unfold shP
  split
  · exact h i (by omega)
  · split
    · exact h _ (by omega)
    · split
      · exact h _ (by omega)
      · split
        · exact h _ (by omega)
        · rfl
theorem SM_pg {μ : ps_M} {b i : Nat} {σ : Nat → Int32} {v : Int32} (h : i < 9) : ps_sI (SM μ b σ) b i v = SM μ b (upd σ i v) := by
  show ps_wI μ (ps_up (shP (ps_i μ) b σ) b i v) = ps_wI μ (shP (ps_i μ) b (upd σ i v))
  congr 1
  funext a q
  unfold ps_up shP upd
  grind
theorem SM_pk {μ : ps_M} {b i : Nat} {σ : Nat → Int32} {v : Int32} (h : i < 6) : ps_sI (SM μ b σ) (b + 1) i v = SM μ b (upd σ (9 + i) v) := by
  show ps_wI μ (ps_up (shP (ps_i μ) b σ) (b + 1) i v) = ps_wI μ (shP (ps_i μ) b (upd σ (9 + i) v))
  congr 1
  funext a q
  unfold ps_up shP upd
  grind
theorem SM_pf {μ : ps_M} {b i : Nat} {σ : Nat → Int32} {v : Int32} (h : i < 6) : ps_sI (SM μ b σ) (b + 2) i v = SM μ b (upd σ (15 + i) v) := by
  show ps_wI μ (ps_up (shP (ps_i μ) b σ) (b + 2) i v) = ps_wI μ (shP (ps_i μ) b (upd σ (15 + i) v))
  congr 1
  funext a q
  unfold ps_up shP upd
  grind
theorem SM_ps {μ : ps_M} {b i : Nat} {σ : Nat → Int32} {v : Int32} (h : i < 6) : ps_sI (SM μ b σ) (b + 3) i v = SM μ b (upd σ (21 + i) v) := by
  show ps_wI μ (ps_up (shP (ps_i μ) b σ) (b + 3) i v) = ps_wI μ (shP (ps_i μ) b (upd σ (21 + i) v))
  congr 1
  funext a q
  unfold ps_up shP upd
  grind
theorem SM_self (μ : ps_M) (b : Nat) : SM μ b (shG (ps_i μ) b) = μ := by
  have e : shP (ps_i μ) b (shG (ps_i μ) b) = ps_i μ := by
    funext a q
    unfold shP shG
    grind
  unfold SM
  rw [e]
  rfl
theorem SM_SM (μ : ps_M) (b : Nat) (σ τ : Nat → Int32) : SM (SM μ b σ) b τ = SM μ b τ := by
  have e : shP (shP (ps_i μ) b σ) b τ = shP (ps_i μ) b τ := by
    funext a q
    unfold shP
    grind
  show ps_wI μ (shP (shP (ps_i μ) b σ) b τ) = ps_wI μ (shP (ps_i μ) b τ)
  rw [e]
theorem shG_SM {μ : ps_M} {b k : Nat} {σ : Nat → Int32} (h : k < 27) : shG (ps_i (SM μ b σ)) b k = σ k := by
  rw [ps_i_SM]
  unfold shG shP
  grind
theorem shG_off {μ : ps_M} {b c : Nat} {σ : Nat → Int32} (h : c + 3 < b ∨ b + 3 < c) : shG (ps_i (SM μ b σ)) c = shG (ps_i μ) c := by
  funext k
  rw [ps_i_SM]
  unfold shG shP
  grind
section ESH
variable {X : Nat → Nat × (Nat → Int32)} {Cl : Nat → List Value → ps_M → Option Value → ps_M → Prop} {j : Nat} {K : ps_F → Prop} {pc : Nat} {v : Int32} {w : Int64} {nx b : Nat} {lv : List (Nat × Value)} {st : List Value} {μ : ps_M} {q sl tc : Nat} {σ : Nat → Int32}
theorem s_gi (hb : isSh μ q) (h0 : ps_ins j pc = some (45, v, w, nx, b)) (h2 : ps_f2 b 3 = some (sl, tc)) (ht : tc = 0 ∨ tc = 3) (h9 : sl < 9) (h3 : ps_To X Cl j K (nx, lv, .int (σ sl) :: st, SM μ q σ)) : ps_To X Cl j K (pc, lv, .ref q :: st, SM μ q σ) := e_gi h0 hb.1 h2 ht (by rw [SM_g h9]; exact h3)
theorem s_pi {x : Int32} (hb : isSh μ q) (h0 : ps_ins j pc = some (46, v, w, nx, b)) (h2 : ps_f2 b 3 = some (sl, tc)) (ht : tc = 0 ∨ tc = 3 ∧ (x = 0 ∨ x = 1)) (h9 : sl < 9) (h3 : ps_To X Cl j K (nx, lv, st, SM μ q (upd σ sl x))) : ps_To X Cl j K (pc, lv, .int x :: .ref q :: st, SM μ q σ) := e_pi h0 hb.1 h2 ht (by rw [SM_pg h9]; exact h3)
theorem s_g9 (hb : isSh μ q) (h0 : ps_ins j pc = some (45, v, w, nx, b)) (h2 : ps_f2 b 3 = some (9, 2)) (h3 : ps_To X Cl j K (nx, lv, .ref (q + 1) :: st, SM μ q σ)) : ps_To X Cl j K (pc, lv, .ref q :: st, SM μ q σ) := e_gr h0 hb.1 h2 hb.2.2.2.2.1 h3
theorem s_g10 (hb : isSh μ q) (h0 : ps_ins j pc = some (45, v, w, nx, b)) (h2 : ps_f2 b 3 = some (10, 2)) (h3 : ps_To X Cl j K (nx, lv, .ref (q + 2) :: st, SM μ q σ)) : ps_To X Cl j K (pc, lv, .ref q :: st, SM μ q σ) := e_gr h0 hb.1 h2 hb.2.2.2.2.2.1 h3
theorem s_g11 (hb : isSh μ q) (h0 : ps_ins j pc = some (45, v, w, nx, b)) (h2 : ps_f2 b 3 = some (11, 2)) (h3 : ps_To X Cl j K (nx, lv, .ref (q + 3) :: st, SM μ q σ)) : ps_To X Cl j K (pc, lv, .ref q :: st, SM μ q σ) := e_gr h0 hb.1 h2 hb.2.2.2.2.2.2 h3
/-- an index below 6 -/
theorem ps_in6 {i : Int32} (h : vp_in i 6) : i.toNatClampNeg < 6 := Nat.not_le.mp fun z => h (Or.inr z)
theorem s_a1 {i : Int32} (hb : isSh μ q) (hi : vp_in i 6) (h0 : ps_ins j pc = some (48, v, w, nx, b)) (h3 : ps_To X Cl j K (nx, lv, .int (σ (9 + i.toNatClampNeg)) :: st, SM μ q σ)) : ps_To X Cl j K (pc, lv, .int i :: .ref (q + 1) :: st, SM μ q σ) := e_48 h0 hb.2.1 hi (by rw [SM_k (ps_in6 hi)]; exact h3)
theorem s_a2 {i : Int32} (hb : isSh μ q) (hi : vp_in i 6) (h0 : ps_ins j pc = some (48, v, w, nx, b)) (h3 : ps_To X Cl j K (nx, lv, .int (σ (15 + i.toNatClampNeg)) :: st, SM μ q σ)) : ps_To X Cl j K (pc, lv, .int i :: .ref (q + 2) :: st, SM μ q σ) := e_48 h0 hb.2.2.1 hi (by rw [SM_f (ps_in6 hi)]; exact h3)
theorem s_a3 {i : Int32} (hb : isSh μ q) (hi : vp_in i 6) (h0 : ps_ins j pc = some (48, v, w, nx, b)) (h3 : ps_To X Cl j K (nx, lv, .int (σ (21 + i.toNatClampNeg)) :: st, SM μ q σ)) : ps_To X Cl j K (pc, lv, .int i :: .ref (q + 3) :: st, SM μ q σ) := e_48 h0 hb.2.2.2.1 hi (by rw [SM_s (ps_in6 hi)]; exact h3)
theorem s_p1 {i x : Int32} (hb : isSh μ q) (hi : vp_in i 6) (h0 : ps_ins j pc = some (49, v, w, nx, b)) (h3 : ps_To X Cl j K (nx, lv, st, SM μ q (upd σ (9 + i.toNatClampNeg) x))) : ps_To X Cl j K (pc, lv, .int x :: .int i :: .ref (q + 1) :: st, SM μ q σ) := e_49 h0 hb.2.1 hi (by rw [SM_pk (ps_in6 hi)]; exact h3)
theorem s_p2 {i x : Int32} (hb : isSh μ q) (hi : vp_in i 6) (h0 : ps_ins j pc = some (49, v, w, nx, b)) (h3 : ps_To X Cl j K (nx, lv, st, SM μ q (upd σ (15 + i.toNatClampNeg) x))) : ps_To X Cl j K (pc, lv, .int x :: .int i :: .ref (q + 2) :: st, SM μ q σ) := e_49 h0 hb.2.2.1 hi (by rw [SM_pf (ps_in6 hi)]; exact h3)
theorem s_p3 {i x : Int32} (hb : isSh μ q) (hi : vp_in i 6) (h0 : ps_ins j pc = some (49, v, w, nx, b)) (h3 : ps_To X Cl j K (nx, lv, st, SM μ q (upd σ (21 + i.toNatClampNeg) x))) : ps_To X Cl j K (pc, lv, .int x :: .int i :: .ref (q + 3) :: st, SM μ q σ) := e_49 h0 hb.2.2.2.1 hi (by rw [SM_ps (ps_in6 hi)]; exact h3)
end ESH
