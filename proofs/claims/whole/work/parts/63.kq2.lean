-- ===== the class: calls on its ship =====
theorem SM_sIo {μ : ps_M} {b a i : Nat} {σ : Nat → Int32} {x : Int32} (h : a < b ∨ b + 3 < a) : ps_sI (SM μ b σ) a i x = SM (ps_sI μ a i x) b σ := by
  refine ps_M_ext rfl rfl rfl ?_ rfl rfl
  funext k j
  show ps_up (shP (ps_i μ) b σ) a i x k j = shP (ps_up (ps_i μ) a i x) b σ k j
  unfold ps_up shP
  dsimp only
  repeat' split
  all_goals first | rfl | omega
def vpF (σ : Nat → Int32) (j : Nat) : Int32 := if j = 0 then σ 0 else if j = 1 then σ 2 else if j = 2 then σ 3 else if j = 3 then σ 6 else if j = 4 then σ 7 else σ (16 + j)
/-- what was is laid into the past of a voyage -/
def VP (μ : ps_M) (c p : Nat) (σ : Nat → Int32) : ps_M := ps_wI μ (fun a i => if a = c ∧ 11 * p ≤ i ∧ i < 11 * p + 11 then vpF σ (i - 11 * p) else ps_i μ a i)
theorem VP_eq {μ : ps_M} {p : Nat} {σ : Nat → Int32} : ps_cp (SM (ps_sI (ps_sI (ps_sI (ps_sI (ps_sI μ 8 (11 * p) (σ 0)) 8 (11 * p + 1) (σ 2)) 8 (11 * p + 2) (σ 3)) 8 (11 * p + 3) (σ 6)) 8 (11 * p + 4) (σ 7)) 4 σ) 7 0 8 (11 * p + 5) 6 = SM (VP μ 8 p σ) 4 σ := by
  refine ps_M_ext rfl rfl rfl ?_ rfl rfl
  funext a i
  show (if a = 8 then va_cpy (shP (ps_up (ps_up (ps_up (ps_up (ps_up (ps_i μ) 8 (11 * p) (σ 0)) 8 (11 * p + 1) (σ 2)) 8 (11 * p + 2) (σ 3)) 8 (11 * p + 3) (σ 6)) 8 (11 * p + 4) (σ 7)) 4 σ 7) (shP (ps_up (ps_up (ps_up (ps_up (ps_up (ps_i μ) 8 (11 * p) (σ 0)) 8 (11 * p + 1) (σ 2)) 8 (11 * p + 2) (σ 3)) 8 (11 * p + 3) (σ 6)) 8 (11 * p + 4) (σ 7)) 4 σ 8) 0 (11 * p + 5) 6 i else shP (ps_up (ps_up (ps_up (ps_up (ps_up (ps_i μ) 8 (11 * p) (σ 0)) 8 (11 * p + 1) (σ 2)) 8 (11 * p + 2) (σ 3)) 8 (11 * p + 3) (σ 6)) 8 (11 * p + 4) (σ 7)) 4 σ a i) = shP (fun a i => if a = 8 ∧ 11 * p ≤ i ∧ i < 11 * p + 11 then vpF σ (i - 11 * p) else ps_i μ a i) 4 σ a i
  by_cases h8 : a = 8
  · subst h8
    rw [if_pos rfl]
    unfold va_cpy
    by_cases h5 : 11 * p + 5 ≤ i ∧ i < 11 * p + 5 + 6
    · rw [if_pos h5]
      have e : ∀ I : Nat → Nat → Int32, shP I 4 σ 7 (0 + (i - (11 * p + 5))) = σ (21 + (i - (11 * p + 5))) := fun I => by
        unfold shP
        rw [if_neg (by omega), if_neg (by omega), if_neg (by omega), if_pos (by omega), Nat.zero_add]
      rw [e]
      unfold shP
      dsimp only
      rw [if_neg (by omega), if_neg (by omega), if_neg (by omega), if_neg (by omega), if_pos (by omega)]
      unfold vpF
      rw [if_neg (by omega), if_neg (by omega), if_neg (by omega), if_neg (by omega), if_neg (by omega)]
      congr 1; omega
    · rw [if_neg h5]
      unfold shP ps_up vpF
      dsimp only
      repeat' split
      all_goals first | rfl | omega
  · rw [if_neg h8]
    unfold shP ps_up
    dsimp only
    simp only [h8, false_and, if_false]
/-- back to an hour: from place b of the past on -/
def gbF (P : Nat → Int32) (b n : Nat) (σ : Nat → Int32) : Nat → Int32 := fun k => if k = 0 then P b else if k = 2 then P (b + 1) else if k = 3 then P (b + 2) else if k = 6 then P (b + 3) else if k = 7 then (if P (b + 4) = 0 then 0 else 1) else if k = 5 then nI n else if 21 ≤ k ∧ k < 27 then P (b + (k - 16)) else σ k
theorem s_cpo {X : Nat → Nat × (Nat → Int32)} {Cl : Nat → List Value → ps_M → Option Value → ps_M → Prop} {j : Nat} {K : ps_F → Prop} {pc : Nat} {v : Int32} {w : Int64} {nx b : Nat} {lv : List (Nat × Value)} {st : List Value} {μ : ps_M} {q k0 o M : Nat} {σ : Nat → Int32} {x : Int32} (hb : isSh μ q) (hk0 : ps_s μ k0 = (10, M)) (hd : k0 < q ∨ q + 3 < k0) (hx : x = nI o) (ho : o + 6 ≤ M) (hM : M < 2 ^ 31) (h0 : ps_ins j pc = some (62, v, w, nx, b)) (hs : (st.map fun v => v.category).sum ≤ 8) (h3 : ps_To X Cl j K (nx, lv, st, SM μ q (fun k => if 21 ≤ k ∧ k < 27 then ps_i μ k0 (o + (k - 21)) else σ k))) : ps_To X Cl j K (pc, lv, .int 6 :: .int 0 :: .ref (q + 3) :: .int x :: .ref k0 :: st, SM μ q σ) := by
  subst hx
  refine e_62 h0 hk0 hb.2.2.2.1 (nI_pos (by omega)) (by decide) (by decide) (by rw [nI_clamp (by omega)]; exact ho) (by decide) hs ?_
  have e : ps_cp (SM μ q σ) k0 (nI o).toNatClampNeg (q + 3) (Int32.toNatClampNeg 0) (Int32.toNatClampNeg 6) = SM μ q (fun k => if 21 ≤ k ∧ k < 27 then ps_i μ k0 (o + (k - 21)) else σ k) := by
    rw [nI_clamp (by omega)]
    refine ps_M_ext rfl rfl rfl ?_ rfl rfl
    funext a i
    show (if a = q + 3 then va_cpy (ps_i (SM μ q σ) k0) (ps_i (SM μ q σ) (q + 3)) o 0 6 i else ps_i (SM μ q σ) a i) = shP (ps_i μ) q (fun k => if 21 ≤ k ∧ k < 27 then ps_i μ k0 (o + (k - 21)) else σ k) a i
    have e2 : ps_i (SM μ q σ) k0 = ps_i μ k0 := funext fun x => SM_off hd
    rw [e2]
    show (if a = q + 3 then va_cpy (ps_i μ k0) (shP (ps_i μ) q σ (q + 3)) o 0 6 i else shP (ps_i μ) q σ a i) = _
    unfold va_cpy shP
    dsimp only
    repeat' split
    all_goals first | rfl | omega | (congr 1; omega)
  rw [e]
  exact h3
theorem gb_eq {P : Nat → Int32} {b n : Nat} {σ : Nat → Int32} {s : Int32} (hs : s = if P (b + 4) = 0 then 0 else 1) : upd (fun k => if 21 ≤ k ∧ k < 27 then P (b + 5 + (k - 21)) else upd (upd (upd (upd (upd σ 0 (P b)) 2 (P (b + 1))) 3 (P (b + 2))) 6 (P (b + 3))) 7 s k) 5 (nI n) = gbF P b n σ := by
  subst hs
  funext k
  unfold upd gbF
  dsimp only
  repeat' split
  all_goals first | rfl | omega | (congr 1; omega)
theorem gb_8 {P : Nat → Int32} {b n : Nat} {σ : Nat → Int32} : gbF P b n σ 8 = σ 8 := rfl
theorem undo_eq {p N : Nat} (hp : p ≤ 40) (hN : N ≤ p) (h : nI p - nI N ≤ 0) : p = N := by
  rw [pk_sub hN] at h
  have := (nI_leI (b := 0) (by omega) (by omega)).mp h
  omega
section KQ2
variable {L : Nat} {xs : Nat → Int32} {d : Nat} {μ : ps_M} {σ : Nat → Int32} {g : Nat}
theorem k_ofGang (hp : isPs μ) (hok : shOK g σ) {x : Nat} (hx : x < g) (what : Int32) : ps_Ev (ps_XX L xs) (d + 3) j_X7_ofGang [.ref 0, .int (nI x), .int what] (SM μ 4 σ) (some (.int (ofGangF σ x what))) (SM μ 4 σ) := by
  refine ⟨Nat.le_of_ble_eq_true rfl, ?_⟩
  have hg := hok.1
  have h8 := hok.2.1
  refine e_4 rfl rfl ?_
  refine e_gr rfl (p_0 hp) rfl (p_f4 hp) ?_
  refine s_g9 (p_sh4 hp) rfl rfl ?_
  refine e_2 rfl rfl ?_
  refine s_a1q (i := x) (by exact (p_sh4 hp)) (by first | rfl | (simp only [← nI_add, ← pk_mul]; rfl) | (simp only [nI_add, pk_mul, nI_1]; done)) (by omega) rfl ?_
  refine e_5 rfl rfl ?_
  refine e_4 rfl rfl ?_
  refine e_gr rfl (p_0 hp) rfl (p_f4 hp) ?_
  refine s_g11 (p_sh4 hp) rfl rfl ?_
  refine e_2 rfl rfl ?_
  refine s_a3q (i := x) (by exact (p_sh4 hp)) (by first | rfl | (simp only [← nI_add, ← pk_mul]; rfl) | (simp only [nI_add, pk_mul, nI_1]; done)) (by omega) rfl ?_
  refine e_5 rfl rfl ?_
  refine e_2 rfl rfl ?_
  refine e_sw rfl rfl (fun h1 => ?_) (fun k t ht h1 => ?_)
  · have h1n0 : ¬ what = 0 := fun q => by subst q; revert h1; decide
    have h1n1 : ¬ what = 1 := fun q => by subst q; revert h1; decide
    have h1n2 : ¬ what = 2 := fun q => by subst q; revert h1; decide
    have h1n3 : ¬ what = 3 := fun q => by subst q; revert h1; decide
    refine e_2 rfl rfl ?_
    refine e_2 rfl rfl ?_
    refine e_s2 rfl rfl rfl (Nat.le_of_ble_eq_true rfl) (sp_behind _ _) ?_
    exact e_ri rfl rfl (by unfold ofGangF; first | rfl | (rw [if_neg h1n0, if_neg h1n1, if_neg h1n2, if_neg h1n3])) (rfl)
  · match k, ht with
    | 0, ht =>
      cases ht
      obtain rfl : what = 0 := Int32.toInt_inj.mp (h1.trans rfl)
      refine e_2 rfl rfl ?_
      exact e_ri rfl rfl (by unfold ofGangF; first | rfl | (rw [if_neg h1n0, if_neg h1n1, if_neg h1n2, if_neg h1n3])) (rfl)
    | 1, ht =>
      cases ht
      obtain rfl : what = 1 := Int32.toInt_inj.mp (h1.trans rfl)
      refine e_4 rfl rfl ?_
      refine e_gr rfl (p_0 hp) rfl (p_f4 hp) ?_
      refine s_g10 (p_sh4 hp) rfl rfl ?_
      refine e_2 rfl rfl ?_
      refine s_a2q (i := x) (by exact (p_sh4 hp)) (by first | rfl | (simp only [← nI_add, ← pk_mul]; rfl) | (simp only [nI_add, pk_mul, nI_1]; done)) (by omega) rfl ?_
      exact e_ri rfl rfl (by unfold ofGangF; first | rfl | (rw [if_neg h1n0, if_neg h1n1, if_neg h1n2, if_neg h1n3])) (rfl)
    | 2, ht =>
      cases ht
      obtain rfl : what = 2 := Int32.toInt_inj.mp (h1.trans rfl)
      refine e_2 rfl rfl ?_
      exact e_ri rfl rfl (by unfold ofGangF; first | rfl | (rw [if_neg h1n0, if_neg h1n1, if_neg h1n2, if_neg h1n3])) (rfl)
    | 3, ht =>
      cases ht
      obtain rfl : what = 3 := Int32.toInt_inj.mp (h1.trans rfl)
      refine e_4 rfl rfl ?_
      refine e_gr rfl (p_0 hp) rfl (p_f4 hp) ?_
      refine e_2 rfl rfl ?_
      refine e_2 rfl rfl ?_
      refine e_v2 rfl (by first | exact p_0 hp | exact (p_sh4 hp).1 | exact (p_now hp).1) rfl (by decide) rfl (Nat.le_of_ble_eq_true rfl) (ss_wouldPump (p_sh4 hp) _ _) ?_
      exact e_ri rfl rfl (by unfold ofGangF; first | rfl | (rw [if_neg h1n0, if_neg h1n1, if_neg h1n2, if_neg h1n3])) (rfl)
    | k + 4, ht => cases ht
theorem kq_gang (hp : isPs μ) (hok : shOK g σ) {i : Int32} {x : Nat} (hx : hasF σ i → i = nI x ∧ x < g) (what : Int32) : evI (ps_XX L xs) (d + 4) j_X7_gang [.ref 0, .int i, .int what] (SM μ 4 σ) (if ¬ (hasF σ i ∧ ¬ what < 0 ∧ what ≤ 4) then (-1, SM μ 4 σ) else (1, ps_sI (SM μ 4 σ) 0 11 (ofGangF σ x what))) := by
  refine ⟨Nat.le_of_ble_eq_true rfl, ?_⟩
  have hg := hok.1
  have h8 := hok.2.1
  refine e_4 rfl rfl ?_
  refine e_gr rfl (p_0 hp) rfl (p_f4 hp) ?_
  refine e_2 rfl rfl ?_
  refine e_v1 rfl (by first | exact p_0 hp | exact (p_sh4 hp).1 | exact (p_now hp).1) rfl (by decide) rfl (Nat.le_of_ble_eq_true rfl) (ss_has (p_sh4 hp) _) ?_
  refine e_30b rfl (fun h1 => ?_) (fun h1 => ?_)
  · refine e_0 rfl ?_
    exact e_ri rfl rfl (by first | (simp only [eq_false h1, if_true, if_true, if_false, not_true_eq_false, not_false_eq_true, and_true, true_and, and_false, false_and, or_true, true_or, or_false, false_or, reduceIte]; done) | (simp only [eq_false h1, if_true, if_true, if_false, not_true_eq_false, not_false_eq_true, and_true, true_and, and_false, false_and, or_true, true_or, or_false, false_or, reduceIte]; rfl) | rfl) (by first | (simp only [eq_false h1, if_true, if_true, if_false, not_true_eq_false, not_false_eq_true, and_true, true_and, and_false, false_and, or_true, true_or, or_false, false_or, reduceIte]; done) | (simp only [eq_false h1, if_true, if_true, if_false, not_true_eq_false, not_false_eq_true, and_true, true_and, and_false, false_and, or_true, true_or, or_false, false_or, reduceIte]; rfl) | rfl)
  · refine e_2 rfl rfl ?_
    refine e_32 rfl (fun h2 => ?_) (fun h2 => ?_)
    · refine e_0 rfl ?_
      exact e_ri rfl rfl (by first | (simp only [eq_true h1, eq_true h2, if_true, if_true, if_false, not_true_eq_false, not_false_eq_true, and_true, true_and, and_false, false_and, or_true, true_or, or_false, false_or, reduceIte]; done) | (simp only [eq_true h1, eq_true h2, if_true, if_true, if_false, not_true_eq_false, not_false_eq_true, and_true, true_and, and_false, false_and, or_true, true_or, or_false, false_or, reduceIte]; rfl) | rfl) (by first | (simp only [eq_true h1, eq_true h2, if_true, if_true, if_false, not_true_eq_false, not_false_eq_true, and_true, true_and, and_false, false_and, or_true, true_or, or_false, false_or, reduceIte]; done) | (simp only [eq_true h1, eq_true h2, if_true, if_true, if_false, not_true_eq_false, not_false_eq_true, and_true, true_and, and_false, false_and, or_true, true_or, or_false, false_or, reduceIte]; rfl) | rfl)
    · refine e_2 rfl rfl ?_
      refine e_0 rfl ?_
      refine e_41 rfl (fun h3 => ?_) (fun h3 => ?_)
      · obtain ⟨rfl, hxg⟩ := hx h1
        refine e_4 rfl rfl ?_
        refine e_4 rfl rfl ?_
        refine e_2 rfl rfl ?_
        refine e_2 rfl rfl ?_
        refine e_v2 rfl (by first | exact p_0 hp | exact (p_sh4 hp).1 | exact (p_now hp).1) rfl (by decide) rfl (Nat.le_of_ble_eq_true rfl) (k_ofGang hp hok hxg what) ?_
        refine e_pi rfl (p_0 hp) rfl (Or.inl rfl) ?_
        refine e_0 rfl ?_
        exact e_ri rfl rfl (by first | (simp only [eq_true h1, eq_false h2, eq_true h3, if_true, if_true, if_false, not_true_eq_false, not_false_eq_true, and_true, true_and, and_false, false_and, or_true, true_or, or_false, false_or, reduceIte]; done) | (simp only [eq_true h1, eq_false h2, eq_true h3, if_true, if_true, if_false, not_true_eq_false, not_false_eq_true, and_true, true_and, and_false, false_and, or_true, true_or, or_false, false_or, reduceIte]; rfl) | rfl) (by first | (simp only [eq_true h1, eq_false h2, eq_true h3, if_true, if_true, if_false, not_true_eq_false, not_false_eq_true, and_true, true_and, and_false, false_and, or_true, true_or, or_false, false_or, reduceIte]; done) | (simp only [eq_true h1, eq_false h2, eq_true h3, if_true, if_true, if_false, not_true_eq_false, not_false_eq_true, and_true, true_and, and_false, false_and, or_true, true_or, or_false, false_or, reduceIte]; rfl) | rfl)
      · refine e_0 rfl ?_
        exact e_ri rfl rfl (by first | (simp only [eq_true h1, eq_false h2, eq_false h3, if_true, if_true, if_false, not_true_eq_false, not_false_eq_true, and_true, true_and, and_false, false_and, or_true, true_or, or_false, false_or, reduceIte]; done) | (simp only [eq_true h1, eq_false h2, eq_false h3, if_true, if_true, if_false, not_true_eq_false, not_false_eq_true, and_true, true_and, and_false, false_and, or_true, true_or, or_false, false_or, reduceIte]; rfl) | rfl) (by first | (simp only [eq_true h1, eq_false h2, eq_false h3, if_true, if_true, if_false, not_true_eq_false, not_false_eq_true, and_true, true_and, and_false, false_and, or_true, true_or, or_false, false_or, reduceIte]; done) | (simp only [eq_true h1, eq_false h2, eq_false h3, if_true, if_true, if_false, not_true_eq_false, not_false_eq_true, and_true, true_and, and_false, false_and, or_true, true_or, or_false, false_or, reduceIte]; rfl) | rfl)
theorem k_ofShip (hp : isPs μ) (hok : shOK g σ) (h7 : σ 7 = 0 ∨ σ 7 = 1) (what : Int32) : ps_Ev (ps_XX L xs) (d + 2) j_X7_ofShip [.ref 0, .int what] (SM μ 4 σ) (some (.int (ofShipF σ what))) (SM μ 4 σ) := by
  refine ⟨Nat.le_of_ble_eq_true rfl, ?_⟩
  have hg := hok.1
  have h8 := hok.2.1
  refine e_2 rfl rfl ?_
  refine e_sw rfl rfl (fun h1 => ?_) (fun k t ht h1 => ?_)
  · have h1n0 : ¬ what = 0 := fun q => by subst q; revert h1; decide
    have h1n1 : ¬ what = 1 := fun q => by subst q; revert h1; decide
    have h1n2 : ¬ what = 2 := fun q => by subst q; revert h1; decide
    have h1n3 : ¬ what = 3 := fun q => by subst q; revert h1; decide
    have h1n4 : ¬ what = 4 := fun q => by subst q; revert h1; decide
    have h1n5 : ¬ what = 5 := fun q => by subst q; revert h1; decide
    have h1n6 : ¬ what = 6 := fun q => by subst q; revert h1; decide
    have h1n7 : ¬ what = 7 := fun q => by subst q; revert h1; decide
    refine e_4 rfl rfl ?_
    refine e_gr rfl (p_0 hp) rfl (p_f4 hp) ?_
    refine e_v0 rfl (by first | exact p_0 hp | exact (p_sh4 hp).1 | exact (p_now hp).1) rfl (by decide) rfl (Nat.le_of_ble_eq_true rfl) (ss_isSunk (p_sh4 hp)) ?_
    refine e_30b rfl (fun h2 => ?_) (fun h2 => ?_)
    · refine e_0 rfl ?_
      exact e_ri rfl rfl (by unfold ofShipF; first | rfl | (rw [if_neg h1n0, if_neg h1n1, if_neg h1n2, if_neg h1n3, if_neg h1n4, if_neg h1n5, if_neg h1n6, if_neg h1n7]; first | exact (b2i_t (by assumption)).symm | exact (b2i_f (by assumption)).symm) | (show _ = σ 7; first | exact (by assumption : σ 7 = 0).symm | exact (h7.resolve_left (by assumption)).symm)) (rfl)
    · refine e_0 rfl ?_
      refine e_42 rfl ?_
      exact e_ri rfl rfl (by unfold ofShipF; first | rfl | (rw [if_neg h1n0, if_neg h1n1, if_neg h1n2, if_neg h1n3, if_neg h1n4, if_neg h1n5, if_neg h1n6, if_neg h1n7]; first | exact (b2i_t (by assumption)).symm | exact (b2i_f (by assumption)).symm) | (show _ = σ 7; first | exact (by assumption : σ 7 = 0).symm | exact (h7.resolve_left (by assumption)).symm)) (rfl)
  · match k, ht with
    | 0, ht =>
      cases ht
      obtain rfl : what = 0 := Int32.toInt_inj.mp (h1.trans rfl)
      refine e_4 rfl rfl ?_
      refine e_gr rfl (p_0 hp) rfl (p_f4 hp) ?_
      refine s_gi (p_sh4 hp) rfl rfl (by decide) (by decide) ?_
      exact e_ri rfl rfl (by unfold ofShipF; first | rfl | (rw [if_neg h1n0, if_neg h1n1, if_neg h1n2, if_neg h1n3, if_neg h1n4, if_neg h1n5, if_neg h1n6, if_neg h1n7]; first | exact (b2i_t (by assumption)).symm | exact (b2i_f (by assumption)).symm) | (show _ = σ 7; first | exact (by assumption : σ 7 = 0).symm | exact (h7.resolve_left (by assumption)).symm)) (rfl)
    | 1, ht =>
      cases ht
      obtain rfl : what = 1 := Int32.toInt_inj.mp (h1.trans rfl)
      refine e_4 rfl rfl ?_
      refine e_gr rfl (p_0 hp) rfl (p_f4 hp) ?_
      refine e_v0 rfl (by first | exact p_0 hp | exact (p_sh4 hp).1 | exact (p_now hp).1) rfl (by decide) rfl (Nat.le_of_ble_eq_true rfl) (ss_wouldLeak (p_sh4 hp)) ?_
      exact e_ri rfl rfl (by unfold ofShipF; first | rfl | (rw [if_neg h1n0, if_neg h1n1, if_neg h1n2, if_neg h1n3, if_neg h1n4, if_neg h1n5, if_neg h1n6, if_neg h1n7]; first | exact (b2i_t (by assumption)).symm | exact (b2i_f (by assumption)).symm) | (show _ = σ 7; first | exact (by assumption : σ 7 = 0).symm | exact (h7.resolve_left (by assumption)).symm)) (rfl)
    | 2, ht =>
      cases ht
      obtain rfl : what = 2 := Int32.toInt_inj.mp (h1.trans rfl)
      refine e_4 rfl rfl ?_
      refine e_gr rfl (p_0 hp) rfl (p_f4 hp) ?_
      refine s_gi (p_sh4 hp) rfl rfl (by decide) (by decide) ?_
      exact e_ri rfl rfl (by unfold ofShipF; first | rfl | (rw [if_neg h1n0, if_neg h1n1, if_neg h1n2, if_neg h1n3, if_neg h1n4, if_neg h1n5, if_neg h1n6, if_neg h1n7]; first | exact (b2i_t (by assumption)).symm | exact (b2i_f (by assumption)).symm) | (show _ = σ 7; first | exact (by assumption : σ 7 = 0).symm | exact (h7.resolve_left (by assumption)).symm)) (rfl)
    | 3, ht =>
      cases ht
      obtain rfl : what = 3 := Int32.toInt_inj.mp (h1.trans rfl)
      refine e_4 rfl rfl ?_
      refine e_gr rfl (p_0 hp) rfl (p_f4 hp) ?_
      refine s_gi (p_sh4 hp) rfl rfl (by decide) (by decide) ?_
      exact e_ri rfl rfl (by unfold ofShipF; first | rfl | (rw [if_neg h1n0, if_neg h1n1, if_neg h1n2, if_neg h1n3, if_neg h1n4, if_neg h1n5, if_neg h1n6, if_neg h1n7]; first | exact (b2i_t (by assumption)).symm | exact (b2i_f (by assumption)).symm) | (show _ = σ 7; first | exact (by assumption : σ 7 = 0).symm | exact (h7.resolve_left (by assumption)).symm)) (rfl)
    | 4, ht =>
      cases ht
      obtain rfl : what = 4 := Int32.toInt_inj.mp (h1.trans rfl)
      refine e_4 rfl rfl ?_
      refine e_gr rfl (p_0 hp) rfl (p_f4 hp) ?_
      refine s_gi (p_sh4 hp) rfl rfl (by decide) (by decide) ?_
      refine e_30 rfl (fun h3 => ?_) (fun h3 => ?_)
      · refine e_0 rfl ?_
        exact e_ri rfl rfl (by unfold ofShipF; first | rfl | (rw [if_neg h1n0, if_neg h1n1, if_neg h1n2, if_neg h1n3, if_neg h1n4, if_neg h1n5, if_neg h1n6, if_neg h1n7]; first | exact (b2i_t (by assumption)).symm | exact (b2i_f (by assumption)).symm) | (show _ = σ 7; first | exact (by assumption : σ 7 = 0).symm | exact (h7.resolve_left (by assumption)).symm)) (rfl)
      · refine e_0 rfl ?_
        refine e_42 rfl ?_
        exact e_ri rfl rfl (by unfold ofShipF; first | rfl | (rw [if_neg h1n0, if_neg h1n1, if_neg h1n2, if_neg h1n3, if_neg h1n4, if_neg h1n5, if_neg h1n6, if_neg h1n7]; first | exact (b2i_t (by assumption)).symm | exact (b2i_f (by assumption)).symm) | (show _ = σ 7; first | exact (by assumption : σ 7 = 0).symm | exact (h7.resolve_left (by assumption)).symm)) (rfl)
    | 5, ht =>
      cases ht
      obtain rfl : what = 5 := Int32.toInt_inj.mp (h1.trans rfl)
      refine e_4 rfl rfl ?_
      refine e_gr rfl (p_0 hp) rfl (p_f4 hp) ?_
      refine s_gi (p_sh4 hp) rfl rfl (by decide) (by decide) ?_
      exact e_ri rfl rfl (by unfold ofShipF; first | rfl | (rw [if_neg h1n0, if_neg h1n1, if_neg h1n2, if_neg h1n3, if_neg h1n4, if_neg h1n5, if_neg h1n6, if_neg h1n7]; first | exact (b2i_t (by assumption)).symm | exact (b2i_f (by assumption)).symm) | (show _ = σ 7; first | exact (by assumption : σ 7 = 0).symm | exact (h7.resolve_left (by assumption)).symm)) (rfl)
    | 6, ht =>
      cases ht
      obtain rfl : what = 6 := Int32.toInt_inj.mp (h1.trans rfl)
      refine e_4 rfl rfl ?_
      refine e_gr rfl (p_0 hp) rfl (p_f4 hp) ?_
      refine s_gi (p_sh4 hp) rfl rfl (by decide) (by decide) ?_
      exact e_ri rfl rfl (by unfold ofShipF; first | rfl | (rw [if_neg h1n0, if_neg h1n1, if_neg h1n2, if_neg h1n3, if_neg h1n4, if_neg h1n5, if_neg h1n6, if_neg h1n7]; first | exact (b2i_t (by assumption)).symm | exact (b2i_f (by assumption)).symm) | (show _ = σ 7; first | exact (by assumption : σ 7 = 0).symm | exact (h7.resolve_left (by assumption)).symm)) (rfl)
    | 7, ht =>
      cases ht
      obtain rfl : what = 7 := Int32.toInt_inj.mp (h1.trans rfl)
      refine e_4 rfl rfl ?_
      refine e_gr rfl (p_0 hp) rfl (p_f4 hp) ?_
      refine s_gi (p_sh4 hp) rfl rfl (by decide) (by decide) ?_
      refine e_4 rfl rfl ?_
      refine e_gr rfl (p_0 hp) rfl (p_f4 hp) ?_
      refine s_gi (p_sh4 hp) rfl rfl (by decide) (by decide) ?_
      refine e_10 rfl ?_
      exact e_ri rfl rfl (by unfold ofShipF; first | rfl | (rw [if_neg h1n0, if_neg h1n1, if_neg h1n2, if_neg h1n3, if_neg h1n4, if_neg h1n5, if_neg h1n6, if_neg h1n7]; first | exact (b2i_t (by assumption)).symm | exact (b2i_f (by assumption)).symm) | (show _ = σ 7; first | exact (by assumption : σ 7 = 0).symm | exact (h7.resolve_left (by assumption)).symm)) (rfl)
    | k + 8, ht => cases ht
theorem kq_tell (hp : isPs μ) (hok : shOK g σ) (h7 : σ 7 = 0 ∨ σ 7 = 1) (what : Int32) : evI (ps_XX L xs) (d + 3) j_X7_tell [.ref 0, .int what] (SM μ 4 σ) (if ¬ (¬ what < 0 ∧ what ≤ 8) then (-1, SM μ 4 σ) else if σ 8 = 0 then (-4, SM μ 4 σ) else (1, ps_sI (SM μ 4 σ) 0 11 (ofShipF σ what))) := by
  refine ⟨Nat.le_of_ble_eq_true rfl, ?_⟩
  have hg := hok.1
  have h8 := hok.2.1
  refine e_2 rfl rfl ?_
  refine e_32 rfl (fun h1 => ?_) (fun h1 => ?_)
  · refine e_0 rfl ?_
    exact e_ri rfl rfl (by first | (simp only [eq_true h1, if_true, if_true, if_false, not_true_eq_false, not_false_eq_true, and_true, true_and, and_false, false_and, or_true, true_or, or_false, false_or, reduceIte]; done) | (simp only [eq_true h1, if_true, if_true, if_false, not_true_eq_false, not_false_eq_true, and_true, true_and, and_false, false_and, or_true, true_or, or_false, false_or, reduceIte]; rfl) | rfl) (by first | (simp only [eq_true h1, if_true, if_true, if_false, not_true_eq_false, not_false_eq_true, and_true, true_and, and_false, false_and, or_true, true_or, or_false, false_or, reduceIte]; done) | (simp only [eq_true h1, if_true, if_true, if_false, not_true_eq_false, not_false_eq_true, and_true, true_and, and_false, false_and, or_true, true_or, or_false, false_or, reduceIte]; rfl) | rfl)
  · refine e_2 rfl rfl ?_
    refine e_0 rfl ?_
    refine e_41 rfl (fun h2 => ?_) (fun h2 => ?_)
    · refine e_4 rfl rfl ?_
      refine e_gr rfl (p_0 hp) rfl (p_f4 hp) ?_
      refine s_gi (p_sh4 hp) rfl rfl (by decide) (by decide) ?_
      refine e_31 rfl (fun h3 => ?_) (fun h3 => ?_)
      · refine e_4 rfl rfl ?_
        refine e_4 rfl rfl ?_
        refine e_2 rfl rfl ?_
        refine e_v1 rfl (by first | exact p_0 hp | exact (p_sh4 hp).1 | exact (p_now hp).1) rfl (by decide) rfl (Nat.le_of_ble_eq_true rfl) (k_ofShip hp hok h7 what) ?_
        refine e_pi rfl (p_0 hp) rfl (Or.inl rfl) ?_
        refine e_0 rfl ?_
        exact e_ri rfl rfl (by first | (simp only [eq_false h1, eq_true h2, eq_false h3, if_true, if_true, if_false, not_true_eq_false, not_false_eq_true, and_true, true_and, and_false, false_and, or_true, true_or, or_false, false_or, reduceIte]; done) | (simp only [eq_false h1, eq_true h2, eq_false h3, if_true, if_true, if_false, not_true_eq_false, not_false_eq_true, and_true, true_and, and_false, false_and, or_true, true_or, or_false, false_or, reduceIte]; rfl) | rfl) (by first | (simp only [eq_false h1, eq_true h2, eq_false h3, if_true, if_true, if_false, not_true_eq_false, not_false_eq_true, and_true, true_and, and_false, false_and, or_true, true_or, or_false, false_or, reduceIte]; done) | (simp only [eq_false h1, eq_true h2, eq_false h3, if_true, if_true, if_false, not_true_eq_false, not_false_eq_true, and_true, true_and, and_false, false_and, or_true, true_or, or_false, false_or, reduceIte]; rfl) | rfl)
      · refine e_0 rfl ?_
        exact e_ri rfl rfl (by first | (simp only [eq_false h1, eq_true h2, eq_true h3, if_true, if_true, if_false, not_true_eq_false, not_false_eq_true, and_true, true_and, and_false, false_and, or_true, true_or, or_false, false_or, reduceIte]; done) | (simp only [eq_false h1, eq_true h2, eq_true h3, if_true, if_true, if_false, not_true_eq_false, not_false_eq_true, and_true, true_and, and_false, false_and, or_true, true_or, or_false, false_or, reduceIte]; rfl) | rfl) (by first | (simp only [eq_false h1, eq_true h2, eq_true h3, if_true, if_true, if_false, not_true_eq_false, not_false_eq_true, and_true, true_and, and_false, false_and, or_true, true_or, or_false, false_or, reduceIte]; done) | (simp only [eq_false h1, eq_true h2, eq_true h3, if_true, if_true, if_false, not_true_eq_false, not_false_eq_true, and_true, true_and, and_false, false_and, or_true, true_or, or_false, false_or, reduceIte]; rfl) | rfl)
    · refine e_0 rfl ?_
      exact e_ri rfl rfl (by first | (simp only [eq_false h1, eq_false h2, if_true, if_true, if_false, not_true_eq_false, not_false_eq_true, and_true, true_and, and_false, false_and, or_true, true_or, or_false, false_or, reduceIte]; done) | (simp only [eq_false h1, eq_false h2, if_true, if_true, if_false, not_true_eq_false, not_false_eq_true, and_true, true_and, and_false, false_and, or_true, true_or, or_false, false_or, reduceIte]; rfl) | rfl) (by first | (simp only [eq_false h1, eq_false h2, if_true, if_true, if_false, not_true_eq_false, not_false_eq_true, and_true, true_and, and_false, false_and, or_true, true_or, or_false, false_or, reduceIte]; done) | (simp only [eq_false h1, eq_false h2, if_true, if_true, if_false, not_true_eq_false, not_false_eq_true, and_true, true_and, and_false, false_and, or_true, true_or, or_false, false_or, reduceIte]; rfl) | rfl)
theorem kq_can (hp : isPs μ) : evI (ps_XX L xs) (d + 5) j_X7_can [.ref 0] (SM μ 4 σ) (if σ 8 = 0 then (-4, SM μ 4 σ) else (canS σ, SM μ 4 σ)) := by
  refine ⟨Nat.le_of_ble_eq_true rfl, ?_⟩
  refine e_4 rfl rfl ?_
  refine e_gr rfl (p_0 hp) rfl (p_f4 hp) ?_
  refine s_gi (p_sh4 hp) rfl rfl (by decide) (by decide) ?_
  refine e_31 rfl (fun h1 => ?_) (fun h1 => ?_)
  · refine e_4 rfl rfl ?_
    refine e_gr rfl (p_0 hp) rfl (p_f4 hp) ?_
    refine e_v0 rfl (by first | exact p_0 hp | exact (p_sh4 hp).1 | exact (p_now hp).1) rfl (by decide) rfl (Nat.le_of_ble_eq_true rfl) (ss_setOfActs (p_sh4 hp)) ?_
    exact e_ri rfl rfl (by first | (simp only [eq_false h1, if_true, if_true, if_false, not_true_eq_false, not_false_eq_true, and_true, true_and, and_false, false_and, or_true, true_or, or_false, false_or, reduceIte]; done) | (simp only [eq_false h1, if_true, if_true, if_false, not_true_eq_false, not_false_eq_true, and_true, true_and, and_false, false_and, or_true, true_or, or_false, false_or, reduceIte]; rfl) | rfl) (by first | (simp only [eq_false h1, if_true, if_true, if_false, not_true_eq_false, not_false_eq_true, and_true, true_and, and_false, false_and, or_true, true_or, or_false, false_or, reduceIte]; done) | (simp only [eq_false h1, if_true, if_true, if_false, not_true_eq_false, not_false_eq_true, and_true, true_and, and_false, false_and, or_true, true_or, or_false, false_or, reduceIte]; rfl) | rfl)
  · refine e_0 rfl ?_
    refine e_42 rfl ?_
    exact e_ri rfl rfl (by first | (simp only [eq_true h1, if_true, if_true, if_false, not_true_eq_false, not_false_eq_true, and_true, true_and, and_false, false_and, or_true, true_or, or_false, false_or, reduceIte]; done) | (simp only [eq_true h1, if_true, if_true, if_false, not_true_eq_false, not_false_eq_true, and_true, true_and, and_false, false_and, or_true, true_or, or_false, false_or, reduceIte]; rfl) | rfl) (by first | (simp only [eq_true h1, if_true, if_true, if_false, not_true_eq_false, not_false_eq_true, and_true, true_and, and_false, false_and, or_true, true_or, or_false, false_or, reduceIte]; done) | (simp only [eq_true h1, if_true, if_true, if_false, not_true_eq_false, not_false_eq_true, and_true, true_and, and_false, false_and, or_true, true_or, or_false, false_or, reduceIte]; rfl) | rfl)
theorem kq_rest (hp : isPs μ) (hok : shOK g σ) {i : Int32} {x : Nat} (hx : hasF σ i → i = nI x ∧ x < g) : evI (ps_XX L xs) (d + 2) j_X7_rest [.ref 0, .int i] (SM μ 4 σ) (if hasF σ i then (σ (15 + x) - σ (21 + x), SM μ 4 σ) else (-1, SM μ 4 σ)) := by
  refine ⟨Nat.le_of_ble_eq_true rfl, ?_⟩
  have hg := hok.1
  have h8 := hok.2.1
  refine e_4 rfl rfl ?_
  refine e_gr rfl (p_0 hp) rfl (p_f4 hp) ?_
  refine e_2 rfl rfl ?_
  refine e_v1 rfl (by first | exact p_0 hp | exact (p_sh4 hp).1 | exact (p_now hp).1) rfl (by decide) rfl (Nat.le_of_ble_eq_true rfl) (ss_has (p_sh4 hp) _) ?_
  refine e_30b rfl (fun h1 => ?_) (fun h1 => ?_)
  · refine e_0 rfl ?_
    exact e_ri rfl rfl (by first | (simp only [eq_false h1, if_true, if_true, if_false, not_true_eq_false, not_false_eq_true, and_true, true_and, and_false, false_and, or_true, true_or, or_false, false_or, reduceIte]; done) | (simp only [eq_false h1, if_true, if_true, if_false, not_true_eq_false, not_false_eq_true, and_true, true_and, and_false, false_and, or_true, true_or, or_false, false_or, reduceIte]; rfl) | rfl) (by first | (simp only [eq_false h1, if_true, if_true, if_false, not_true_eq_false, not_false_eq_true, and_true, true_and, and_false, false_and, or_true, true_or, or_false, false_or, reduceIte]; done) | (simp only [eq_false h1, if_true, if_true, if_false, not_true_eq_false, not_false_eq_true, and_true, true_and, and_false, false_and, or_true, true_or, or_false, false_or, reduceIte]; rfl) | rfl)
  · obtain ⟨rfl, hxg⟩ := hx h1
    refine e_4 rfl rfl ?_
    refine e_gr rfl (p_0 hp) rfl (p_f4 hp) ?_
    refine s_g10 (p_sh4 hp) rfl rfl ?_
    refine e_2 rfl rfl ?_
    refine s_a2q (i := x) (by exact (p_sh4 hp)) (by first | rfl | (simp only [← nI_add, ← pk_mul]; rfl) | (simp only [nI_add, pk_mul, nI_1]; done)) (by omega) rfl ?_
    refine e_4 rfl rfl ?_
    refine e_gr rfl (p_0 hp) rfl (p_f4 hp) ?_
    refine s_g11 (p_sh4 hp) rfl rfl ?_
    refine e_2 rfl rfl ?_
    refine s_a3q (i := x) (by exact (p_sh4 hp)) (by first | rfl | (simp only [← nI_add, ← pk_mul]; rfl) | (simp only [nI_add, pk_mul, nI_1]; done)) (by omega) rfl ?_
    refine e_10 rfl ?_
    refine e_42 rfl ?_
    exact e_ri rfl rfl (by first | (simp only [eq_true h1, if_true, if_true, if_false, not_true_eq_false, not_false_eq_true, and_true, true_and, and_false, false_and, or_true, true_or, or_false, false_or, reduceIte]; done) | (simp only [eq_true h1, if_true, if_true, if_false, not_true_eq_false, not_false_eq_true, and_true, true_and, and_false, false_and, or_true, true_or, or_false, false_or, reduceIte]; rfl) | rfl) (by first | (simp only [eq_true h1, if_true, if_true, if_false, not_true_eq_false, not_false_eq_true, and_true, true_and, and_false, false_and, or_true, true_or, or_false, false_or, reduceIte]; done) | (simp only [eq_true h1, if_true, if_true, if_false, not_true_eq_false, not_false_eq_true, and_true, true_and, and_false, false_and, or_true, true_or, or_false, false_or, reduceIte]; rfl) | rfl)
theorem kq_force (hp : isPs μ) (hok : shOK g σ) {i : Int32} {x : Nat} (hx : hasF σ i → i = nI x ∧ x < g) (v : Int32) : evI (ps_XX L xs) (d + 2) j_X7_force [.ref 0, .int i, .int v] (SM μ 4 σ) (if ¬ (hasF σ i ∧ ¬ v < 1 ∧ v ≤ 9) then (-1, SM μ 4 σ) else (σ (15 + x), SM μ 4 (limU (upd σ (15 + x) v) g))) := by
  refine ⟨Nat.le_of_ble_eq_true rfl, ?_⟩
  have hg := hok.1
  have h8 := hok.2.1
  refine e_4 rfl rfl ?_
  refine e_gr rfl (p_0 hp) rfl (p_f4 hp) ?_
  refine e_2 rfl rfl ?_
  refine e_v1 rfl (by first | exact p_0 hp | exact (p_sh4 hp).1 | exact (p_now hp).1) rfl (by decide) rfl (Nat.le_of_ble_eq_true rfl) (ss_has (p_sh4 hp) _) ?_
  refine e_30b rfl (fun h1 => ?_) (fun h1 => ?_)
  · refine e_0 rfl ?_
    exact e_ri rfl rfl (by first | (simp only [eq_false h1, if_true, if_true, if_false, not_true_eq_false, not_false_eq_true, and_true, true_and, and_false, false_and, or_true, true_or, or_false, false_or, reduceIte]; done) | (simp only [eq_false h1, if_true, if_true, if_false, not_true_eq_false, not_false_eq_true, and_true, true_and, and_false, false_and, or_true, true_or, or_false, false_or, reduceIte]; rfl) | rfl) (by first | (simp only [eq_false h1, if_true, if_true, if_false, not_true_eq_false, not_false_eq_true, and_true, true_and, and_false, false_and, or_true, true_or, or_false, false_or, reduceIte]; done) | (simp only [eq_false h1, if_true, if_true, if_false, not_true_eq_false, not_false_eq_true, and_true, true_and, and_false, false_and, or_true, true_or, or_false, false_or, reduceIte]; rfl) | rfl)
  · refine e_2 rfl rfl ?_
    refine e_0 rfl ?_
    refine e_38 rfl (fun h2 => ?_) (fun h2 => ?_)
    · refine e_0 rfl ?_
      exact e_ri rfl rfl (by first | (simp only [eq_true h1, eq_true h2, if_true, if_true, if_false, not_true_eq_false, not_false_eq_true, and_true, true_and, and_false, false_and, or_true, true_or, or_false, false_or, reduceIte]; done) | (simp only [eq_true h1, eq_true h2, if_true, if_true, if_false, not_true_eq_false, not_false_eq_true, and_true, true_and, and_false, false_and, or_true, true_or, or_false, false_or, reduceIte]; rfl) | rfl) (by first | (simp only [eq_true h1, eq_true h2, if_true, if_true, if_false, not_true_eq_false, not_false_eq_true, and_true, true_and, and_false, false_and, or_true, true_or, or_false, false_or, reduceIte]; done) | (simp only [eq_true h1, eq_true h2, if_true, if_true, if_false, not_true_eq_false, not_false_eq_true, and_true, true_and, and_false, false_and, or_true, true_or, or_false, false_or, reduceIte]; rfl) | rfl)
    · refine e_2 rfl rfl ?_
      refine e_0 rfl ?_
      refine e_41 rfl (fun h3 => ?_) (fun h3 => ?_)
      · obtain ⟨rfl, hxg⟩ := hx h1
        refine e_4 rfl rfl ?_
        refine e_gr rfl (p_0 hp) rfl (p_f4 hp) ?_
        refine s_g10 (p_sh4 hp) rfl rfl ?_
        refine e_2 rfl rfl ?_
        refine s_a2q (i := x) (by exact (p_sh4 hp)) (by first | rfl | (simp only [← nI_add, ← pk_mul]; rfl) | (simp only [nI_add, pk_mul, nI_1]; done)) (by omega) rfl ?_
        refine e_5 rfl rfl ?_
        refine e_4 rfl rfl ?_
        refine e_gr rfl (p_0 hp) rfl (p_f4 hp) ?_
        refine s_g10 (p_sh4 hp) rfl rfl ?_
        refine e_2 rfl rfl ?_
        refine e_2 rfl rfl ?_
        refine s_p2q (i := x) (by exact (p_sh4 hp)) (by first | rfl | (simp only [← nI_add, ← pk_mul]; rfl) | (simp only [nI_add, pk_mul, nI_1]; done)) (by omega) rfl ?_
        refine e_4 rfl rfl ?_
        refine e_gr rfl (p_0 hp) rfl (p_f4 hp) ?_
        refine e_v0v rfl (by first | exact p_0 hp | exact (p_sh4 hp).1 | exact (p_now hp).1) rfl (by decide) rfl (Nat.le_of_ble_eq_true rfl) (ss_limit (p_sh4 hp) hg ((pk_un (by omega)).trans h8)) ?_
        refine e_2 rfl rfl ?_
        exact e_ri rfl rfl (by first | (simp only [eq_true h1, eq_false h2, eq_true h3, if_true, if_true, if_false, not_true_eq_false, not_false_eq_true, and_true, true_and, and_false, false_and, or_true, true_or, or_false, false_or, reduceIte]; done) | (simp only [eq_true h1, eq_false h2, eq_true h3, if_true, if_true, if_false, not_true_eq_false, not_false_eq_true, and_true, true_and, and_false, false_and, or_true, true_or, or_false, false_or, reduceIte]; rfl) | rfl) (by first | (simp only [eq_true h1, eq_false h2, eq_true h3, if_true, if_true, if_false, not_true_eq_false, not_false_eq_true, and_true, true_and, and_false, false_and, or_true, true_or, or_false, false_or, reduceIte]; done) | (simp only [eq_true h1, eq_false h2, eq_true h3, if_true, if_true, if_false, not_true_eq_false, not_false_eq_true, and_true, true_and, and_false, false_and, or_true, true_or, or_false, false_or, reduceIte]; rfl) | rfl)
      · refine e_0 rfl ?_
        exact e_ri rfl rfl (by first | (simp only [eq_true h1, eq_false h2, eq_false h3, if_true, if_true, if_false, not_true_eq_false, not_false_eq_true, and_true, true_and, and_false, false_and, or_true, true_or, or_false, false_or, reduceIte]; done) | (simp only [eq_true h1, eq_false h2, eq_false h3, if_true, if_true, if_false, not_true_eq_false, not_false_eq_true, and_true, true_and, and_false, false_and, or_true, true_or, or_false, false_or, reduceIte]; rfl) | rfl) (by first | (simp only [eq_true h1, eq_false h2, eq_false h3, if_true, if_true, if_false, not_true_eq_false, not_false_eq_true, and_true, true_and, and_false, false_and, or_true, true_or, or_false, false_or, reduceIte]; done) | (simp only [eq_true h1, eq_false h2, eq_false h3, if_true, if_true, if_false, not_true_eq_false, not_false_eq_true, and_true, true_and, and_false, false_and, or_true, true_or, or_false, false_or, reduceIte]; rfl) | rfl)
theorem of4 {x : Int32} (h : isOfF x 4) : x = 4 := by
  rcases h with h | h | h
  · exact h
  · exact h.1
  · exact absurd h.2 (by decide)
theorem kq_mark (hp : isPs μ) (hok : shOK g σ) {i : Int32} {x : Nat} (hx : hasF σ i → i = nI x ∧ x < g) (kind : Int32) : evI (ps_XX L xs) (d + 3) j_X7_mark [.ref 0, .int i, .int kind] (SM μ 4 σ) (if ¬ (hasF σ i ∧ ¬ kind < 1 ∧ kind ≤ 5) then (-1, SM μ 4 σ) else if ¬ isOfF (σ (9 + x)) kind then (-3, FC (SM μ 4 σ) 3) else (markF g σ x kind, SM μ 4 σ)) := by
  refine ⟨Nat.le_of_ble_eq_true rfl, ?_⟩
  have hg := hok.1
  have h8 := hok.2.1
  refine e_4 rfl rfl ?_
  refine e_gr rfl (p_0 hp) rfl (p_f4 hp) ?_
  refine e_2 rfl rfl ?_
  refine e_v1 rfl (by first | exact p_0 hp | exact (p_sh4 hp).1 | exact (p_now hp).1) rfl (by decide) rfl (Nat.le_of_ble_eq_true rfl) (ss_has (p_sh4 hp) _) ?_
  refine e_30b rfl (fun h1 => ?_) (fun h1 => ?_)
  · refine e_0 rfl ?_
    exact e_ri rfl rfl (by simp only [eq_false h1, if_true, if_true, if_false, not_true_eq_false, not_false_eq_true, and_true, true_and, and_false, false_and, or_true, true_or, or_false, false_or, reduceIte]; first | done | rfl | (unfold markF; rw [if_neg h5n1, if_neg h5n2, if_neg h5n3, if_neg h5n4]; rfl) | (show _ = pumpF (σ 6) 4 0; rw [of4 h4])) (by simp only [eq_false h1, if_true, if_true, if_false, not_true_eq_false, not_false_eq_true, and_true, true_and, and_false, false_and, or_true, true_or, or_false, false_or, reduceIte]; first | done | rfl)
  · refine e_2 rfl rfl ?_
    refine e_0 rfl ?_
    refine e_38 rfl (fun h2 => ?_) (fun h2 => ?_)
    · refine e_0 rfl ?_
      exact e_ri rfl rfl (by simp only [eq_true h1, eq_true h2, if_true, if_true, if_false, not_true_eq_false, not_false_eq_true, and_true, true_and, and_false, false_and, or_true, true_or, or_false, false_or, reduceIte]; first | done | rfl | (unfold markF; rw [if_neg h5n1, if_neg h5n2, if_neg h5n3, if_neg h5n4]; rfl) | (show _ = pumpF (σ 6) 4 0; rw [of4 h4])) (by simp only [eq_true h1, eq_true h2, if_true, if_true, if_false, not_true_eq_false, not_false_eq_true, and_true, true_and, and_false, false_and, or_true, true_or, or_false, false_or, reduceIte]; first | done | rfl)
    · refine e_2 rfl rfl ?_
      refine e_0 rfl ?_
      refine e_41 rfl (fun h3 => ?_) (fun h3 => ?_)
      · obtain ⟨rfl, hxg⟩ := hx h1
        refine e_4 rfl rfl ?_
        refine e_gr rfl (p_0 hp) rfl (p_f4 hp) ?_
        refine s_g9 (p_sh4 hp) rfl rfl ?_
        refine e_2 rfl rfl ?_
        refine s_a1q (i := x) (by exact (p_sh4 hp)) (by first | rfl | (simp only [← nI_add, ← pk_mul]; rfl) | (simp only [nI_add, pk_mul, nI_1]; done)) (by omega) rfl ?_
        refine e_5 rfl rfl ?_
        refine e_2 rfl rfl ?_
        refine e_2 rfl rfl ?_
        refine e_s2 rfl rfl rfl (Nat.le_of_ble_eq_true rfl) (sp_isOf _ _) ?_
        refine e_31b rfl (fun h4 => ?_) (fun h4 => ?_)
        · refine e_4 rfl rfl ?_
          refine e_gr rfl (p_0 hp) rfl (p_f4 hp) ?_
          refine s_g11 (p_sh4 hp) rfl rfl ?_
          refine e_2 rfl rfl ?_
          refine s_a3q (i := x) (by exact (p_sh4 hp)) (by first | rfl | (simp only [← nI_add, ← pk_mul]; rfl) | (simp only [nI_add, pk_mul, nI_1]; done)) (by omega) rfl ?_
          refine e_5 rfl rfl ?_
          refine e_2 rfl rfl ?_
          refine e_sw rfl rfl (fun h5 => ?_) (fun k t ht h5 => ?_)
          · have h5n1 : ¬ kind = 1 := fun q => by subst q; revert h5; decide
            have h5n2 : ¬ kind = 2 := fun q => by subst q; revert h5; decide
            have h5n3 : ¬ kind = 3 := fun q => by subst q; revert h5; decide
            have h5n4 : ¬ kind = 4 := fun q => by subst q; revert h5; decide
            refine e_4 rfl rfl ?_
            refine e_gr rfl (p_0 hp) rfl (p_f4 hp) ?_
            refine e_v0 rfl (by first | exact p_0 hp | exact (p_sh4 hp).1 | exact (p_now hp).1) rfl (by decide) rfl (Nat.le_of_ble_eq_true rfl) (ss_singers (p_sh4 hp) hg h8) ?_
            exact e_ri rfl rfl (by simp only [eq_true h1, eq_false h2, eq_true h3, eq_true h4, if_true, if_true, if_false, not_true_eq_false, not_false_eq_true, and_true, true_and, and_false, false_and, or_true, true_or, or_false, false_or, reduceIte]; first | done | rfl | (unfold markF; rw [if_neg h5n1, if_neg h5n2, if_neg h5n3, if_neg h5n4]; rfl) | (show _ = pumpF (σ 6) 4 0; rw [of4 h4])) (by simp only [eq_true h1, eq_false h2, eq_true h3, eq_true h4, if_true, if_true, if_false, not_true_eq_false, not_false_eq_true, and_true, true_and, and_false, false_and, or_true, true_or, or_false, false_or, reduceIte]; first | done | rfl)
          · match k, ht with
            | 0, ht =>
              cases ht
              obtain rfl : kind = 1 := Int32.toInt_inj.mp (h5.trans rfl)
              refine e_2 rfl rfl ?_
              refine e_0 rfl ?_
              refine e_17 rfl (by first | decide | assumption) ?_
              exact e_ri rfl rfl (by simp only [eq_true h1, eq_false h2, eq_true h3, eq_true h4, if_true, if_true, if_false, not_true_eq_false, not_false_eq_true, and_true, true_and, and_false, false_and, or_true, true_or, or_false, false_or, reduceIte]; first | done | rfl | (unfold markF; rw [if_neg h5n1, if_neg h5n2, if_neg h5n3, if_neg h5n4]; rfl) | (show _ = pumpF (σ 6) 4 0; rw [of4 h4])) (by simp only [eq_true h1, eq_false h2, eq_true h3, eq_true h4, if_true, if_true, if_false, not_true_eq_false, not_false_eq_true, and_true, true_and, and_false, false_and, or_true, true_or, or_false, false_or, reduceIte]; first | done | rfl)
            | 1, ht =>
              cases ht
              obtain rfl : kind = 2 := Int32.toInt_inj.mp (h5.trans rfl)
              refine e_0 rfl ?_
              refine e_2 rfl rfl ?_
              refine e_0 rfl ?_
              refine e_10 rfl ?_
              refine e_66 rfl (Nat.le_of_ble_eq_true rfl) ?_
              exact e_ri rfl rfl (by simp only [eq_true h1, eq_false h2, eq_true h3, eq_true h4, if_true, if_true, if_false, not_true_eq_false, not_false_eq_true, and_true, true_and, and_false, false_and, or_true, true_or, or_false, false_or, reduceIte]; first | done | rfl | (unfold markF; rw [if_neg h5n1, if_neg h5n2, if_neg h5n3, if_neg h5n4]; rfl) | (show _ = pumpF (σ 6) 4 0; rw [of4 h4])) (by simp only [eq_true h1, eq_false h2, eq_true h3, eq_true h4, if_true, if_true, if_false, not_true_eq_false, not_false_eq_true, and_true, true_and, and_false, false_and, or_true, true_or, or_false, false_or, reduceIte]; first | done | rfl)
            | 2, ht =>
              cases ht
              obtain rfl : kind = 3 := Int32.toInt_inj.mp (h5.trans rfl)
              refine e_4 rfl rfl ?_
              refine e_gr rfl (p_0 hp) rfl (p_f4 hp) ?_
              refine e_0 rfl ?_
              refine e_2 rfl rfl ?_
              refine e_v2 rfl (by first | exact p_0 hp | exact (p_sh4 hp).1 | exact (p_now hp).1) rfl (by decide) rfl (Nat.le_of_ble_eq_true rfl) (ss_wouldPump (p_sh4 hp) _ _) ?_
              refine e_4 rfl rfl ?_
              refine e_gr rfl (p_0 hp) rfl (p_f4 hp) ?_
              refine e_2 rfl rfl ?_
              refine e_2 rfl rfl ?_
              refine e_v2 rfl (by first | exact p_0 hp | exact (p_sh4 hp).1 | exact (p_now hp).1) rfl (by decide) rfl (Nat.le_of_ble_eq_true rfl) (ss_wouldPump (p_sh4 hp) _ _) ?_
              refine e_10 rfl ?_
              exact e_ri rfl rfl (by simp only [eq_true h1, eq_false h2, eq_true h3, eq_true h4, if_true, if_true, if_false, not_true_eq_false, not_false_eq_true, and_true, true_and, and_false, false_and, or_true, true_or, or_false, false_or, reduceIte]; first | done | rfl | (unfold markF; rw [if_neg h5n1, if_neg h5n2, if_neg h5n3, if_neg h5n4]; rfl) | (show _ = pumpF (σ 6) 4 0; rw [of4 h4])) (by simp only [eq_true h1, eq_false h2, eq_true h3, eq_true h4, if_true, if_true, if_false, not_true_eq_false, not_false_eq_true, and_true, true_and, and_false, false_and, or_true, true_or, or_false, false_or, reduceIte]; first | done | rfl)
            | 3, ht =>
              cases ht
              obtain rfl : kind = 4 := Int32.toInt_inj.mp (h5.trans rfl)
              refine e_4 rfl rfl ?_
              refine e_gr rfl (p_0 hp) rfl (p_f4 hp) ?_
              refine e_2 rfl rfl ?_
              refine e_0 rfl ?_
              refine e_v2 rfl (by first | exact p_0 hp | exact (p_sh4 hp).1 | exact (p_now hp).1) rfl (by decide) rfl (Nat.le_of_ble_eq_true rfl) (ss_wouldPump (p_sh4 hp) _ _) ?_
              exact e_ri rfl rfl (by simp only [eq_true h1, eq_false h2, eq_true h3, eq_true h4, if_true, if_true, if_false, not_true_eq_false, not_false_eq_true, and_true, true_and, and_false, false_and, or_true, true_or, or_false, false_or, reduceIte]; first | done | rfl | (unfold markF; rw [if_neg h5n1, if_neg h5n2, if_neg h5n3, if_neg h5n4]; rfl) | (show _ = pumpF (σ 6) 4 0; rw [of4 h4])) (by simp only [eq_true h1, eq_false h2, eq_true h3, eq_true h4, if_true, if_true, if_false, not_true_eq_false, not_false_eq_true, and_true, true_and, and_false, false_and, or_true, true_or, or_false, false_or, reduceIte]; first | done | rfl)
            | k + 4, ht => cases ht
        · refine e_4 rfl rfl ?_
          refine e_0 rfl ?_
          refine e_v1 rfl (by first | exact p_0 hp | exact (p_sh4 hp).1 | exact (p_now hp).1) rfl (by decide) rfl (Nat.le_of_ble_eq_true rfl) (evo (k_find (f := 3) (μ := SM μ 4 σ) hp (by decide) (by decide))) ?_
          exact e_ri rfl rfl (by simp only [eq_true h1, eq_false h2, eq_true h3, eq_false h4, if_true, if_true, if_false, not_true_eq_false, not_false_eq_true, and_true, true_and, and_false, false_and, or_true, true_or, or_false, false_or, reduceIte]; first | done | rfl | (unfold markF; rw [if_neg h5n1, if_neg h5n2, if_neg h5n3, if_neg h5n4]; rfl) | (show _ = pumpF (σ 6) 4 0; rw [of4 h4])) (by simp only [eq_true h1, eq_false h2, eq_true h3, eq_false h4, if_true, if_true, if_false, not_true_eq_false, not_false_eq_true, and_true, true_and, and_false, false_and, or_true, true_or, or_false, false_or, reduceIte]; first | done | rfl)
      · refine e_0 rfl ?_
        exact e_ri rfl rfl (by simp only [eq_true h1, eq_false h2, eq_false h3, if_true, if_true, if_false, not_true_eq_false, not_false_eq_true, and_true, true_and, and_false, false_and, or_true, true_or, or_false, false_or, reduceIte]; first | done | rfl | (unfold markF; rw [if_neg h5n1, if_neg h5n2, if_neg h5n3, if_neg h5n4]; rfl) | (show _ = pumpF (σ 6) 4 0; rw [of4 h4])) (by simp only [eq_true h1, eq_false h2, eq_false h3, if_true, if_true, if_false, not_true_eq_false, not_false_eq_true, and_true, true_and, and_false, false_and, or_true, true_or, or_false, false_or, reduceIte]; first | done | rfl)
theorem k_vpass (hp : isPs μ) (hok : shOK g σ) (h7 : σ 7 = 0 ∨ σ 7 = 1) {p : Nat} (e5 : σ 5 = nI p) (hp40 : p < 40) (a : Int32) : ps_Ev (ps_XX L xs) (d + 5) j_X6_pass [.ref 3, .int a] (SM μ 4 σ) none (SM (VP μ 8 p σ) 4 (passF g σ a)) := by
  refine ⟨Nat.le_of_ble_eq_true rfl, ?_⟩
  have hg := hok.1
  have h8 := hok.2.1
  refine e_4 rfl rfl ?_
  refine e_gr rfl (p_now hp).1 rfl (p_now hp).2.2.2.1 ?_
  refine s_gi (p_now hp).2.1 rfl rfl (by decide) (by decide) ?_
  refine e_0 rfl ?_
  refine e_11 rfl ?_
  refine e_5 rfl rfl ?_
  rw [e5, show (11 : Int32) = nI 11 from rfl, pk_mul, Nat.mul_comm p 11]
  refine e_2 rfl rfl ?_
  refine e_32 rfl (fun h1 => ?_) (fun h1 => ?_)
  · exact absurd h1 (nI_pos (by omega))
  · refine e_2 rfl rfl ?_
    refine e_0 rfl ?_
    refine e_9 rfl ?_
    refine e_4 rfl rfl ?_
    refine e_gr rfl (p_now hp).1 rfl (p_now hp).2.2.2.2 ?_
    refine e_54 rfl (by first | exact (p_now hp).2.2.1 | exact (p_sh4 hp).2.2.2.1 | exact (p_sh4 hp).1 | exact (p_now hp).1) (by decide) (by decide) ?_
    refine e_41 rfl (fun h2 => ?_) (fun h2 => ?_)
    · refine e_4 rfl rfl ?_
      refine e_gr rfl (p_now hp).1 rfl (p_now hp).2.2.2.2 ?_
      refine e_2 rfl rfl ?_
      refine e_4 rfl rfl ?_
      refine e_gr rfl (p_now hp).1 rfl (p_now hp).2.2.2.1 ?_
      refine s_gi (p_now hp).2.1 rfl rfl (by decide) (by decide) ?_
      refine e_49q (i := (11 * p)) rfl (p_now hp).2.2.1 (by first | rfl | (simp only [← nI_add, ← pk_mul]; rfl) | (simp only [nI_add, pk_mul, nI_1]; done)) (by omega) (by decide) ?_
      rw [SM_sIo (by omega)]
      refine e_4 rfl rfl ?_
      refine e_gr rfl (p_now hp).1 rfl (p_now hp).2.2.2.2 ?_
      refine e_2 rfl rfl ?_
      refine e_0 rfl ?_
      refine e_9 rfl ?_
      refine e_4 rfl rfl ?_
      refine e_gr rfl (p_now hp).1 rfl (p_now hp).2.2.2.1 ?_
      refine s_gi (p_now hp).2.1 rfl rfl (by decide) (by decide) ?_
      refine e_49q (i := ((11 * p) + 1)) rfl (p_now hp).2.2.1 (by first | rfl | (simp only [← nI_add, ← pk_mul]; rfl) | (simp only [nI_add, pk_mul, nI_1]; done)) (by omega) (by decide) ?_
      rw [SM_sIo (by omega)]
      refine e_4 rfl rfl ?_
      refine e_gr rfl (p_now hp).1 rfl (p_now hp).2.2.2.2 ?_
      refine e_2 rfl rfl ?_
      refine e_0 rfl ?_
      refine e_9 rfl ?_
      refine e_4 rfl rfl ?_
      refine e_gr rfl (p_now hp).1 rfl (p_now hp).2.2.2.1 ?_
      refine s_gi (p_now hp).2.1 rfl rfl (by decide) (by decide) ?_
      refine e_49q (i := ((11 * p) + 2)) rfl (p_now hp).2.2.1 (by first | rfl | (simp only [← nI_add, ← pk_mul]; rfl) | (simp only [nI_add, pk_mul, nI_1]; done)) (by omega) (by decide) ?_
      rw [SM_sIo (by omega)]
      refine e_4 rfl rfl ?_
      refine e_gr rfl (p_now hp).1 rfl (p_now hp).2.2.2.2 ?_
      refine e_2 rfl rfl ?_
      refine e_0 rfl ?_
      refine e_9 rfl ?_
      refine e_4 rfl rfl ?_
      refine e_gr rfl (p_now hp).1 rfl (p_now hp).2.2.2.1 ?_
      refine s_gi (p_now hp).2.1 rfl rfl (by decide) (by decide) ?_
      refine e_49q (i := ((11 * p) + 3)) rfl (p_now hp).2.2.1 (by first | rfl | (simp only [← nI_add, ← pk_mul]; rfl) | (simp only [nI_add, pk_mul, nI_1]; done)) (by omega) (by decide) ?_
      rw [SM_sIo (by omega)]
      refine e_4 rfl rfl ?_
      refine e_gr rfl (p_now hp).1 rfl (p_now hp).2.2.2.2 ?_
      refine e_2 rfl rfl ?_
      refine e_0 rfl ?_
      refine e_9 rfl ?_
      refine e_4 rfl rfl ?_
      refine e_gr rfl (p_now hp).1 rfl (p_now hp).2.2.2.1 ?_
      refine s_gi (p_now hp).2.1 rfl rfl (by decide) (by decide) ?_
      refine e_30 rfl (fun h3 => ?_) (fun h3 => ?_)
      · refine e_0 rfl ?_
        refine e_49q (i := ((11 * p) + 4)) rfl (p_now hp).2.2.1 (by first | rfl | (simp only [← nI_add, ← pk_mul]; rfl) | (simp only [nI_add, pk_mul, nI_1]; done)) (by omega) (by decide) ?_
        first | rw [show (0 : Int32) = σ 7 from (by assumption : σ 7 = 0).symm] | rw [show (1 : Int32) = σ 7 from (h7.resolve_left (by assumption)).symm]
        rw [SM_sIo (by omega)]
        refine e_4 rfl rfl ?_
        refine e_gr rfl (p_now hp).1 rfl (p_now hp).2.2.2.1 ?_
        refine s_g11 (p_now hp).2.1 rfl rfl ?_
        refine e_0 rfl ?_
        refine e_4 rfl rfl ?_
        refine e_gr rfl (p_now hp).1 rfl (p_now hp).2.2.2.2 ?_
        refine e_2 rfl rfl ?_
        refine e_0 rfl ?_
        refine e_9 rfl ?_
        refine e_0 rfl ?_
        refine e_62 rfl (by first | exact (p_now hp).2.2.1 | exact (p_sh4 hp).2.2.2.1 | exact (p_sh4 hp).1 | exact (p_now hp).1) (by first | exact (p_now hp).2.2.1 | exact (p_sh4 hp).2.2.2.1 | exact (p_sh4 hp).1 | exact (p_now hp).1) (by decide) (by rw [show nI (11 * p) + 5 = nI (11 * p + 5) from nI_add (11 * p) 5]; exact nI_pos (by omega)) (by decide) (by decide) (by rw [show nI (11 * p) + 5 = nI (11 * p + 5) from nI_add (11 * p) 5, nI_clamp (by omega)]; show 11 * p + 5 + 6 ≤ 440; omega) (Nat.le_of_ble_eq_true rfl) ?_
        rw [show nI (11 * p) + 5 = nI (11 * p + 5) from nI_add (11 * p) 5, nI_clamp (by omega)]
        rw [show Int32.toNatClampNeg 0 = 0 from rfl, show Int32.toNatClampNeg 6 = 6 from rfl]
        rw [VP_eq]
        refine e_4 rfl rfl ?_
        refine e_gr rfl (p_now hp).1 rfl (p_now hp).2.2.2.1 ?_
        refine e_2 rfl rfl ?_
        refine e_v1v rfl (by first | exact (p_now hp).2.2.1 | exact (p_sh4 hp).2.2.2.1 | exact (p_sh4 hp).1 | exact (p_now hp).1) rfl (by decide) rfl (Nat.le_of_ble_eq_true rfl) (ss_pass (μ := VP μ 8 p σ) (by exact p_sh4 hp) hg h8 a) ?_
        exact e_rv rfl (rfl)
      · refine e_0 rfl ?_
        refine e_42 rfl ?_
        refine e_49q (i := ((11 * p) + 4)) rfl (p_now hp).2.2.1 (by first | rfl | (simp only [← nI_add, ← pk_mul]; rfl) | (simp only [nI_add, pk_mul, nI_1]; done)) (by omega) (by decide) ?_
        first | rw [show (0 : Int32) = σ 7 from (by assumption : σ 7 = 0).symm] | rw [show (1 : Int32) = σ 7 from (h7.resolve_left (by assumption)).symm]
        rw [SM_sIo (by omega)]
        refine e_4 rfl rfl ?_
        refine e_gr rfl (p_now hp).1 rfl (p_now hp).2.2.2.1 ?_
        refine s_g11 (p_now hp).2.1 rfl rfl ?_
        refine e_0 rfl ?_
        refine e_4 rfl rfl ?_
        refine e_gr rfl (p_now hp).1 rfl (p_now hp).2.2.2.2 ?_
        refine e_2 rfl rfl ?_
        refine e_0 rfl ?_
        refine e_9 rfl ?_
        refine e_0 rfl ?_
        refine e_62 rfl (by first | exact (p_now hp).2.2.1 | exact (p_sh4 hp).2.2.2.1 | exact (p_sh4 hp).1 | exact (p_now hp).1) (by first | exact (p_now hp).2.2.1 | exact (p_sh4 hp).2.2.2.1 | exact (p_sh4 hp).1 | exact (p_now hp).1) (by decide) (by rw [show nI (11 * p) + 5 = nI (11 * p + 5) from nI_add (11 * p) 5]; exact nI_pos (by omega)) (by decide) (by decide) (by rw [show nI (11 * p) + 5 = nI (11 * p + 5) from nI_add (11 * p) 5, nI_clamp (by omega)]; show 11 * p + 5 + 6 ≤ 440; omega) (Nat.le_of_ble_eq_true rfl) ?_
        rw [show nI (11 * p) + 5 = nI (11 * p + 5) from nI_add (11 * p) 5, nI_clamp (by omega)]
        rw [show Int32.toNatClampNeg 0 = 0 from rfl, show Int32.toNatClampNeg 6 = 6 from rfl]
        rw [VP_eq]
        refine e_4 rfl rfl ?_
        refine e_gr rfl (p_now hp).1 rfl (p_now hp).2.2.2.1 ?_
        refine e_2 rfl rfl ?_
        refine e_v1v rfl (by first | exact (p_now hp).2.2.1 | exact (p_sh4 hp).2.2.2.1 | exact (p_sh4 hp).1 | exact (p_now hp).1) rfl (by decide) rfl (Nat.le_of_ble_eq_true rfl) (ss_pass (μ := VP μ 8 p σ) (by exact p_sh4 hp) hg h8 a) ?_
        exact e_rv rfl (rfl)
    · exact absurd (by rw [show nI (11 * p) + 11 = nI (11 * p + 11) from nI_add (11 * p) 11]; exact nI_le (b := 440) (by omega) (by omega)) h2
theorem k_goBack (hp : isPs μ) (hok : shOK g σ) {n : Nat} (hn : n < 40) : ps_Ev (ps_XX L xs) (d + 2) j_X6_goBack [.ref 3, .int (nI n)] (SM μ 4 σ) none (SM μ 4 (limU (gbF (ps_i μ 8) (11 * n) n σ) g)) := by
  refine ⟨Nat.le_of_ble_eq_true rfl, ?_⟩
  have hg := hok.1
  have h8 := hok.2.1
  refine e_2 rfl rfl ?_
  refine e_0 rfl ?_
  refine e_11 rfl ?_
  refine e_5 rfl rfl ?_
  rw [show (11 : Int32) = nI 11 from rfl, pk_mul, Nat.mul_comm n 11]
  refine e_2 rfl rfl ?_
  refine e_32 rfl (fun h1 => ?_) (fun h1 => ?_)
  · exact absurd h1 (nI_pos (by omega))
  · refine e_2 rfl rfl ?_
    refine e_0 rfl ?_
    refine e_9 rfl ?_
    refine e_4 rfl rfl ?_
    refine e_gr rfl (p_now hp).1 rfl (p_now hp).2.2.2.2 ?_
    refine e_54 rfl (by first | exact (p_now hp).2.2.1 | exact (p_sh4 hp).2.2.2.1 | exact (p_sh4 hp).1 | exact (p_now hp).1) (by decide) (by decide) ?_
    refine e_41 rfl (fun h2 => ?_) (fun h2 => ?_)
    · refine e_4 rfl rfl ?_
      refine e_gr rfl (p_now hp).1 rfl (p_now hp).2.2.2.1 ?_
      refine e_4 rfl rfl ?_
      refine e_gr rfl (p_now hp).1 rfl (p_now hp).2.2.2.2 ?_
      refine e_2 rfl rfl ?_
      refine e_48q (i := (11 * n)) rfl (p_now hp).2.2.1 (by first | rfl | (simp only [← nI_add, ← pk_mul]; rfl) | (simp only [nI_add, pk_mul, nI_1]; done)) (by omega) (by decide) ?_
      rw [SM_off (by omega)]
      refine s_pi (p_now hp).2.1 rfl rfl (Or.inl rfl) (by decide) ?_
      refine e_4 rfl rfl ?_
      refine e_gr rfl (p_now hp).1 rfl (p_now hp).2.2.2.1 ?_
      refine e_4 rfl rfl ?_
      refine e_gr rfl (p_now hp).1 rfl (p_now hp).2.2.2.2 ?_
      refine e_2 rfl rfl ?_
      refine e_0 rfl ?_
      refine e_9 rfl ?_
      refine e_48q (i := ((11 * n) + 1)) rfl (p_now hp).2.2.1 (by first | rfl | (simp only [← nI_add, ← pk_mul]; rfl) | (simp only [nI_add, pk_mul, nI_1]; done)) (by omega) (by decide) ?_
      rw [SM_off (by omega)]
      refine s_pi (p_now hp).2.1 rfl rfl (Or.inl rfl) (by decide) ?_
      refine e_4 rfl rfl ?_
      refine e_gr rfl (p_now hp).1 rfl (p_now hp).2.2.2.1 ?_
      refine e_4 rfl rfl ?_
      refine e_gr rfl (p_now hp).1 rfl (p_now hp).2.2.2.2 ?_
      refine e_2 rfl rfl ?_
      refine e_0 rfl ?_
      refine e_9 rfl ?_
      refine e_48q (i := ((11 * n) + 2)) rfl (p_now hp).2.2.1 (by first | rfl | (simp only [← nI_add, ← pk_mul]; rfl) | (simp only [nI_add, pk_mul, nI_1]; done)) (by omega) (by decide) ?_
      rw [SM_off (by omega)]
      refine s_pi (p_now hp).2.1 rfl rfl (Or.inl rfl) (by decide) ?_
      refine e_4 rfl rfl ?_
      refine e_gr rfl (p_now hp).1 rfl (p_now hp).2.2.2.1 ?_
      refine e_4 rfl rfl ?_
      refine e_gr rfl (p_now hp).1 rfl (p_now hp).2.2.2.2 ?_
      refine e_2 rfl rfl ?_
      refine e_0 rfl ?_
      refine e_9 rfl ?_
      refine e_48q (i := ((11 * n) + 3)) rfl (p_now hp).2.2.1 (by first | rfl | (simp only [← nI_add, ← pk_mul]; rfl) | (simp only [nI_add, pk_mul, nI_1]; done)) (by omega) (by decide) ?_
      rw [SM_off (by omega)]
      refine s_pi (p_now hp).2.1 rfl rfl (Or.inl rfl) (by decide) ?_
      refine e_4 rfl rfl ?_
      refine e_gr rfl (p_now hp).1 rfl (p_now hp).2.2.2.1 ?_
      refine e_4 rfl rfl ?_
      refine e_gr rfl (p_now hp).1 rfl (p_now hp).2.2.2.2 ?_
      refine e_2 rfl rfl ?_
      refine e_0 rfl ?_
      refine e_9 rfl ?_
      refine e_48q (i := ((11 * n) + 4)) rfl (p_now hp).2.2.1 (by first | rfl | (simp only [← nI_add, ← pk_mul]; rfl) | (simp only [nI_add, pk_mul, nI_1]; done)) (by omega) (by decide) ?_
      rw [SM_off (by omega)]
      refine e_30 rfl (fun h3 => ?_) (fun h3 => ?_)
      · refine e_0 rfl ?_
        refine s_pi (p_now hp).2.1 rfl rfl (Or.inr ⟨rfl, by first | decide | assumption⟩) (by decide) ?_
        refine e_4 rfl rfl ?_
        refine e_gr rfl (p_now hp).1 rfl (p_now hp).2.2.2.2 ?_
        refine e_2 rfl rfl ?_
        refine e_0 rfl ?_
        refine e_9 rfl ?_
        refine e_4 rfl rfl ?_
        refine e_gr rfl (p_now hp).1 rfl (p_now hp).2.2.2.1 ?_
        refine s_g11 (p_now hp).2.1 rfl rfl ?_
        refine e_0 rfl ?_
        refine e_0 rfl ?_
        refine s_cpo (o := 11 * n + 5) (p_sh4 hp) (p_now hp).2.2.1 (by omega) (nI_add (11 * n) 5) (by omega) (by omega) rfl (Nat.le_of_ble_eq_true rfl) ?_
        refine e_4 rfl rfl ?_
        refine e_gr rfl (p_now hp).1 rfl (p_now hp).2.2.2.1 ?_
        refine e_2 rfl rfl ?_
        refine s_pi (p_now hp).2.1 rfl rfl (Or.inl rfl) (by decide) ?_
        rw [gb_eq (P := ps_i μ 8) (b := 11 * n) (by first | exact (if_pos (by assumption)).symm | exact (if_neg (by assumption)).symm)]
        refine e_4 rfl rfl ?_
        refine e_gr rfl (p_now hp).1 rfl (p_now hp).2.2.2.1 ?_
        refine e_v0v rfl (by first | exact (p_now hp).2.2.1 | exact (p_sh4 hp).2.2.2.1 | exact (p_sh4 hp).1 | exact (p_now hp).1) rfl (by decide) rfl (Nat.le_of_ble_eq_true rfl) (ss_limit (p_sh4 hp) hg (gb_8.trans h8)) ?_
        exact e_rv rfl (rfl)
      · refine e_0 rfl ?_
        refine e_42 rfl ?_
        refine s_pi (p_now hp).2.1 rfl rfl (Or.inr ⟨rfl, by first | decide | assumption⟩) (by decide) ?_
        refine e_4 rfl rfl ?_
        refine e_gr rfl (p_now hp).1 rfl (p_now hp).2.2.2.2 ?_
        refine e_2 rfl rfl ?_
        refine e_0 rfl ?_
        refine e_9 rfl ?_
        refine e_4 rfl rfl ?_
        refine e_gr rfl (p_now hp).1 rfl (p_now hp).2.2.2.1 ?_
        refine s_g11 (p_now hp).2.1 rfl rfl ?_
        refine e_0 rfl ?_
        refine e_0 rfl ?_
        refine s_cpo (o := 11 * n + 5) (p_sh4 hp) (p_now hp).2.2.1 (by omega) (nI_add (11 * n) 5) (by omega) (by omega) rfl (Nat.le_of_ble_eq_true rfl) ?_
        refine e_4 rfl rfl ?_
        refine e_gr rfl (p_now hp).1 rfl (p_now hp).2.2.2.1 ?_
        refine e_2 rfl rfl ?_
        refine s_pi (p_now hp).2.1 rfl rfl (Or.inl rfl) (by decide) ?_
        rw [gb_eq (P := ps_i μ 8) (b := 11 * n) (by first | exact (if_pos (by assumption)).symm | exact (if_neg (by assumption)).symm)]
        refine e_4 rfl rfl ?_
        refine e_gr rfl (p_now hp).1 rfl (p_now hp).2.2.2.1 ?_
        refine e_v0v rfl (by first | exact (p_now hp).2.2.1 | exact (p_sh4 hp).2.2.2.1 | exact (p_sh4 hp).1 | exact (p_now hp).1) rfl (by decide) rfl (Nat.le_of_ble_eq_true rfl) (ss_limit (p_sh4 hp) hg (gb_8.trans h8)) ?_
        exact e_rv rfl (rfl)
    · exact absurd (by rw [show nI (11 * n) + 11 = nI (11 * n + 11) from nI_add (11 * n) 11]; exact nI_le (b := 440) (by omega) (by omega)) h2
theorem kq_act (hp : isPs μ) (hI : shI g σ) {p : Nat} (e5 : σ 5 = nI p) (hp31 : p ≤ 40) {a : Int32} : evI (ps_XX L xs) (d + 6) j_X7_act [.ref 0, .int a] (SM μ 4 σ) (if ¬ actP a then (-1, SM μ 4 σ) else if ¬ canF σ a then (-4, SM μ 4 σ) else (passF g σ a 0, SM (VP μ 8 p σ) 4 (passF g σ a))) := by
  refine ⟨Nat.le_of_ble_eq_true rfl, ?_⟩
  refine e_2 rfl rfl ?_
  refine e_s1 rfl rfl rfl (Nat.le_of_ble_eq_true rfl) (k_isAct _) ?_
  refine e_31b rfl (fun h1 => ?_) (fun h1 => ?_)
  · refine e_4 rfl rfl ?_
    refine e_gr rfl (p_0 hp) rfl (p_f4 hp) ?_
    refine e_2 rfl rfl ?_
    refine e_v1 rfl (by first | exact p_0 hp | exact (p_sh4 hp).1 | exact (p_now hp).1) rfl (by decide) rfl (Nat.le_of_ble_eq_true rfl) (ss_canNow (p_sh4 hp) _) ?_
    refine e_31b rfl (fun h2 => ?_) (fun h2 => ?_)
    · have hp40 : p < 40 := by
        obtain ⟨q, h, hq, hh, f5, f4⟩ := hI.2.2.2.2.2
        have hl := over_lt h2.2.1
        rw [f5, f4] at hl
        have hl := (nI_ltI (by omega) (by omega)).mp hl
        have hb : σ 5 = nI q := f5
        rw [e5] at hb
        have := (nI_eq (by omega) (by omega)).mp hb
        omega
      refine e_4 rfl rfl ?_
      refine e_gr rfl (p_0 hp) rfl (p_f2 hp) ?_
      refine e_2 rfl rfl ?_
      refine e_v1v rfl (by first | exact p_0 hp | exact (p_sh4 hp).1 | exact (p_now hp).1) rfl (by decide) rfl (Nat.le_of_ble_eq_true rfl) (k_vpass hp hI.1 hI.2.2.1 e5 hp40 a) ?_
      refine e_4 rfl rfl ?_
      refine e_gr rfl (p_0 hp) rfl (p_f4 hp) ?_
      refine s_gi (p_sh4 hp) rfl rfl (by decide) (by decide) ?_
      exact e_ri rfl rfl (by first | (simp only [eq_true h1, eq_true h2, if_true, if_true, if_false, not_true_eq_false, not_false_eq_true, and_true, true_and, and_false, false_and, or_true, true_or, or_false, false_or, reduceIte]; done) | (simp only [eq_true h1, eq_true h2, if_true, if_true, if_false, not_true_eq_false, not_false_eq_true, and_true, true_and, and_false, false_and, or_true, true_or, or_false, false_or, reduceIte]; rfl) | rfl) (by first | (simp only [eq_true h1, eq_true h2, if_true, if_true, if_false, not_true_eq_false, not_false_eq_true, and_true, true_and, and_false, false_and, or_true, true_or, or_false, false_or, reduceIte]; done) | (simp only [eq_true h1, eq_true h2, if_true, if_true, if_false, not_true_eq_false, not_false_eq_true, and_true, true_and, and_false, false_and, or_true, true_or, or_false, false_or, reduceIte]; rfl) | rfl)
    · refine e_0 rfl ?_
      exact e_ri rfl rfl (by first | (simp only [eq_true h1, eq_false h2, if_true, if_true, if_false, not_true_eq_false, not_false_eq_true, and_true, true_and, and_false, false_and, or_true, true_or, or_false, false_or, reduceIte]; done) | (simp only [eq_true h1, eq_false h2, if_true, if_true, if_false, not_true_eq_false, not_false_eq_true, and_true, true_and, and_false, false_and, or_true, true_or, or_false, false_or, reduceIte]; rfl) | rfl) (by first | (simp only [eq_true h1, eq_false h2, if_true, if_true, if_false, not_true_eq_false, not_false_eq_true, and_true, true_and, and_false, false_and, or_true, true_or, or_false, false_or, reduceIte]; done) | (simp only [eq_true h1, eq_false h2, if_true, if_true, if_false, not_true_eq_false, not_false_eq_true, and_true, true_and, and_false, false_and, or_true, true_or, or_false, false_or, reduceIte]; rfl) | rfl)
  · refine e_0 rfl ?_
    exact e_ri rfl rfl (by first | (simp only [eq_false h1, if_true, if_true, if_false, not_true_eq_false, not_false_eq_true, and_true, true_and, and_false, false_and, or_true, true_or, or_false, false_or, reduceIte]; done) | (simp only [eq_false h1, if_true, if_true, if_false, not_true_eq_false, not_false_eq_true, and_true, true_and, and_false, false_and, or_true, true_or, or_false, false_or, reduceIte]; rfl) | rfl) (by first | (simp only [eq_false h1, if_true, if_true, if_false, not_true_eq_false, not_false_eq_true, and_true, true_and, and_false, false_and, or_true, true_or, or_false, false_or, reduceIte]; done) | (simp only [eq_false h1, if_true, if_true, if_false, not_true_eq_false, not_false_eq_true, and_true, true_and, and_false, false_and, or_true, true_or, or_false, false_or, reduceIte]; rfl) | rfl)
theorem kq_undo (hp : isPs μ) (hI : shI g σ) {p N : Nat} (e5 : σ 5 = nI p) (hp40 : p ≤ 40) {n : Int32} (hn : ¬ n < 0 ∧ n ≤ σ 5 → n = nI N ∧ N ≤ p) : evI (ps_XX L xs) (d + 3) j_X7_undo [.ref 0, .int n] (SM μ 4 σ) (if ¬ (¬ n < 0 ∧ n ≤ σ 5) then (-1, SM μ 4 σ) else (nI p - nI N, if p = N then SM μ 4 σ else SM μ 4 (limU (gbF (ps_i μ 8) (11 * N) N σ) g))) := by
  refine ⟨Nat.le_of_ble_eq_true rfl, ?_⟩
  refine e_2 rfl rfl ?_
  refine e_32 rfl (fun h1 => ?_) (fun h1 => ?_)
  · refine e_0 rfl ?_
    exact e_ri rfl rfl (by first | (simp only [eq_true h1, if_true, eq_true h2b, hq, if_true, if_false, not_true_eq_false, not_false_eq_true, and_true, true_and]; done) | first | (simp only [eq_true h1, if_true, if_true, if_false, not_true_eq_false, not_false_eq_true, and_true, true_and, and_false, false_and, or_true, true_or, or_false, false_or, reduceIte]; done) | (simp only [eq_true h1, if_true, if_true, if_false, not_true_eq_false, not_false_eq_true, and_true, true_and, and_false, false_and, or_true, true_or, or_false, false_or, reduceIte]; rfl) | rfl) (by first | (simp only [eq_true h1, if_true, eq_true h2b, hq, if_true, if_false, not_true_eq_false, not_false_eq_true, and_true, true_and]; done) | first | (simp only [eq_true h1, if_true, if_true, if_false, not_true_eq_false, not_false_eq_true, and_true, true_and, and_false, false_and, or_true, true_or, or_false, false_or, reduceIte]; done) | (simp only [eq_true h1, if_true, if_true, if_false, not_true_eq_false, not_false_eq_true, and_true, true_and, and_false, false_and, or_true, true_or, or_false, false_or, reduceIte]; rfl) | rfl)
  · refine e_2 rfl rfl ?_
    refine e_4 rfl rfl ?_
    refine e_gr rfl (p_0 hp) rfl (p_f4 hp) ?_
    refine s_gi (p_sh4 hp) rfl rfl (by decide) (by decide) ?_
    refine e_41 rfl (fun h2 => ?_) (fun h2 => ?_)
    · obtain ⟨rfl, hNp⟩ := hn ⟨h1, h2⟩
      refine e_4 rfl rfl ?_
      refine e_gr rfl (p_0 hp) rfl (p_f4 hp) ?_
      refine s_gi (p_sh4 hp) rfl rfl (by decide) (by decide) ?_
      refine e_2 rfl rfl ?_
      refine e_10 rfl ?_
      refine e_5 rfl rfl ?_
      have h2b := h2
      rw [e5] at h2b ⊢
      refine e_2 rfl rfl ?_
      refine e_35 rfl (fun h3 => ?_) (fun h3 => ?_)
      · first | have hq : (p = N) = True := eq_true (undo_eq hp40 hNp h3) | have hq : (p = N) = False := eq_false hpN
        refine e_2 rfl rfl ?_
        exact e_ri rfl rfl (by first | (simp only [eq_false h1, eq_true h2, eq_true h3, if_true, eq_true h2b, hq, if_true, if_false, not_true_eq_false, not_false_eq_true, and_true, true_and]; done) | first | (simp only [eq_false h1, eq_true h2, eq_true h3, if_true, if_true, if_false, not_true_eq_false, not_false_eq_true, and_true, true_and, and_false, false_and, or_true, true_or, or_false, false_or, reduceIte]; done) | (simp only [eq_false h1, eq_true h2, eq_true h3, if_true, if_true, if_false, not_true_eq_false, not_false_eq_true, and_true, true_and, and_false, false_and, or_true, true_or, or_false, false_or, reduceIte]; rfl) | rfl) (by first | (simp only [eq_false h1, eq_true h2, eq_true h3, if_true, eq_true h2b, hq, if_true, if_false, not_true_eq_false, not_false_eq_true, and_true, true_and]; done) | first | (simp only [eq_false h1, eq_true h2, eq_true h3, if_true, if_true, if_false, not_true_eq_false, not_false_eq_true, and_true, true_and, and_false, false_and, or_true, true_or, or_false, false_or, reduceIte]; done) | (simp only [eq_false h1, eq_true h2, eq_true h3, if_true, if_true, if_false, not_true_eq_false, not_false_eq_true, and_true, true_and, and_false, false_and, or_true, true_or, or_false, false_or, reduceIte]; rfl) | rfl)
      · have hN40 : N < 40 := by
          refine Classical.byContradiction fun z => h3 ?_
          rw [pk_sub (by omega), show p - N = 0 by omega]; decide
        have hpN : ¬ p = N := fun z => h3 (by rw [z, pk_sub (Nat.le_refl _), Nat.sub_self]; decide)
        refine e_4 rfl rfl ?_
        refine e_gr rfl (p_0 hp) rfl (p_f2 hp) ?_
        refine e_2 rfl rfl ?_
        refine e_v1v rfl (by first | exact p_0 hp | exact (p_sh4 hp).1 | exact (p_now hp).1) rfl (by decide) rfl (Nat.le_of_ble_eq_true rfl) (k_goBack hp hI.1 hN40) ?_
        first | have hq : (p = N) = True := eq_true (undo_eq hp40 hNp h3) | have hq : (p = N) = False := eq_false hpN
        refine e_2 rfl rfl ?_
        exact e_ri rfl rfl (by first | (simp only [eq_false h1, eq_true h2, eq_false h3, if_true, eq_true h2b, hq, if_true, if_false, not_true_eq_false, not_false_eq_true, and_true, true_and]; done) | first | (simp only [eq_false h1, eq_true h2, eq_false h3, if_true, if_true, if_false, not_true_eq_false, not_false_eq_true, and_true, true_and, and_false, false_and, or_true, true_or, or_false, false_or, reduceIte]; done) | (simp only [eq_false h1, eq_true h2, eq_false h3, if_true, if_true, if_false, not_true_eq_false, not_false_eq_true, and_true, true_and, and_false, false_and, or_true, true_or, or_false, false_or, reduceIte]; rfl) | rfl) (by first | (simp only [eq_false h1, eq_true h2, eq_false h3, if_true, eq_true h2b, hq, if_true, if_false, not_true_eq_false, not_false_eq_true, and_true, true_and]; done) | first | (simp only [eq_false h1, eq_true h2, eq_false h3, if_true, if_true, if_false, not_true_eq_false, not_false_eq_true, and_true, true_and, and_false, false_and, or_true, true_or, or_false, false_or, reduceIte]; done) | (simp only [eq_false h1, eq_true h2, eq_false h3, if_true, if_true, if_false, not_true_eq_false, not_false_eq_true, and_true, true_and, and_false, false_and, or_true, true_or, or_false, false_or, reduceIte]; rfl) | rfl)
    · refine e_0 rfl ?_
      exact e_ri rfl rfl (by first | (simp only [eq_false h1, eq_false h2, if_true, eq_true h2b, hq, if_true, if_false, not_true_eq_false, not_false_eq_true, and_true, true_and]; done) | first | (simp only [eq_false h1, eq_false h2, if_true, if_true, if_false, not_true_eq_false, not_false_eq_true, and_true, true_and, and_false, false_and, or_true, true_or, or_false, false_or, reduceIte]; done) | (simp only [eq_false h1, eq_false h2, if_true, if_true, if_false, not_true_eq_false, not_false_eq_true, and_true, true_and, and_false, false_and, or_true, true_or, or_false, false_or, reduceIte]; rfl) | rfl) (by first | (simp only [eq_false h1, eq_false h2, if_true, eq_true h2b, hq, if_true, if_false, not_true_eq_false, not_false_eq_true, and_true, true_and]; done) | first | (simp only [eq_false h1, eq_false h2, if_true, if_true, if_false, not_true_eq_false, not_false_eq_true, and_true, true_and, and_false, false_and, or_true, true_or, or_false, false_or, reduceIte]; done) | (simp only [eq_false h1, eq_false h2, if_true, if_true, if_false, not_true_eq_false, not_false_eq_true, and_true, true_and, and_false, false_and, or_true, true_or, or_false, false_or, reduceIte]; rfl) | rfl)
end KQ2
