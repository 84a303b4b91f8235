-- ===== the class: its cells =====
def psS (k : Nat) : Nat × Nat := [(6, 0), (12, 6), (13, 4), (5, 0), (3, 0), (10, 6), (10, 6), (10, 6), (10, 440), (14, 3), (3, 0), (10, 6), (10, 6), (10, 6), (0, 0), (3, 0), (10, 6), (10, 6), (10, 6), (2, 0), (10, 4), (15, 5), (10, 4), (3, 0), (10, 6), (10, 6), (10, 6), (3, 0), (10, 6), (10, 6), (10, 6), (3, 0), (10, 6), (10, 6), (10, 6), (3, 0), (10, 6), (10, 6), (10, 6), (3, 0), (10, 6), (10, 6), (10, 6), (10, 3), (10, 6), (1, 0), (10, 40), (1, 0), (10, 40), (1, 0), (10, 40), (1, 0), (10, 40), (1, 0), (10, 40), (1, 0), (10, 40), (4, 0), (11, 60), (4, 0), (11, 60), (4, 0), (11, 60), (4, 0), (11, 60), (5, 0), (3, 0), (10, 6), (10, 6), (10, 6), (10, 440), (5, 0), (3, 0), (10, 6), (10, 6), (10, 6), (10, 440), (5, 0), (3, 0), (10, 6), (10, 6), (10, 6), (10, 440)].getD k (99, 0)
def psF (i : Nat) : Nat := [1, 2, 3, 9, 4, 10, 14, 19, 43, 44].getD i 0
def isPs (μ : ps_M) : Prop := (∀ k, k < 83 → ps_s μ k = psS k) ∧ (∀ i, i < 10 → ps_r μ 0 i = some (psF i)) ∧ (∀ i, i < 6 → ps_r μ 1 i = some (45 + 2 * i)) ∧ (∀ i, i < 4 → ps_r μ 2 i = some (57 + 2 * i)) ∧ (∀ i, i < 3 → ps_r μ 9 i = some (65 + 6 * i)) ∧ (∀ i, i < 5 → ps_r μ 21 i = some (23 + 4 * i)) ∧ (ps_r μ 3 0 = some 4 ∧ ps_r μ 3 2 = some 8 ∧ ps_r μ 14 0 = some 15 ∧ ps_r μ 19 0 = some 20 ∧ ps_r μ 19 4 = some 21 ∧ ps_r μ 19 5 = some 22) ∧ (∀ b, b = 4 ∨ b = 10 ∨ b = 15 ∨ b = 23 ∨ b = 27 ∨ b = 31 ∨ b = 35 ∨ b = 39 ∨ b = 66 ∨ b = 72 ∨ b = 78 → ps_r μ b 9 = some (b + 1) ∧ ps_r μ b 10 = some (b + 2) ∧ ps_r μ b 11 = some (b + 3)) ∧ (∀ k, k < 6 → ps_r μ (45 + 2 * k) 1 = some (46 + 2 * k)) ∧ (∀ k, k < 4 → ps_r μ (57 + 2 * k) 1 = some (58 + 2 * k)) ∧ (∀ k, k < 3 → ps_r μ (65 + 6 * k) 0 = some (66 + 6 * k) ∧ ps_r μ (65 + 6 * k) 2 = some (70 + 6 * k))
def isVo (μ : ps_M) (v s p : Nat) : Prop := ps_s μ v = (5, 0) ∧ isSh μ s ∧ ps_s μ p = (10, 440) ∧ ps_r μ v 0 = some s ∧ ps_r μ v 2 = some p
section PSS
variable {μ : ps_M}
theorem p_0 (hp : isPs μ) : ps_s μ 0 = (6, 0) := hp.1 0 (by decide)
theorem p_1 (hp : isPs μ) : ps_s μ 1 = (12, 6) := hp.1 1 (by decide)
theorem p_2 (hp : isPs μ) : ps_s μ 2 = (13, 4) := hp.1 2 (by decide)
theorem p_9 (hp : isPs μ) : ps_s μ 9 = (14, 3) := hp.1 9 (by decide)
theorem p_14 (hp : isPs μ) : ps_s μ 14 = (0, 0) := hp.1 14 (by decide)
theorem p_19 (hp : isPs μ) : ps_s μ 19 = (2, 0) := hp.1 19 (by decide)
theorem p_20 (hp : isPs μ) : ps_s μ 20 = (10, 4) := hp.1 20 (by decide)
theorem p_21 (hp : isPs μ) : ps_s μ 21 = (15, 5) := hp.1 21 (by decide)
theorem p_22 (hp : isPs μ) : ps_s μ 22 = (10, 4) := hp.1 22 (by decide)
theorem p_43 (hp : isPs μ) : ps_s μ 43 = (10, 3) := hp.1 43 (by decide)
theorem p_44 (hp : isPs μ) : ps_s μ 44 = (10, 6) := hp.1 44 (by decide)
theorem p_f0 (hp : isPs μ) : ps_r μ 0 0 = some 1 := hp.2.1 0 (by decide)
theorem p_f1 (hp : isPs μ) : ps_r μ 0 1 = some 2 := hp.2.1 1 (by decide)
theorem p_f2 (hp : isPs μ) : ps_r μ 0 2 = some 3 := hp.2.1 2 (by decide)
theorem p_f3 (hp : isPs μ) : ps_r μ 0 3 = some 9 := hp.2.1 3 (by decide)
theorem p_f4 (hp : isPs μ) : ps_r μ 0 4 = some 4 := hp.2.1 4 (by decide)
theorem p_f5 (hp : isPs μ) : ps_r μ 0 5 = some 10 := hp.2.1 5 (by decide)
theorem p_f6 (hp : isPs μ) : ps_r μ 0 6 = some 14 := hp.2.1 6 (by decide)
theorem p_f7 (hp : isPs μ) : ps_r μ 0 7 = some 19 := hp.2.1 7 (by decide)
theorem p_f8 (hp : isPs μ) : ps_r μ 0 8 = some 43 := hp.2.1 8 (by decide)
theorem p_f9 (hp : isPs μ) : ps_r μ 0 9 = some 44 := hp.2.1 9 (by decide)
theorem p_r1 (hp : isPs μ) {i : Nat} (h : i < 6) : ps_r μ 1 i = some (45 + 2 * i) := hp.2.2.1 i h
theorem p_r2 (hp : isPs μ) {i : Nat} (h : i < 4) : ps_r μ 2 i = some (57 + 2 * i) := hp.2.2.2.1 i h
theorem p_r9 (hp : isPs μ) {i : Nat} (h : i < 3) : ps_r μ 9 i = some (65 + 6 * i) := hp.2.2.2.2.1 i h
theorem p_r21 (hp : isPs μ) {i : Nat} (h : i < 5) : ps_r μ 21 i = some (23 + 4 * i) := hp.2.2.2.2.2.1 i h
theorem p_r14 (hp : isPs μ) : ps_r μ 14 0 = some 15 := hp.2.2.2.2.2.2.1.2.2.1
theorem p_r19_0 (hp : isPs μ) : ps_r μ 19 0 = some 20 := hp.2.2.2.2.2.2.1.2.2.2.1
theorem p_r19_4 (hp : isPs μ) : ps_r μ 19 4 = some 21 := hp.2.2.2.2.2.2.1.2.2.2.2.1
theorem p_r19_5 (hp : isPs μ) : ps_r μ 19 5 = some 22 := hp.2.2.2.2.2.2.1.2.2.2.2.2
theorem p_sh (hp : isPs μ) {b : Nat} (h : b = 4 ∨ b = 10 ∨ b = 15 ∨ b = 23 ∨ b = 27 ∨ b = 31 ∨ b = 35 ∨ b = 39 ∨ b = 66 ∨ b = 72 ∨ b = 78) : isSh μ b := by
  obtain ⟨r1, r2, r3⟩ := hp.2.2.2.2.2.2.2.1 b h
  refine ⟨?_, ?_, ?_, ?_, r1, r2, r3⟩ <;> rw [hp.1 _ (by omega)] <;> rcases h with rfl | rfl | rfl | rfl | rfl | rfl | rfl | rfl | rfl | rfl | rfl <;> rfl
theorem p_sh4 (hp : isPs μ) : isSh μ 4 := p_sh hp (by decide)
theorem p_sh10 (hp : isPs μ) : isSh μ 10 := p_sh hp (by decide)
theorem p_sh15 (hp : isPs μ) : isSh μ 15 := p_sh hp (by decide)
theorem p_shL (hp : isPs μ) {k : Nat} (h : k < 5) : isSh μ (23 + 4 * k) := p_sh hp (by omega)
theorem p_shK (hp : isPs μ) {k : Nat} (h : k < 3) : isSh μ (66 + 6 * k) := p_sh hp (by omega)
theorem p_ro (hp : isPs μ) {k : Nat} (h : k < 6) : isRo μ (45 + 2 * k) := by
  refine ⟨?_, ?_, ?_⟩
  · rw [hp.1 _ (by omega)]; rcases (show k = 0 ∨ k = 1 ∨ k = 2 ∨ k = 3 ∨ k = 4 ∨ k = 5 by omega) with rfl | rfl | rfl | rfl | rfl | rfl <;> rfl
  · rw [hp.1 _ (by omega)]; rcases (show k = 0 ∨ k = 1 ∨ k = 2 ∨ k = 3 ∨ k = 4 ∨ k = 5 by omega) with rfl | rfl | rfl | rfl | rfl | rfl <;> rfl
  · rw [hp.2.2.2.2.2.2.2.2.1 k h]; congr 1; omega
theorem p_tx (hp : isPs μ) {k : Nat} (h : k < 4) : isTx μ (57 + 2 * k) := by
  refine ⟨?_, ?_, ?_⟩
  · rw [hp.1 _ (by omega)]; rcases (show k = 0 ∨ k = 1 ∨ k = 2 ∨ k = 3 by omega) with rfl | rfl | rfl | rfl <;> rfl
  · rw [hp.1 _ (by omega)]; rcases (show k = 0 ∨ k = 1 ∨ k = 2 ∨ k = 3 by omega) with rfl | rfl | rfl | rfl <;> rfl
  · rw [hp.2.2.2.2.2.2.2.2.2.1 k h]; congr 1; omega
theorem p_now (hp : isPs μ) : isVo μ 3 4 8 := ⟨hp.1 3 (by decide), p_sh4 hp, hp.1 8 (by decide), hp.2.2.2.2.2.2.1.1, hp.2.2.2.2.2.2.1.2.1⟩
theorem p_vo (hp : isPs μ) {k : Nat} (h : k < 3) : isVo μ (65 + 6 * k) (65 + 6 * k + 1) (65 + 6 * k + 5) := by
  refine ⟨?_, ?_, ?_, ?_, ?_⟩
  · rw [hp.1 _ (by omega)]; rcases (show k = 0 ∨ k = 1 ∨ k = 2 by omega) with rfl | rfl | rfl <;> rfl
  · rw [show 65 + 6 * k + 1 = 66 + 6 * k by omega]; exact p_shK hp h
  · rw [hp.1 _ (by omega)]; rcases (show k = 0 ∨ k = 1 ∨ k = 2 by omega) with rfl | rfl | rfl <;> rfl
  · rw [(hp.2.2.2.2.2.2.2.2.2.2 k h).1]; congr 1; omega
  · rw [(hp.2.2.2.2.2.2.2.2.2.2 k h).2]; congr 1; omega
theorem isPs.wI {I : Nat → Nat → Int32} (hp : isPs μ) : isPs (ps_wI μ I) := hp
theorem isPs.sI {k i : Nat} {x : Int32} (hp : isPs μ) : isPs (ps_sI μ k i x) := hp
theorem isPs.sL {k i : Nat} {x : Int64} (hp : isPs μ) : isPs (ps_sL μ k i x) := hp
theorem isPs.SM {b : Nat} {σ : Nat → Int32} (hp : isPs μ) : isPs (SM μ b σ) := hp
theorem isPs.sR {x : Option Nat} (hp : isPs μ) : isPs (ps_sR μ 14 1 x) := by
  have e : ∀ k i, ¬ (k = 14 ∧ i = 1) → ps_r (ps_sR μ 14 1 x) k i = ps_r μ k i := fun k i h => if_neg h
  obtain ⟨h1, h2, h3, h4, h5, h6, ⟨a1, a2, a3, a4, a5, a6⟩, h8, h9, h10, h11⟩ := hp
  refine ⟨h1, fun i hi => ?_, fun i hi => ?_, fun i hi => ?_, fun i hi => ?_, fun i hi => ?_, ⟨?_, ?_, ?_, ?_, ?_, ?_⟩, fun b hb => ⟨?_, ?_, ?_⟩, fun k hk => ?_, fun k hk => ?_, fun k hk => ⟨?_, ?_⟩⟩
  · rw [e _ _ (by omega)]; exact h2 i hi
  · rw [e _ _ (by omega)]; exact h3 i hi
  · rw [e _ _ (by omega)]; exact h4 i hi
  · rw [e _ _ (by omega)]; exact h5 i hi
  · rw [e _ _ (by omega)]; exact h6 i hi
  · rw [e _ _ (by omega)]; exact a1
  · rw [e _ _ (by omega)]; exact a2
  · rw [e _ _ (by omega)]; exact a3
  · rw [e _ _ (by omega)]; exact a4
  · rw [e _ _ (by omega)]; exact a5
  · rw [e _ _ (by omega)]; exact a6
  · rw [e _ _ (by omega)]; exact (h8 b hb).1
  · rw [e _ _ (by omega)]; exact (h8 b hb).2.1
  · rw [e _ _ (by omega)]; exact (h8 b hb).2.2
  · rw [e _ _ (by omega)]; exact h9 k hk
  · rw [e _ _ (by omega)]; exact h10 k hk
  · rw [e _ _ (by omega)]; exact (h11 k hk).1
  · rw [e _ _ (by omega)]; exact (h11 k hk).2
end PSS
section EKS
variable {X : Nat → Nat × (Nat → Int32)} {Cl : Nat → List Value → ps_M → Option Value → ps_M → Prop} {j : Nat} {K : ps_F → Prop} {pc : Nat} {v : Int32} {w : Int64} {nx b : Nat} {lv : List (Nat × Value)} {st : List Value} {μ : ps_M} {q : Nat} {σ : Nat → Int32}
theorem e_gaq {k kd n i q : Nat} {x : Int32} (h0 : ps_ins j pc = some (52, v, w, nx, b)) (hs : ps_s μ k = (kd, n)) (h12 : 12 ≤ kd) (h16 : kd < 16) (hx : x = nI i) (hi : i < n) (hn : n < 2 ^ 31) (hq : ps_r μ k i = some q) (h3 : ps_To X Cl j K (nx, lv, .ref q :: st, μ)) : ps_To X Cl j K (pc, lv, .int x :: .ref k :: st, μ) := by
  subst hx
  exact e_ga h0 hs h12 h16 (vp_in_nI hi hn) (by rw [nI_clamp (by omega)]; exact hq) h3
theorem s_a1q {i : Nat} {x : Int32} (hb : isSh μ q) (hx : x = nI i) (hi : i < 6) (h0 : ps_ins j pc = some (48, v, w, nx, b)) (h3 : ps_To X Cl j K (nx, lv, .int (σ (9 + i)) :: st, SM μ q σ)) : ps_To X Cl j K (pc, lv, .int x :: .ref (q + 1) :: st, SM μ q σ) := e_48q h0 hb.2.1 hx hi (by decide) (by rw [SM_k hi]; exact h3)
theorem s_a2q {i : Nat} {x : Int32} (hb : isSh μ q) (hx : x = nI i) (hi : i < 6) (h0 : ps_ins j pc = some (48, v, w, nx, b)) (h3 : ps_To X Cl j K (nx, lv, .int (σ (15 + i)) :: st, SM μ q σ)) : ps_To X Cl j K (pc, lv, .int x :: .ref (q + 2) :: st, SM μ q σ) := e_48q h0 hb.2.2.1 hx hi (by decide) (by rw [SM_f hi]; exact h3)
theorem s_a3q {i : Nat} {x : Int32} (hb : isSh μ q) (hx : x = nI i) (hi : i < 6) (h0 : ps_ins j pc = some (48, v, w, nx, b)) (h3 : ps_To X Cl j K (nx, lv, .int (σ (21 + i)) :: st, SM μ q σ)) : ps_To X Cl j K (pc, lv, .int x :: .ref (q + 3) :: st, SM μ q σ) := e_48q h0 hb.2.2.2.1 hx hi (by decide) (by rw [SM_s hi]; exact h3)
theorem s_p1q {i : Nat} {x y : Int32} (hb : isSh μ q) (hx : x = nI i) (hi : i < 6) (h0 : ps_ins j pc = some (49, v, w, nx, b)) (h3 : ps_To X Cl j K (nx, lv, st, SM μ q (upd σ (9 + i) y))) : ps_To X Cl j K (pc, lv, .int y :: .int x :: .ref (q + 1) :: st, SM μ q σ) := e_49q h0 hb.2.1 hx hi (by decide) (by rw [SM_pk hi]; exact h3)
theorem s_p2q {i : Nat} {x y : Int32} (hb : isSh μ q) (hx : x = nI i) (hi : i < 6) (h0 : ps_ins j pc = some (49, v, w, nx, b)) (h3 : ps_To X Cl j K (nx, lv, st, SM μ q (upd σ (15 + i) y))) : ps_To X Cl j K (pc, lv, .int y :: .int x :: .ref (q + 2) :: st, SM μ q σ) := e_49q h0 hb.2.2.1 hx hi (by decide) (by rw [SM_pf hi]; exact h3)
end EKS
/-- the first n of a row all the same -/
def FL (μ : ps_M) (k n : Nat) (v : Int32) : ps_M := ps_wI μ (fun a i => if a = k ∧ i < n then v else ps_i μ a i)
theorem FL_0 {μ : ps_M} {k : Nat} {v : Int32} : FL μ k 0 v = μ := by
  refine ps_M_ext rfl rfl rfl ?_ rfl rfl
  funext a i
  exact if_neg (by omega)
theorem FL_s {μ : ps_M} {k n : Nat} {v : Int32} : ps_sI (FL μ k n v) k n v = FL μ k (n + 1) v := by
  refine ps_M_ext rfl rfl rfl ?_ rfl rfl
  funext a i
  show ps_up (fun a i => if a = k ∧ i < n then v else ps_i μ a i) k n v a i = if a = k ∧ i < n + 1 then v else ps_i μ a i
  unfold ps_up
  dsimp only
  repeat' split
  all_goals first | rfl | omega
section KRO
variable {L : Nat} {xs : Nat → Int32} {d : Nat} {μ : ps_M} {r : Nat}
-- isRo
theorem kr_isMissing (hr : isRo μ r) : ps_Ev (ps_XX L xs) (d + 1) j_X4_isMissing [.ref r] μ (some (.int (b2i (¬ 0 ≤ ps_i μ r 0)))) μ := by
  refine ⟨Nat.le_of_ble_eq_true rfl, ?_⟩
  refine e_4 rfl rfl ?_
  refine e_gi rfl hr.1 rfl (by decide) ?_
  refine e_33 rfl (fun h1 => ?_) (fun h1 => ?_)
  · refine e_0 rfl ?_
    exact e_rz rfl rfl (by first | decide | exact b2i_01 | assumption) (by first | rfl | (simp only [eq_true h1, if_true, if_true, if_false, ite_true, ite_false, not_true_eq_false, not_false_eq_true, and_true, true_and, and_false, false_and, or_true, true_or, or_false, false_or, Classical.not_not, b2i, reduceIte]; done) | grind [b2i]) (rfl)
  · refine e_0 rfl ?_
    refine e_42 rfl ?_
    exact e_rz rfl rfl (by first | decide | exact b2i_01 | assumption) (by first | rfl | (simp only [eq_false h1, if_true, if_true, if_false, ite_true, ite_false, not_true_eq_false, not_false_eq_true, and_true, true_and, and_false, false_and, or_true, true_or, or_false, false_or, Classical.not_not, b2i, reduceIte]; done) | grind [b2i]) (rfl)
theorem kr_has (hr : isRo μ r) (i : Int32) : ps_Ev (ps_XX L xs) (d + 1) j_X4_has [.ref r, .int i] μ (some (.int (b2i (¬ i < 0 ∧ ¬ ps_i μ r 0 ≤ i)))) μ := by
  refine ⟨Nat.le_of_ble_eq_true rfl, ?_⟩
  refine e_2 rfl rfl ?_
  refine e_32 rfl (fun h1 => ?_) (fun h1 => ?_)
  · refine e_0 rfl ?_
    exact e_rz rfl rfl (by first | decide | exact b2i_01 | assumption) (by first | rfl | (simp only [eq_true h1, if_true, if_true, if_false, ite_true, ite_false, not_true_eq_false, not_false_eq_true, and_true, true_and, and_false, false_and, or_true, true_or, or_false, false_or, Classical.not_not, b2i, reduceIte]; done) | grind [b2i]) (rfl)
  · refine e_2 rfl rfl ?_
    refine e_4 rfl rfl ?_
    refine e_gi rfl hr.1 rfl (by decide) ?_
    refine e_39 rfl (fun h2 => ?_) (fun h2 => ?_)
    · refine e_0 rfl ?_
      exact e_rz rfl rfl (by first | decide | exact b2i_01 | assumption) (by first | rfl | (simp only [eq_false h1, eq_true h2, if_true, if_true, if_false, ite_true, ite_false, not_true_eq_false, not_false_eq_true, and_true, true_and, and_false, false_and, or_true, true_or, or_false, false_or, Classical.not_not, b2i, reduceIte]; done) | grind [b2i]) (rfl)
    · refine e_0 rfl ?_
      refine e_42 rfl ?_
      exact e_rz rfl rfl (by first | decide | exact b2i_01 | assumption) (by first | rfl | (simp only [eq_false h1, eq_false h2, if_true, if_true, if_false, ite_true, ite_false, not_true_eq_false, not_false_eq_true, and_true, true_and, and_false, false_and, or_true, true_or, or_false, false_or, Classical.not_not, b2i, reduceIte]; done) | grind [b2i]) (rfl)
theorem kr_findingAt (hr : isRo μ r) (i : Int32) : ps_Ev (ps_XX L xs) (d + 2) j_X4_findingAt [.ref r, .int i] μ (some (.int (if ¬ 0 ≤ ps_i μ r 0 then 1 else if ¬ i < 0 ∧ ¬ ps_i μ r 0 ≤ i then 0 else 2))) μ := by
  refine ⟨Nat.le_of_ble_eq_true rfl, ?_⟩
  refine e_4 rfl rfl ?_
  refine e_v0 rfl (by exact hr.1) rfl (by decide) rfl (Nat.le_of_ble_eq_true rfl) (kr_isMissing hr) ?_
  refine e_30b rfl (fun h1 => ?_) (fun h1 => ?_)
  · refine e_4 rfl rfl ?_
    refine e_2 rfl rfl ?_
    refine e_v1 rfl (by exact hr.1) rfl (by decide) rfl (Nat.le_of_ble_eq_true rfl) (kr_has hr i) ?_
    refine e_30b rfl (fun h2 => ?_) (fun h2 => ?_)
    · refine e_0 rfl ?_
      exact e_ri rfl rfl (by first | (simp only [eq_false h1, eq_false h2, if_true, if_true, if_false, not_true_eq_false, not_false_eq_true, and_true, true_and, and_false, false_and, or_true, true_or, or_false, false_or, reduceIte]; done) | (simp only [eq_false h1, eq_false h2, if_true, if_true, if_false, not_true_eq_false, not_false_eq_true, and_true, true_and, and_false, false_and, or_true, true_or, or_false, false_or, reduceIte]; rfl) | rfl) (rfl)
    · refine e_0 rfl ?_
      refine e_42 rfl ?_
      exact e_ri rfl rfl (by first | (simp only [eq_false h1, eq_true h2, if_true, if_true, if_false, not_true_eq_false, not_false_eq_true, and_true, true_and, and_false, false_and, or_true, true_or, or_false, false_or, reduceIte]; done) | (simp only [eq_false h1, eq_true h2, if_true, if_true, if_false, not_true_eq_false, not_false_eq_true, and_true, true_and, and_false, false_and, or_true, true_or, or_false, false_or, reduceIte]; rfl) | rfl) (rfl)
  · refine e_0 rfl ?_
    exact e_ri rfl rfl (by first | (simp only [eq_true h1, if_true, if_true, if_false, not_true_eq_false, not_false_eq_true, and_true, true_and, and_false, false_and, or_true, true_or, or_false, false_or, reduceIte]; done) | (simp only [eq_true h1, if_true, if_true, if_false, not_true_eq_false, not_false_eq_true, and_true, true_and, and_false, false_and, or_true, true_or, or_false, false_or, reduceIte]; rfl) | rfl) (rfl)
theorem kr_valueAt (hr : isRo μ r) {i : Nat} (hi : i < 40) {c : Int32} (hc : c = if ¬ nI i < 0 ∧ ¬ ps_i μ r 0 ≤ nI i then ps_i μ (r + 1) i else 0) : ps_Ev (ps_XX L xs) (d + 2) j_X1_valueAt [.ref r, .int (nI i)] μ (some (.int c)) μ := by
  refine ⟨Nat.le_of_ble_eq_true rfl, ?_⟩
  refine e_4 rfl rfl ?_
  refine e_2 rfl rfl ?_
  refine e_v1 rfl (by exact hr.1) rfl (by decide) rfl (Nat.le_of_ble_eq_true rfl) (kr_has hr _) ?_
  refine e_30b rfl (fun h1 => ?_) (fun h1 => ?_)
  · refine e_0 rfl ?_
    exact e_ri rfl rfl (by first | exact ((if_pos h1).symm.trans hc.symm) | exact ((if_neg h1).symm.trans hc.symm)) (rfl)
  · refine e_4 rfl rfl ?_
    refine e_gr rfl hr.1 rfl hr.2.2 ?_
    refine e_2 rfl rfl ?_
    refine e_48q (i := i) rfl hr.2.1 (by first | rfl | (simp only [← nI_add, ← pk_mul]; rfl) | (simp only [nI_add, pk_mul, nI_1]; done)) (by omega) (by decide) ?_
    refine e_42 rfl ?_
    exact e_ri rfl rfl (by first | exact ((if_pos h1).symm.trans hc.symm) | exact ((if_neg h1).symm.trans hc.symm)) (rfl)
theorem kr_dig_loop (hr : isRo μ r) (hz : szP (ps_i μ r 0) 40) (h0 h : Int64) : ∀ (n i : Nat), i + n = (ps_i μ r 0).toNatClampNeg → ps_To (ps_XX L xs) (ps_Ev (ps_XX L xs) (d + 2)) j_X4_digestOn (ps_rt j_X4_digestOn (some (.long (dgF (ps_i μ (r + 1)) (ps_i μ r 0).toNatClampNeg h))) μ) (15, [(5, .int (nI i)), (3, .long (dgF (ps_i μ (r + 1)) i h)), (0, .ref (r)), (1, .long (h0))], [], μ) := by
  intro n
  induction n with
  | zero =>
    intro i hi
    have hb := sz_bd (by omega) hz
    refine e_2 rfl rfl ?_
    refine e_4 rfl rfl ?_
    refine e_gi rfl hr.1 rfl (by decide) ?_
    refine e_39 rfl (fun h1 => ?_) (fun h1 => ?_)
    · refine e_3 rfl rfl ?_
      exact e_rl rfl (by rw [show i = (ps_i μ r 0).toNatClampNeg by omega]) (rfl)
    · exact absurd ((sz_le (by omega) hz (by omega)).mpr (by omega)) h1
  | succ n ih =>
    intro i hi
    have hb := sz_bd (by omega) hz
    refine e_2 rfl rfl ?_
    refine e_4 rfl rfl ?_
    refine e_gi rfl hr.1 rfl (by decide) ?_
    refine e_39 rfl (fun h1 => ?_) (fun h1 => ?_)
    · exact absurd ((sz_le (by omega) hz (by omega)).mp h1) (by omega)
    · refine e_1 rfl ?_
      refine e_3 rfl rfl ?_
      refine e_21 rfl ?_
      refine e_4 rfl rfl ?_
      refine e_2 rfl rfl ?_
      refine e_v1 rfl (by exact hr.1) rfl (by decide) rfl (Nat.le_of_ble_eq_true rfl) (kr_valueAt hr (i := i) (by omega) (if_pos ⟨nI_pos (by omega), fun z => absurd ((sz_le (by omega) hz (by omega)).mp z) (by omega)⟩).symm) ?_
      refine e_25 rfl ?_
      refine e_19 rfl ?_
      refine e_6 rfl rfl ?_
      refine e_8 rfl rfl rfl ?_
      refine e_42 rfl ?_
      refine e_lv [0, 1, 2, 3] rfl rfl ?_
      show ps_To _ _ _ _ (15, [(5, .int _), (3, .long _), (0, .ref _), (1, .long _)], [], _)
      rw [nI_1]
      exact ih (i + 1) (by omega)
theorem kr_digestOn (hr : isRo μ r) (hz : szP (ps_i μ r 0) 40) (h : Int64) : ps_Ev (ps_XX L xs) (d + 3) j_X4_digestOn [.ref r, .long h] μ (some (.long (dgF (ps_i μ (r + 1)) (ps_i μ r 0).toNatClampNeg (31 * h + (ps_i μ r 0).toInt64)))) μ := by
  refine ⟨Nat.le_of_ble_eq_true rfl, ?_⟩
  refine e_1 rfl ?_
  refine e_3 rfl rfl ?_
  refine e_21 rfl ?_
  refine e_4 rfl rfl ?_
  refine e_gi rfl hr.1 rfl (by decide) ?_
  refine e_25 rfl ?_
  refine e_19 rfl ?_
  refine e_6 rfl rfl ?_
  refine e_0 rfl ?_
  refine e_5 rfl rfl ?_
  refine e_lv [0, 1, 2, 3] rfl rfl ?_
  exact kr_dig_loop hr hz h _ _ 0 (Nat.zero_add _)
-- isTx
theorem kt_isMissing (hr : isTx μ r) : ps_Ev (ps_XX L xs) (d + 1) j_X4_isMissing [.ref r] μ (some (.int (b2i (¬ 0 ≤ ps_i μ r 0)))) μ := by
  refine ⟨Nat.le_of_ble_eq_true rfl, ?_⟩
  refine e_4 rfl rfl ?_
  refine e_gi rfl hr.1 rfl (by decide) ?_
  refine e_33 rfl (fun h1 => ?_) (fun h1 => ?_)
  · refine e_0 rfl ?_
    exact e_rz rfl rfl (by first | decide | exact b2i_01 | assumption) (by first | rfl | (simp only [eq_true h1, if_true, if_true, if_false, ite_true, ite_false, not_true_eq_false, not_false_eq_true, and_true, true_and, and_false, false_and, or_true, true_or, or_false, false_or, Classical.not_not, b2i, reduceIte]; done) | grind [b2i]) (rfl)
  · refine e_0 rfl ?_
    refine e_42 rfl ?_
    exact e_rz rfl rfl (by first | decide | exact b2i_01 | assumption) (by first | rfl | (simp only [eq_false h1, if_true, if_true, if_false, ite_true, ite_false, not_true_eq_false, not_false_eq_true, and_true, true_and, and_false, false_and, or_true, true_or, or_false, false_or, Classical.not_not, b2i, reduceIte]; done) | grind [b2i]) (rfl)
theorem kt_has (hr : isTx μ r) (i : Int32) : ps_Ev (ps_XX L xs) (d + 1) j_X4_has [.ref r, .int i] μ (some (.int (b2i (¬ i < 0 ∧ ¬ ps_i μ r 0 ≤ i)))) μ := by
  refine ⟨Nat.le_of_ble_eq_true rfl, ?_⟩
  refine e_2 rfl rfl ?_
  refine e_32 rfl (fun h1 => ?_) (fun h1 => ?_)
  · refine e_0 rfl ?_
    exact e_rz rfl rfl (by first | decide | exact b2i_01 | assumption) (by first | rfl | (simp only [eq_true h1, if_true, if_true, if_false, ite_true, ite_false, not_true_eq_false, not_false_eq_true, and_true, true_and, and_false, false_and, or_true, true_or, or_false, false_or, Classical.not_not, b2i, reduceIte]; done) | grind [b2i]) (rfl)
  · refine e_2 rfl rfl ?_
    refine e_4 rfl rfl ?_
    refine e_gi rfl hr.1 rfl (by decide) ?_
    refine e_39 rfl (fun h2 => ?_) (fun h2 => ?_)
    · refine e_0 rfl ?_
      exact e_rz rfl rfl (by first | decide | exact b2i_01 | assumption) (by first | rfl | (simp only [eq_false h1, eq_true h2, if_true, if_true, if_false, ite_true, ite_false, not_true_eq_false, not_false_eq_true, and_true, true_and, and_false, false_and, or_true, true_or, or_false, false_or, Classical.not_not, b2i, reduceIte]; done) | grind [b2i]) (rfl)
    · refine e_0 rfl ?_
      refine e_42 rfl ?_
      exact e_rz rfl rfl (by first | decide | exact b2i_01 | assumption) (by first | rfl | (simp only [eq_false h1, eq_false h2, if_true, if_true, if_false, ite_true, ite_false, not_true_eq_false, not_false_eq_true, and_true, true_and, and_false, false_and, or_true, true_or, or_false, false_or, Classical.not_not, b2i, reduceIte]; done) | grind [b2i]) (rfl)
theorem kt_findingAt (hr : isTx μ r) (i : Int32) : ps_Ev (ps_XX L xs) (d + 2) j_X4_findingAt [.ref r, .int i] μ (some (.int (if ¬ 0 ≤ ps_i μ r 0 then 1 else if ¬ i < 0 ∧ ¬ ps_i μ r 0 ≤ i then 0 else 2))) μ := by
  refine ⟨Nat.le_of_ble_eq_true rfl, ?_⟩
  refine e_4 rfl rfl ?_
  refine e_v0 rfl (by exact hr.1) rfl (by decide) rfl (Nat.le_of_ble_eq_true rfl) (kt_isMissing hr) ?_
  refine e_30b rfl (fun h1 => ?_) (fun h1 => ?_)
  · refine e_4 rfl rfl ?_
    refine e_2 rfl rfl ?_
    refine e_v1 rfl (by exact hr.1) rfl (by decide) rfl (Nat.le_of_ble_eq_true rfl) (kt_has hr i) ?_
    refine e_30b rfl (fun h2 => ?_) (fun h2 => ?_)
    · refine e_0 rfl ?_
      exact e_ri rfl rfl (by first | (simp only [eq_false h1, eq_false h2, if_true, if_true, if_false, not_true_eq_false, not_false_eq_true, and_true, true_and, and_false, false_and, or_true, true_or, or_false, false_or, reduceIte]; done) | (simp only [eq_false h1, eq_false h2, if_true, if_true, if_false, not_true_eq_false, not_false_eq_true, and_true, true_and, and_false, false_and, or_true, true_or, or_false, false_or, reduceIte]; rfl) | rfl) (rfl)
    · refine e_0 rfl ?_
      refine e_42 rfl ?_
      exact e_ri rfl rfl (by first | (simp only [eq_false h1, eq_true h2, if_true, if_true, if_false, not_true_eq_false, not_false_eq_true, and_true, true_and, and_false, false_and, or_true, true_or, or_false, false_or, reduceIte]; done) | (simp only [eq_false h1, eq_true h2, if_true, if_true, if_false, not_true_eq_false, not_false_eq_true, and_true, true_and, and_false, false_and, or_true, true_or, or_false, false_or, reduceIte]; rfl) | rfl) (rfl)
  · refine e_0 rfl ?_
    exact e_ri rfl rfl (by first | (simp only [eq_true h1, if_true, if_true, if_false, not_true_eq_false, not_false_eq_true, and_true, true_and, and_false, false_and, or_true, true_or, or_false, false_or, reduceIte]; done) | (simp only [eq_true h1, if_true, if_true, if_false, not_true_eq_false, not_false_eq_true, and_true, true_and, and_false, false_and, or_true, true_or, or_false, false_or, reduceIte]; rfl) | rfl) (rfl)
theorem kt_valueAt (hr : isTx μ r) {i : Nat} (hi : i < 60) {c : Int32} (hc : c = if ¬ nI i < 0 ∧ ¬ ps_i μ r 0 ≤ nI i then ps_i μ (r + 1) i else 0) : ps_Ev (ps_XX L xs) (d + 2) j_X5_valueAt [.ref r, .int (nI i)] μ (some (.int c)) μ := by
  refine ⟨Nat.le_of_ble_eq_true rfl, ?_⟩
  refine e_4 rfl rfl ?_
  refine e_2 rfl rfl ?_
  refine e_v1 rfl (by exact hr.1) rfl (by decide) rfl (Nat.le_of_ble_eq_true rfl) (kt_has hr _) ?_
  refine e_30b rfl (fun h1 => ?_) (fun h1 => ?_)
  · refine e_0 rfl ?_
    exact e_ri rfl rfl (by first | exact ((if_pos h1).symm.trans hc.symm) | exact ((if_neg h1).symm.trans hc.symm)) (rfl)
  · refine e_4 rfl rfl ?_
    refine e_gr rfl hr.1 rfl hr.2.2 ?_
    refine e_2 rfl rfl ?_
    refine e_50q (i := i) rfl hr.2.1 (by first | rfl | (simp only [← nI_add, ← pk_mul]; rfl) | (simp only [nI_add, pk_mul, nI_1]; done)) (by omega) (by decide) ?_
    refine e_42 rfl ?_
    exact e_ri rfl rfl (by first | exact ((if_pos h1).symm.trans hc.symm) | exact ((if_neg h1).symm.trans hc.symm)) (rfl)
theorem kt_dig_loop (hr : isTx μ r) (hz : szP (ps_i μ r 0) 60) (h0 h : Int64) : ∀ (n i : Nat), i + n = (ps_i μ r 0).toNatClampNeg → ps_To (ps_XX L xs) (ps_Ev (ps_XX L xs) (d + 2)) j_X4_digestOn (ps_rt j_X4_digestOn (some (.long (dgF (ps_i μ (r + 1)) (ps_i μ r 0).toNatClampNeg h))) μ) (15, [(5, .int (nI i)), (3, .long (dgF (ps_i μ (r + 1)) i h)), (0, .ref (r)), (1, .long (h0))], [], μ) := by
  intro n
  induction n with
  | zero =>
    intro i hi
    have hb := sz_bd (by omega) hz
    refine e_2 rfl rfl ?_
    refine e_4 rfl rfl ?_
    refine e_gi rfl hr.1 rfl (by decide) ?_
    refine e_39 rfl (fun h1 => ?_) (fun h1 => ?_)
    · refine e_3 rfl rfl ?_
      exact e_rl rfl (by rw [show i = (ps_i μ r 0).toNatClampNeg by omega]) (rfl)
    · exact absurd ((sz_le (by omega) hz (by omega)).mpr (by omega)) h1
  | succ n ih =>
    intro i hi
    have hb := sz_bd (by omega) hz
    refine e_2 rfl rfl ?_
    refine e_4 rfl rfl ?_
    refine e_gi rfl hr.1 rfl (by decide) ?_
    refine e_39 rfl (fun h1 => ?_) (fun h1 => ?_)
    · exact absurd ((sz_le (by omega) hz (by omega)).mp h1) (by omega)
    · refine e_1 rfl ?_
      refine e_3 rfl rfl ?_
      refine e_21 rfl ?_
      refine e_4 rfl rfl ?_
      refine e_2 rfl rfl ?_
      refine e_v1 rfl (by exact hr.1) rfl (by decide) rfl (Nat.le_of_ble_eq_true rfl) (kt_valueAt hr (i := i) (by omega) (if_pos ⟨nI_pos (by omega), fun z => absurd ((sz_le (by omega) hz (by omega)).mp z) (by omega)⟩).symm) ?_
      refine e_25 rfl ?_
      refine e_19 rfl ?_
      refine e_6 rfl rfl ?_
      refine e_8 rfl rfl rfl ?_
      refine e_42 rfl ?_
      refine e_lv [0, 1, 2, 3] rfl rfl ?_
      show ps_To _ _ _ _ (15, [(5, .int _), (3, .long _), (0, .ref _), (1, .long _)], [], _)
      rw [nI_1]
      exact ih (i + 1) (by omega)
theorem kt_digestOn (hr : isTx μ r) (hz : szP (ps_i μ r 0) 60) (h : Int64) : ps_Ev (ps_XX L xs) (d + 3) j_X4_digestOn [.ref r, .long h] μ (some (.long (dgF (ps_i μ (r + 1)) (ps_i μ r 0).toNatClampNeg (31 * h + (ps_i μ r 0).toInt64)))) μ := by
  refine ⟨Nat.le_of_ble_eq_true rfl, ?_⟩
  refine e_1 rfl ?_
  refine e_3 rfl rfl ?_
  refine e_21 rfl ?_
  refine e_4 rfl rfl ?_
  refine e_gi rfl hr.1 rfl (by decide) ?_
  refine e_25 rfl ?_
  refine e_19 rfl ?_
  refine e_6 rfl rfl ?_
  refine e_0 rfl ?_
  refine e_5 rfl rfl ?_
  refine e_lv [0, 1, 2, 3] rfl rfl ?_
  exact kt_dig_loop hr hz h _ _ 0 (Nat.zero_add _)
end KRO
