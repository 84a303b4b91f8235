-- ===== the class: rows, texts, findings =====
theorem mm_cut {N M : Nat} (h : N ≤ M) (hM : M ≤ 60) {y : Int32} (hy : y = nI M) : (if 0 < (if y < nI N then y else nI N) then (if y < nI N then y else nI N) else 0) = nI N := by
  subst hy
  rw [if_neg (nI_nlt h (by omega))]
  split
  · rfl
  · rename_i z
    rcases (show N = 0 ∨ 0 < N by omega) with rfl | h0
    · rfl
    · exact absurd (nI_lt (a := 0) h0 (by omega)) z
def RN (μ : ps_M) (r N : Nat) (v : Int32) : ps_M := FL (ps_sI μ r 0 (nI N)) (r + 1) N v
def TK (μ : ps_M) (r N : Nat) (f : Nat → Int32) : ps_M := ps_wI μ (fun a i => if a = r + 1 ∧ i < N then f i else if a = r ∧ i = 0 then nI N else ps_i μ a i)
theorem TK_eq {μ : ps_M} {r N k : Nat} (h : k ≠ r ∧ k ≠ r + 1) : ps_cp (RN μ r N 0) k 0 (r + 1) 0 N = TK μ r N (ps_i μ k) := by
  refine ps_M_ext rfl rfl rfl ?_ rfl rfl
  funext a i
  have e : ps_i (RN μ r N 0) k = ps_i μ k := by
    funext x
    show (if k = r + 1 ∧ x < N then 0 else ps_up (ps_i μ) r 0 (nI N) k x) = ps_i μ k x
    unfold ps_up
    rw [if_neg (by omega), if_neg (by omega)]
  show (if a = r + 1 then va_cpy (ps_i (RN μ r N 0) k) (ps_i (RN μ r N 0) (r + 1)) 0 0 N i else ps_i (RN μ r N 0) a i) = (if a = r + 1 ∧ i < N then ps_i μ k i else if a = r ∧ i = 0 then nI N else ps_i μ a i)
  rw [e]
  have e2 : ∀ a x, ps_i (RN μ r N 0) a x = (if a = r + 1 ∧ x < N then 0 else if a = r ∧ x = 0 then nI N else ps_i μ a x) := fun a x => rfl
  rw [e2]
  unfold va_cpy
  by_cases h1 : a = r + 1
  · subst h1
    rw [if_pos rfl]
    by_cases h2 : i < N
    · rw [if_pos (by omega), if_pos ⟨rfl, h2⟩, show 0 + (i - 0) = i by omega]
    · rw [if_neg (by omega), if_neg (by omega), if_neg (by omega), e2, if_neg (by omega), if_neg (by omega)]
  · rw [if_neg h1, if_neg (fun z => h1 z.1)]
    by_cases h2 : a = r ∧ i = 0
    · rw [if_pos h2, if_neg (fun z => h1 z.1)]
    · rw [if_neg h2, if_neg (fun z => h1 z.1)]
theorem act_eq {r : Int32} : (¬ r < 0 ∧ ¬ 10 ≤ r) ↔ actP r := by
  unfold actP
  rw [Int32.lt_iff_toInt_lt, Int32.le_iff_toInt_le, Int32.le_iff_toInt_le, Int32.le_iff_toInt_le]
  have e1 : (0 : Int32).toInt = 0 := rfl
  have e2 : (10 : Int32).toInt = 10 := rfl
  have e3 : (9 : Int32).toInt = 9 := rfl
  omega
theorem row_eq {r : Int32} : (¬ r < 0 ∧ ¬ 6 ≤ r) ↔ rowP r := by
  unfold rowP
  rw [Int32.lt_iff_toInt_lt, Int32.le_iff_toInt_le, Int32.le_iff_toInt_le, Int32.le_iff_toInt_le]
  have e1 : (0 : Int32).toInt = 0 := rfl
  have e2 : (6 : Int32).toInt = 6 := rfl
  have e3 : (5 : Int32).toInt = 5 := rfl
  omega
theorem text_eq {r : Int32} : (¬ r < 0 ∧ ¬ 4 ≤ r) ↔ textP r := by
  unfold textP
  rw [Int32.lt_iff_toInt_lt, Int32.le_iff_toInt_le, Int32.le_iff_toInt_le, Int32.le_iff_toInt_le]
  have e1 : (0 : Int32).toInt = 0 := rfl
  have e2 : (4 : Int32).toInt = 4 := rfl
  have e3 : (3 : Int32).toInt = 3 := rfl
  omega
abbrev keptP (r : Int32) : Prop := 0 ≤ r ∧ r ≤ 2
theorem kept_eq {r : Int32} : (¬ r < 0 ∧ ¬ 3 ≤ r) ↔ keptP r := by
  unfold keptP
  rw [Int32.lt_iff_toInt_lt, Int32.le_iff_toInt_le, Int32.le_iff_toInt_le, Int32.le_iff_toInt_le]
  have e1 : (0 : Int32).toInt = 0 := rfl
  have e2 : (3 : Int32).toInt = 3 := rfl
  have e3 : (2 : Int32).toInt = 2 := rfl
  omega
theorem acts_no {p : Nat → Int32} {i : Nat} (h : ¬ actP (p i)) : ∀ S, i < S → ¬ actsB p S = true
  | 0, hi => absurd hi (by omega)
  | S + 1, hi => fun z => by
    have z := (actsB_s p S).mp z
    rcases (show i = S ∨ i < S by omega) with rfl | h2
    · exact h z.2
    · exact acts_no h S h2 z.1
theorem run_span {i n z : Int32} {S : Nat} (hz : z = nI S) (hS : S ≤ 40) (hn : ¬ n < 0) : (¬ i < 0 ∧ ¬ n < 0 ∧ ¬ z < i ∧ ¬ z - i < n) ↔ spanP i n z := by
  subst hz
  unfold spanP
  by_cases hi : ¬ i < 0 ∧ ¬ nI S < i
  · obtain ⟨j, hj, rfl⟩ := nI_of hi.1
    have hjS : j ≤ S := by
      refine Classical.byContradiction fun q => hi.2 (nI_lt (by omega) hj)
    rw [pk_sub hjS]
    rw [Int32.lt_iff_toInt_lt (y := n), nI_toInt (by omega), nI_toInt (by omega), nI_toInt (by omega)]
    have h1 := nI_pos (n := j) hj
    have h2 := hi.2
    constructor
    · intro z; omega
    · intro z; exact ⟨h1, hn, h2, by omega⟩
  · rw [Int32.lt_iff_toInt_lt, Int32.lt_iff_toInt_lt, nI_toInt (by omega)] at hi
    rw [Int32.lt_iff_toInt_lt] at hn
    rw [Int32.lt_iff_toInt_lt, Int32.lt_iff_toInt_lt (y := i), nI_toInt (by omega)]
    have e1 : (0 : Int32).toInt = 0 := rfl
    constructor
    · intro z; omega
    · intro z; omega
/-- a finding told by the class -/
def FC (μ : ps_M) (f : Nat) : ps_M := ps_sI (ps_sI μ 0 10 (nI f)) 44 f (ps_i μ 44 f + 1)
section KRP
variable {L : Nat} {xs : Nat → Int32} {d : Nat} {μ : ps_M} {r : Nat}
theorem k_isAct (a : Int32) : ps_Ev (ps_XX L xs) (d + 1) j_X7_isAct [.int a] μ (some (.int (b2i (actP a)))) μ := by
  rw [← b2i_c act_eq]; exact sp_isAct a
theorem k_isRow (a : Int32) : ps_Ev (ps_XX L xs) (d + 1) j_X7_isRow [.int a] μ (some (.int (b2i (rowP a)))) μ := by
  rw [← b2i_c row_eq]; exact sp_isRow a
theorem k_isText (a : Int32) : ps_Ev (ps_XX L xs) (d + 1) j_X7_isText [.int a] μ (some (.int (b2i (textP a)))) μ := by
  rw [← b2i_c text_eq]; exact sp_isText a
theorem k_isKept (a : Int32) : ps_Ev (ps_XX L xs) (d + 1) j_X7_isKept [.int a] μ (some (.int (b2i (keptP a)))) μ := by
  rw [← b2i_c kept_eq]; exact sp_isKept a
theorem k_range {N M : Nat} (h : N ≤ M) (hM : M ≤ 60) : ps_Ev (ps_XX L xs) (d + 1) j_J7_rangeCheck_23922 [.int (nI M), .int 0, .int (nI N)] μ none μ := by
  refine ⟨Nat.le_of_ble_eq_true rfl, ?_⟩
  refine e_2 rfl rfl ?_
  refine e_2 rfl rfl ?_
  refine e_41 rfl (fun h1 => ?_) (fun h1 => ?_)
  · refine e_2 rfl rfl ?_
    refine e_33 rfl (fun h2 => ?_) (fun h2 => ?_)
    · refine e_2 rfl rfl ?_
      refine e_2 rfl rfl ?_
      refine e_41 rfl (fun h3 => ?_) (fun h3 => ?_)
      · exact e_rv rfl (rfl)
      · exact absurd (nI_le h (by omega)) h3
    · exact absurd (by decide) h2
  · exact absurd (nI_pos' (by omega)) h1
theorem k_filli_loop {k M : Nat} (hk : ps_s μ k = (10, M)) (hM : M ≤ 60) (v : Int32) {N : Nat} (hN : N ≤ M) : ∀ (n i : Nat), i + n = N → ps_To (ps_XX L xs) (ps_Ev (ps_XX L xs) (d + 1)) j_J7_fill_fda19 (ps_rt j_J7_fill_fda19 none (FL μ k N v)) (10, [(4, .int (nI i)), (0, .ref (k)), (1, .int (0)), (2, .int (nI N)), (3, .int (v))], [], FL μ k i v) := by
  intro n
  induction n with
  | zero =>
    intro i hi
    obtain rfl : i = N := by omega
    refine e_2 rfl rfl ?_
    refine e_2 rfl rfl ?_
    refine e_39 rfl (fun h1 => ?_) (fun h1 => ?_)
    · exact e_rv rfl (rfl)
    · exact absurd (nI_le (Nat.le_refl _) (by omega)) h1
  | succ n ih =>
    intro i hi
    refine e_2 rfl rfl ?_
    refine e_2 rfl rfl ?_
    refine e_39 rfl (fun h1 => ?_) (fun h1 => ?_)
    · exact absurd h1 (nI_ge (by omega) (by omega))
    · refine e_4 rfl rfl ?_
      refine e_2 rfl rfl ?_
      refine e_2 rfl rfl ?_
      refine e_49q (i := i) rfl hk (by first | rfl | (simp only [← nI_add, ← pk_mul]; rfl) | (simp only [nI_add, pk_mul, nI_1]; done)) (by omega) (by omega) ?_
      refine e_8 rfl rfl rfl ?_
      refine e_42 rfl ?_
      refine e_lv [0, 1, 2, 3, 4] rfl rfl ?_
      show ps_To _ _ _ _ (10, [(4, .int _), (0, .ref _), (1, .int _), (2, .int _), (3, .int _)], [], _)
      rw [FL_s, nI_1]
      exact ih (i + 1) (by omega)
theorem k_filli {k M : Nat} (hk : ps_s μ k = (10, M)) (hM : M ≤ 60) (v : Int32) {N : Nat} (hN : N ≤ M) : ps_Ev (ps_XX L xs) (d + 2) j_J7_fill_fda19 [.ref k, .int 0, .int (nI N), .int v] μ none (FL μ k N v) := by
  refine ⟨Nat.le_of_ble_eq_true rfl, ?_⟩
  refine e_4 rfl rfl ?_
  refine e_54 rfl hk (by decide) (by decide) ?_
  refine e_2 rfl rfl ?_
  refine e_2 rfl rfl ?_
  refine e_s3v rfl rfl rfl (Nat.le_of_ble_eq_true rfl) (k_range hN hM) ?_
  refine e_2 rfl rfl ?_
  refine e_5 rfl rfl ?_
  have h := k_filli_loop (L := L) (xs := xs) (d := d) hk hM v hN N 0 (by omega)
  rw [FL_0] at h
  exact h
theorem k_fillb_loop {k M : Nat} (hk : ps_s μ k = (11, M)) (hM : M ≤ 60) {N : Nat} (hN : N ≤ M) : ∀ (n i : Nat), i + n = N → ps_To (ps_XX L xs) (ps_Ev (ps_XX L xs) (d + 1)) j_J7_fill_eb02e (ps_rt j_J7_fill_eb02e none (FL μ k N 32)) (10, [(4, .int (nI i)), (0, .ref (k)), (1, .int (0)), (2, .int (nI N)), (3, .int (32))], [], FL μ k i 32) := by
  intro n
  induction n with
  | zero =>
    intro i hi
    obtain rfl : i = N := by omega
    refine e_2 rfl rfl ?_
    refine e_2 rfl rfl ?_
    refine e_39 rfl (fun h1 => ?_) (fun h1 => ?_)
    · exact e_rv rfl (rfl)
    · exact absurd (nI_le (Nat.le_refl _) (by omega)) h1
  | succ n ih =>
    intro i hi
    refine e_2 rfl rfl ?_
    refine e_2 rfl rfl ?_
    refine e_39 rfl (fun h1 => ?_) (fun h1 => ?_)
    · exact absurd h1 (nI_ge (by omega) (by omega))
    · refine e_4 rfl rfl ?_
      refine e_2 rfl rfl ?_
      refine e_2 rfl rfl ?_
      refine e_51q (i := i) rfl hk (by first | rfl | (simp only [← nI_add, ← pk_mul]; rfl) | (simp only [nI_add, pk_mul, nI_1]; done)) (by omega) (by omega) ?_
      refine e_8 rfl rfl rfl ?_
      refine e_42 rfl ?_
      refine e_lv [0, 1, 2, 3, 4] rfl rfl ?_
      show ps_To _ _ _ _ (10, [(4, .int _), (0, .ref _), (1, .int _), (2, .int _), (3, .int _)], [], _)
      rw [show vp_nar .byte 32 = 32 from (vp_nar_byte 32).trans (by decide)]
      rw [FL_s, nI_1]
      exact ih (i + 1) (by omega)
theorem k_fillb {k M : Nat} (hk : ps_s μ k = (11, M)) (hM : M ≤ 60) {N : Nat} (hN : N ≤ M) : ps_Ev (ps_XX L xs) (d + 2) j_J7_fill_eb02e [.ref k, .int 0, .int (nI N), .int 32] μ none (FL μ k N 32) := by
  refine ⟨Nat.le_of_ble_eq_true rfl, ?_⟩
  refine e_4 rfl rfl ?_
  refine e_54 rfl hk (by decide) (by decide) ?_
  refine e_2 rfl rfl ?_
  refine e_2 rfl rfl ?_
  refine e_s3v rfl rfl rfl (Nat.le_of_ble_eq_true rfl) (k_range hN hM) ?_
  refine e_2 rfl rfl ?_
  refine e_5 rfl rfl ?_
  have h := k_fillb_loop (L := L) (xs := xs) (d := d) hk hM hN N 0 (by omega)
  rw [FL_0] at h
  exact h
theorem kr_renew (hr : isRo μ r) {N : Nat} (h : N ≤ 40) : ps_Ev (ps_XX L xs) (d + 3) j_X1_renew [.ref r, .int (nI N)] μ none (RN μ r N 0) := by
  refine ⟨Nat.le_of_ble_eq_true rfl, ?_⟩
  refine e_4 rfl rfl ?_
  refine e_0 rfl ?_
  refine e_2 rfl rfl ?_
  refine e_0 rfl ?_
  refine e_67 rfl (Nat.le_of_ble_eq_true rfl) ?_
  refine e_66 rfl (Nat.le_of_ble_eq_true rfl) ?_
  rw [mm_cut (M := 40) (y := 40) h (by omega) rfl]
  refine e_pi rfl hr.1 rfl (Or.inl rfl) ?_
  refine e_4 rfl rfl ?_
  refine e_gr rfl hr.1 rfl hr.2.2 ?_
  refine e_0 rfl ?_
  refine e_4 rfl rfl ?_
  refine e_gi rfl hr.1 rfl (by decide) ?_
  rw [sI_at]
  refine e_0 rfl ?_
  refine e_s4v rfl rfl rfl (Nat.le_of_ble_eq_true rfl) (k_filli (by exact hr.2.1) (by omega) 0 h) ?_
  exact e_rv rfl (rfl)
theorem kt_renew (hr : isTx μ r) {N : Nat} (h : N ≤ 60) : ps_Ev (ps_XX L xs) (d + 3) j_X5_renew [.ref r, .int (nI N)] μ none (RN μ r N 32) := by
  refine ⟨Nat.le_of_ble_eq_true rfl, ?_⟩
  refine e_4 rfl rfl ?_
  refine e_0 rfl ?_
  refine e_2 rfl rfl ?_
  refine e_0 rfl ?_
  refine e_67 rfl (Nat.le_of_ble_eq_true rfl) ?_
  refine e_66 rfl (Nat.le_of_ble_eq_true rfl) ?_
  rw [mm_cut (M := 60) (y := 60) h (by omega) rfl]
  refine e_pi rfl hr.1 rfl (Or.inl rfl) ?_
  refine e_4 rfl rfl ?_
  refine e_gr rfl hr.1 rfl hr.2.2 ?_
  refine e_0 rfl ?_
  refine e_4 rfl rfl ?_
  refine e_gi rfl hr.1 rfl (by decide) ?_
  rw [sI_at]
  refine e_0 rfl ?_
  refine e_s4v rfl rfl rfl (Nat.le_of_ble_eq_true rfl) (k_fillb (by exact hr.2.1) (by omega) h) ?_
  exact e_rv rfl (rfl)
theorem kr_take (hr : isRo μ r) {k M N : Nat} (hk : ps_s μ k = (10, M)) (hM : M ≤ 40) (hN : N ≤ M) (hne : k ≠ r ∧ k ≠ r + 1) : ps_Ev (ps_XX L xs) (d + 4) j_X1_take [.ref r, .ref k, .int (nI N)] μ none (TK μ r N (ps_i μ k)) := by
  refine ⟨Nat.le_of_ble_eq_true rfl, ?_⟩
  refine e_4 rfl rfl ?_
  refine e_2 rfl rfl ?_
  refine e_4 rfl rfl ?_
  refine e_54 rfl (by first | exact hr.1 | exact hk | exact hr.2.1) (by decide) (by decide) ?_
  refine e_67 rfl (Nat.le_of_ble_eq_true rfl) ?_
  rw [show (if Int32.ofNat M < nI N then Int32.ofNat M else nI N) = nI N from if_neg (nI_nlt (a := M) hN (by omega))]
  refine e_v1v rfl (by first | exact hr.1 | exact hk | exact hr.2.1) rfl (by decide) rfl (Nat.le_of_ble_eq_true rfl) (kr_renew hr (by omega)) ?_
  refine e_4 rfl rfl ?_
  refine e_0 rfl ?_
  refine e_4 rfl rfl ?_
  refine e_gr rfl hr.1 rfl hr.2.2 ?_
  refine e_0 rfl ?_
  refine e_4 rfl rfl ?_
  refine e_gi rfl hr.1 rfl (by decide) ?_
  rw [show ps_i (RN μ r N 0) r 0 = nI N from (if_neg (by omega)).trans sI_at]
  refine e_62 rfl (by first | exact hr.1 | exact hk | exact hr.2.1) (by first | exact hr.1 | exact hk | exact hr.2.1) (by decide) (by decide) (nI_pos (by omega)) (by rw [nI_clamp (by omega)]; show 0 + N ≤ M; omega) (by rw [nI_clamp (by omega)]; show 0 + N ≤ 40; omega) (Nat.le_of_ble_eq_true rfl) ?_
  exact e_rv rfl (by rw [nI_clamp (by omega)]; exact TK_eq hne)
theorem kr_sum_loop (hr : isRo μ r) {S : Nat} (eS : ps_i μ r 0 = nI S) (hS : S ≤ 40) : ∀ (n i : Nat), i + n = S → ps_To (ps_XX L xs) (ps_Ev (ps_XX L xs) (d + 0)) j_X1_sum (ps_rt j_X1_sum (some (.long (lsum (ps_i μ (r + 1)) S))) μ) (4, [(3, .int (nI i)), (1, .long (lsum (ps_i μ (r + 1)) i)), (0, .ref (r))], [], μ) := by
  intro n
  induction n with
  | zero =>
    intro i hi
    obtain rfl : i = S := by omega
    refine e_2 rfl rfl ?_
    refine e_4 rfl rfl ?_
    refine e_gi rfl hr.1 rfl (by decide) ?_
    rw [eS]
    refine e_39 rfl (fun h1 => ?_) (fun h1 => ?_)
    · refine e_3 rfl rfl ?_
      exact e_rl rfl (by rfl) (rfl)
    · exact absurd (nI_le (Nat.le_refl _) (by omega)) h1
  | succ n ih =>
    intro i hi
    refine e_2 rfl rfl ?_
    refine e_4 rfl rfl ?_
    refine e_gi rfl hr.1 rfl (by decide) ?_
    rw [eS]
    refine e_39 rfl (fun h1 => ?_) (fun h1 => ?_)
    · exact absurd h1 (nI_ge (by omega) (by omega))
    · refine e_3 rfl rfl ?_
      refine e_4 rfl rfl ?_
      refine e_gr rfl hr.1 rfl hr.2.2 ?_
      refine e_2 rfl rfl ?_
      refine e_48q (i := i) rfl hr.2.1 (by first | rfl | (simp only [← nI_add, ← pk_mul]; rfl) | (simp only [nI_add, pk_mul, nI_1]; done)) (by omega) (by decide) ?_
      refine e_25 rfl ?_
      refine e_19 rfl ?_
      refine e_6 rfl rfl ?_
      refine e_8 rfl rfl rfl ?_
      refine e_42 rfl ?_
      refine e_lv [0, 1, 2] rfl rfl ?_
      show ps_To _ _ _ _ (4, [(3, .int _), (1, .long _), (0, .ref _)], [], _)
      rw [nI_1]
      exact ih (i + 1) (by omega)
theorem kr_sum (hr : isRo μ r) {S : Nat} (eS : ps_i μ r 0 = nI S) (hS : S ≤ 40) : ps_Ev (ps_XX L xs) (d + 1) j_X1_sum [.ref r] μ (some (.long (lsum (ps_i μ (r + 1)) S))) μ := by
  refine ⟨Nat.le_of_ble_eq_true rfl, ?_⟩
  refine e_1 rfl ?_
  refine e_6 rfl rfl ?_
  refine e_0 rfl ?_
  refine e_5 rfl rfl ?_
  refine e_lv [0, 1, 2] rfl rfl ?_
  exact kr_sum_loop hr eS hS S 0 (by omega)
theorem kr_acts_loop (hr : isRo μ r) {S : Nat} (eS : ps_i μ r 0 = nI S) (hS : S ≤ 40) : ∀ (n i : Nat), i + n = S → actsB (ps_i μ (r + 1)) i = true → ps_To (ps_XX L xs) (ps_Ev (ps_XX L xs) (d + 1)) j_X1_isOfActs (ps_rt j_X1_isOfActs (some (.int (b2i (actsB (ps_i μ (r + 1)) S = true)))) μ) (2, [(1, .int (nI i)), (0, .ref (r))], [], μ) := by
  intro n
  induction n with
  | zero =>
    intro i hi ha
    obtain rfl : i = S := by omega
    refine e_2 rfl rfl ?_
    refine e_4 rfl rfl ?_
    refine e_gi rfl hr.1 rfl (by decide) ?_
    rw [eS]
    refine e_39 rfl (fun h1 => ?_) (fun h1 => ?_)
    · refine e_0 rfl ?_
      exact e_rz rfl rfl (by decide) (by first | exact (b2i_t ha).symm | exact (b2i_f (acts_no h2 S (by omega))).symm) (rfl)
    · exact absurd (nI_le (Nat.le_refl _) (by omega)) h1
  | succ n ih =>
    intro i hi ha
    refine e_2 rfl rfl ?_
    refine e_4 rfl rfl ?_
    refine e_gi rfl hr.1 rfl (by decide) ?_
    rw [eS]
    refine e_39 rfl (fun h1 => ?_) (fun h1 => ?_)
    · exact absurd h1 (nI_ge (by omega) (by omega))
    · refine e_4 rfl rfl ?_
      refine e_gr rfl hr.1 rfl hr.2.2 ?_
      refine e_2 rfl rfl ?_
      refine e_48q (i := i) rfl hr.2.1 (by first | rfl | (simp only [← nI_add, ← pk_mul]; rfl) | (simp only [nI_add, pk_mul, nI_1]; done)) (by omega) (by decide) ?_
      refine e_s1 rfl rfl rfl (Nat.le_of_ble_eq_true rfl) (k_isAct _) ?_
      refine e_31b rfl (fun h2 => ?_) (fun h2 => ?_)
      · refine e_8 rfl rfl rfl ?_
        refine e_42 rfl ?_
        refine e_lv [0, 1] rfl rfl ?_
        show ps_To _ _ _ _ (2, [(1, .int _), (0, .ref _)], [], _)
        rw [nI_1]
        exact ih (i + 1) (by omega) ((actsB_s _ _).mpr ⟨ha, h2⟩)
      · refine e_0 rfl ?_
        exact e_rz rfl rfl (by decide) (by first | exact (b2i_t ha).symm | exact (b2i_f (acts_no h2 S (by omega))).symm) (rfl)
theorem kr_acts (hr : isRo μ r) {S : Nat} (eS : ps_i μ r 0 = nI S) (hS : S ≤ 40) : ps_Ev (ps_XX L xs) (d + 2) j_X1_isOfActs [.ref r] μ (some (.int (b2i (actsB (ps_i μ (r + 1)) S = true)))) μ := by
  refine ⟨Nat.le_of_ble_eq_true rfl, ?_⟩
  refine e_0 rfl ?_
  refine e_5 rfl rfl ?_
  exact kr_acts_loop hr eS hS S 0 (by omega) rfl
theorem kr_hasRun0 (hr : isRo μ r) (i n : Int32) : ps_Ev (ps_XX L xs) (d + 1) j_X1_hasRun [.ref r, .int i, .int n] μ (some (.int (b2i (¬ i < 0 ∧ ¬ n < 0 ∧ ¬ ps_i μ r 0 < i ∧ ¬ ps_i μ r 0 - i < n)))) μ := by
  refine ⟨Nat.le_of_ble_eq_true rfl, ?_⟩
  refine e_2 rfl rfl ?_
  refine e_32 rfl (fun h1 => ?_) (fun h1 => ?_)
  · refine e_0 rfl ?_
    exact e_rz rfl rfl (by first | decide | exact b2i_01 | assumption) (by first | rfl | (simp only [eq_true h1, if_true, if_true, if_false, ite_true, ite_false, not_true_eq_false, not_false_eq_true, and_true, true_and, and_false, false_and, or_true, true_or, or_false, false_or, Classical.not_not, b2i, reduceIte]; done) | grind [b2i]) (rfl)
  · refine e_2 rfl rfl ?_
    refine e_32 rfl (fun h2 => ?_) (fun h2 => ?_)
    · refine e_0 rfl ?_
      exact e_rz rfl rfl (by first | decide | exact b2i_01 | assumption) (by first | rfl | (simp only [eq_false h1, eq_true h2, if_true, if_true, if_false, ite_true, ite_false, not_true_eq_false, not_false_eq_true, and_true, true_and, and_false, false_and, or_true, true_or, or_false, false_or, Classical.not_not, b2i, reduceIte]; done) | grind [b2i]) (rfl)
    · refine e_2 rfl rfl ?_
      refine e_4 rfl rfl ?_
      refine e_gi rfl hr.1 rfl (by decide) ?_
      refine e_40 rfl (fun h3 => ?_) (fun h3 => ?_)
      · refine e_0 rfl ?_
        exact e_rz rfl rfl (by first | decide | exact b2i_01 | assumption) (by first | rfl | (simp only [eq_false h1, eq_false h2, eq_true h3, if_true, if_true, if_false, ite_true, ite_false, not_true_eq_false, not_false_eq_true, and_true, true_and, and_false, false_and, or_true, true_or, or_false, false_or, Classical.not_not, b2i, reduceIte]; done) | grind [b2i]) (rfl)
      · refine e_2 rfl rfl ?_
        refine e_4 rfl rfl ?_
        refine e_gi rfl hr.1 rfl (by decide) ?_
        refine e_2 rfl rfl ?_
        refine e_10 rfl ?_
        refine e_40 rfl (fun h4 => ?_) (fun h4 => ?_)
        · refine e_0 rfl ?_
          exact e_rz rfl rfl (by first | decide | exact b2i_01 | assumption) (by first | rfl | (simp only [eq_false h1, eq_false h2, eq_false h3, eq_true h4, if_true, if_true, if_false, ite_true, ite_false, not_true_eq_false, not_false_eq_true, and_true, true_and, and_false, false_and, or_true, true_or, or_false, false_or, Classical.not_not, b2i, reduceIte]; done) | grind [b2i]) (rfl)
        · refine e_0 rfl ?_
          refine e_42 rfl ?_
          exact e_rz rfl rfl (by first | decide | exact b2i_01 | assumption) (by first | rfl | (simp only [eq_false h1, eq_false h2, eq_false h3, eq_false h4, if_true, if_true, if_false, ite_true, ite_false, not_true_eq_false, not_false_eq_true, and_true, true_and, and_false, false_and, or_true, true_or, or_false, false_or, Classical.not_not, b2i, reduceIte]; done) | grind [b2i]) (rfl)
theorem kr_hasRun (hr : isRo μ r) {S : Nat} (eS : ps_i μ r 0 = nI S) (hS : S ≤ 40) {i n : Int32} (hn : ¬ n < 0) : ps_Ev (ps_XX L xs) (d + 1) j_X1_hasRun [.ref r, .int i, .int n] μ (some (.int (b2i (spanP i n (ps_i μ r 0))))) μ := by
  rw [← b2i_c (run_span eS hS hn)]; exact kr_hasRun0 hr i n
theorem k_find (hp : isPs μ) {f : Nat} (hf1 : 1 ≤ f) (hf5 : f ≤ 5) : evI (ps_XX L xs) (d + 1) j_X7_find [.ref 0, .int (nI f)] μ (-3, FC μ f) := by
  refine ⟨Nat.le_of_ble_eq_true rfl, ?_⟩
  refine e_4 rfl rfl ?_
  refine e_2 rfl rfl ?_
  refine e_pi rfl (p_0 hp) rfl (Or.inl rfl) ?_
  refine e_2 rfl rfl ?_
  refine e_0 rfl ?_
  refine e_38 rfl (fun h1 => ?_) (fun h1 => ?_)
  · exact absurd h1 (nI_nlt (b := 1) hf1 (by omega))
  · refine e_2 rfl rfl ?_
    refine e_0 rfl ?_
    refine e_40 rfl (fun h2 => ?_) (fun h2 => ?_)
    · exact absurd h2 (nI_nlt (a := 5) hf5 (by omega))
    · refine e_4 rfl rfl ?_
      refine e_gr rfl (p_0 hp) rfl (p_f9 hp) ?_
      refine e_2 rfl rfl ?_
      refine e_29 rfl rfl rfl ?_
      refine e_48q (i := f) rfl (p_44 hp) (by first | rfl | (simp only [← nI_add, ← pk_mul]; rfl) | (simp only [nI_add, pk_mul, nI_1]; done)) (by omega) (by decide) ?_
      refine e_0 rfl ?_
      refine e_9 rfl ?_
      refine e_49q (i := f) rfl (p_44 hp) (by first | rfl | (simp only [← nI_add, ← pk_mul]; rfl) | (simp only [nI_add, pk_mul, nI_1]; done)) (by omega) (by decide) ?_
      refine e_0 rfl ?_
      exact e_ri rfl rfl (by rfl) (by rw [sI_off (by omega)]; rfl)
end KRP
