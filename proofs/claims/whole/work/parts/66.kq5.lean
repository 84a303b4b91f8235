-- ===== the class: chances =====
theorem ch_over {g : Nat} {a : Int32} {s : Nat} {σ : Nat → Int32} (h : overF σ) : ∀ n k, chF g a s n k σ = σ
  | 0, _ => rfl
  | _ + 1, _ => if_pos h
theorem ch_st1 {g : Nat} {a : Int32} {s n k : Nat} {σ : Nat → Int32} (hb : bitN s k = 1) : chF g a s (n + 1) k σ = chF g a s n (k + 1) (if overF σ then σ else if ¬ (1 : Int32) = 0 ∧ hasF σ a then restF g (upd σ 6 (if σ 6 < 5 then 5 else σ 6)) a else restF g σ a) := by
  by_cases ho : overF σ
  · rw [ch_over ho, if_pos ho, ch_over ho]
  · rw [if_neg ho]
    show (if overF σ then σ else chF g a s n (k + 1) (restF g (if hasF σ a ∧ bitN s k = 1 then chkS σ else σ) a)) = _
    rw [if_neg ho]
    by_cases hh : hasF σ a
    · rw [if_pos ⟨hh, hb⟩, if_pos ⟨by decide, hh⟩]; rfl
    · rw [if_neg (fun z => hh z.1), if_neg (fun z => hh z.2)]
theorem ch_st0 {g : Nat} {a : Int32} {s n k : Nat} {σ : Nat → Int32} (hb : ¬ bitN s k = 1) : chF g a s (n + 1) k σ = chF g a s n (k + 1) (if overF σ then σ else if ¬ (0 : Int32) = 0 ∧ hasF σ a then restF g (upd σ 6 (if σ 6 < 5 then 5 else σ 6)) a else restF g σ a) := by
  by_cases ho : overF σ
  · rw [ch_over ho, if_pos ho, ch_over ho]
  · rw [if_neg ho]
    show (if overF σ then σ else chF g a s n (k + 1) (restF g (if hasF σ a ∧ bitN s k = 1 then chkS σ else σ) a)) = _
    rw [if_neg ho, if_neg (fun z => hb z.2), if_neg (fun z => z.1 rfl)]
theorem ch_8 {g : Nat} {a c : Int32} {σ : Nat → Int32} : (if overF σ then σ else if ¬ c = 0 ∧ hasF σ a then restF g (upd σ 6 (if σ 6 < 5 then 5 else σ 6)) a else restF g σ a) 8 = σ 8 := by
  split
  · rfl
  · split
    · rw [restF_8, pk_un (by omega)]
    · rw [restF_8]
theorem min_by {w : Int32} {σ : Nat → Int32} (hw : ¬ w = 0) (h0 : ¬ σ 0 < 0) : (if 100 < σ 0 then (100 : Int32) else σ 0) = nI (byF w σ) := by
  by_cases hs : sunkF σ
  · rw [byF_s1 hs hw]
    split
    · rfl
    · rename_i z
      have hs : ¬ σ 0 ≤ 99 := hs
      rw [Int32.le_iff_toInt_le] at hs
      rw [Int32.lt_iff_toInt_lt] at z
      have e1 : (99 : Int32).toInt = 99 := rfl
      have e2 : (100 : Int32).toInt = 100 := rfl
      apply Int32.toInt_inj.mp
      rw [nI_toInt (by omega)]
      omega
  · rw [byF_n1 hs hw, i_clamp h0]
    rw [if_neg]
    intro z
    have hs := Classical.not_not.mp hs
    rw [Int32.le_iff_toInt_le] at hs
    rw [Int32.lt_iff_toInt_lt] at z
    have e1 : (99 : Int32).toInt = 99 := rfl
    have e2 : (100 : Int32).toInt = 100 := rfl
    omega
abbrev chanceP (a n q : Int32) : Prop := (0 ≤ a ∧ a ≤ 9) ∧ (0 ≤ n ∧ n ≤ 8) ∧ (0 ≤ q ∧ q ≤ 12)
theorem chance_eq {a n q : Int32} : ((¬ a < 0 ∧ ¬ 10 ≤ a) ∧ ¬ n < 0 ∧ ¬ 8 < n ∧ ¬ q < 0 ∧ ¬ 12 < q) ↔ chanceP a n q := by
  unfold chanceP
  simp only [Int32.lt_iff_toInt_lt, Int32.le_iff_toInt_le]
  have e0 : (0 : Int32).toInt = 0 := rfl
  have e1 : (10 : Int32).toInt = 10 := rfl
  have e2 : (9 : Int32).toInt = 9 := rfl
  have e3 : (8 : Int32).toInt = 8 := rfl
  have e4 : (12 : Int32).toInt = 12 := rfl
  omega
section KQ5
variable {L : Nat} {xs : Nat → Int32} {d : Nat} {μ : ps_M} {σ0 τ : Nat → Int32} {g : Nat}
theorem k_isChance (a n q : Int32) : ps_Ev (ps_XX L xs) (d + 2) j_X7_isChance [.int a, .int n, .int q] μ (some (.int (b2i (chanceP a n q)))) μ := by
  rw [← b2i_c chance_eq]; exact sp_isChance a n q
theorem k_weigh_in (hp : isPs μ) (hg : g ≤ 6) {a w : Int32} {N p s : Nat} (hN : N ≤ 8) (hpp : p ≤ 12) (hs31 : s < 2 ^ 31) {sm : Int64} {K : ps_F → Prop} {r' : Option Value} {μ' : ps_M} (hK : K = ps_rt j_X7_weigh r' μ') : ∀ (n i : Nat) (σ : Nat → Int32), i + n = N → σ 8 = nI g → ps_To (ps_XX L xs) (ps_Ev (ps_XX L xs) (d + 6)) j_X7_weigh K (90, [(8, .long (lN (wyF p s N))), (7, .int (nI s)), (5, .long (sm)), (0, .ref (0)), (1, .int (a)), (2, .int (nI N)), (3, .int (nI p)), (4, .int (w))], [], SM μ 10 (chF g a s n i σ)) → ps_To (ps_XX L xs) (ps_Ev (ps_XX L xs) (d + 6)) j_X7_weigh K (31, [(10, .int (nI i)), (8, .long (lN (wyF p s i))), (7, .int (nI s)), (5, .long (sm)), (0, .ref (0)), (1, .int (a)), (2, .int (nI N)), (3, .int (nI p)), (4, .int (w))], [], SM μ 10 σ) := by
  subst hK
  intro n
  induction n with
  | zero =>
    intro i σ hi h8 hk
    obtain rfl : i = N := by omega
    refine e_2 rfl rfl ?_
    refine e_2 rfl rfl ?_
    refine e_39 rfl (fun h1 => ?_) (fun h1 => ?_)
    · refine e_lv [1, 2, 3, 4, 5, 6, 7, 8] rfl rfl ?_
      show ps_To _ _ _ _ (90, [(8, .long _), (7, .int _), (5, .long _), (0, .ref _), (1, .int _), (2, .int _), (3, .int _), (4, .int _)], [], _)
      exact hk
    · exact absurd (nI_le (Nat.le_refl _) (by omega)) h1
  | succ n ih =>
    intro i σ hi h8 hk
    refine e_2 rfl rfl ?_
    refine e_2 rfl rfl ?_
    refine e_39 rfl (fun h1 => ?_) (fun h1 => ?_)
    · exact absurd h1 (nI_ge (by omega) (by omega))
    · refine e_2 rfl rfl ?_
      refine e_2 rfl rfl ?_
      refine e_15 rfl ?_
      refine e_0 rfl ?_
      refine e_12 rfl ?_
      rw [b_sh hs31 (by omega)]
      refine e_30 rfl (fun h2 => ?_) (fun h2 => ?_)
      · have hbn : ¬ bitN s i = 1 := fun z => absurd ((congrArg nI z).symm.trans h2) (by decide)
        refine e_0 rfl ?_
        refine e_5 rfl rfl ?_
        refine e_3 rfl rfl ?_
        refine e_2 rfl rfl ?_
        refine e_30 rfl (fun h3 => ?_) (fun h3 => ?_)
        · refine e_0 rfl ?_
          refine e_2 rfl rfl ?_
          refine e_10 rfl ?_
          rw [show (12 : Int32) - nI p = nI (12 - p) from pk_sub (a := 12) hpp]
          refine e_25 rfl ?_
          refine e_21 rfl ?_
          refine e_6 rfl rfl ?_
          refine e_4 rfl rfl ?_
          refine e_gr rfl (p_0 hp) rfl (p_f5 hp) ?_
          refine e_2 rfl rfl ?_
          refine e_2 rfl rfl ?_
          refine e_v2v rfl (by first | exact p_0 hp | exact (p_sh10 hp).1 | exact (p_sh4 hp).1) rfl (by decide) rfl (Nat.le_of_ble_eq_true rfl) (ss_passByChance (p_sh10 hp) hg h8 a _) ?_
          refine e_8 rfl rfl rfl ?_
          refine e_42 rfl ?_
          refine e_lv [0, 1, 3, 4, 5, 6, 7, 8, 9] rfl rfl ?_
          show ps_To _ _ _ _ (31, [(10, .int _), (8, .long _), (7, .int _), (5, .long _), (0, .ref _), (1, .int _), (2, .int _), (3, .int _), (4, .int _)], [], _)
          rw [nI_1]
          rw [show lN (wyF p s i) = lN (wyF p s i) from rfl]
          have h := ih (i + 1) (if overF σ then σ else if ¬ (0 : Int32) = 0 ∧ hasF σ a then restF g (upd σ 6 (if σ 6 < 5 then 5 else σ 6)) a else restF g σ a) (by omega) (ch_8.trans h8)
          rw [show wyF p s (i + 1) = wyF p s i * (12 - p) from congrArg (wyF p s i * ·) (if_neg hbn), ← lN_mul, ← nI_l (n := (12 - p)) (by omega)] at h
          rw [ch_st0 hbn] at hk
          exact h hk
        · exact absurd rfl h3
      · have hby : bitN s i = 1 := (bit_01 s i).resolve_left (fun z => h2 (congrArg nI z))
        refine e_0 rfl ?_
        refine e_42 rfl ?_
        refine e_5 rfl rfl ?_
        refine e_3 rfl rfl ?_
        refine e_2 rfl rfl ?_
        refine e_30 rfl (fun h4 => ?_) (fun h4 => ?_)
        · exact absurd h4 (by decide)
        · refine e_2 rfl rfl ?_
          refine e_25 rfl ?_
          refine e_42 rfl ?_
          refine e_21 rfl ?_
          refine e_6 rfl rfl ?_
          refine e_4 rfl rfl ?_
          refine e_gr rfl (p_0 hp) rfl (p_f5 hp) ?_
          refine e_2 rfl rfl ?_
          refine e_2 rfl rfl ?_
          refine e_v2v rfl (by first | exact p_0 hp | exact (p_sh10 hp).1 | exact (p_sh4 hp).1) rfl (by decide) rfl (Nat.le_of_ble_eq_true rfl) (ss_passByChance (p_sh10 hp) hg h8 a _) ?_
          refine e_8 rfl rfl rfl ?_
          refine e_42 rfl ?_
          refine e_lv [0, 1, 3, 4, 5, 6, 7, 8, 9] rfl rfl ?_
          show ps_To _ _ _ _ (31, [(10, .int _), (8, .long _), (7, .int _), (5, .long _), (0, .ref _), (1, .int _), (2, .int _), (3, .int _), (4, .int _)], [], _)
          rw [nI_1]
          rw [show lN (wyF p s i) = lN (wyF p s i) from rfl]
          have h := ih (i + 1) (if overF σ then σ else if ¬ (1 : Int32) = 0 ∧ hasF σ a then restF g (upd σ 6 (if σ 6 < 5 then 5 else σ 6)) a else restF g σ a) (by omega) (ch_8.trans h8)
          rw [show wyF p s (i + 1) = wyF p s i * p from congrArg (wyF p s i * ·) (if_pos hby), ← lN_mul, ← nI_l (n := p) (by omega)] at h
          rw [ch_st1 hby] at hk
          exact h hk
theorem k_weigh_loop (hp : isPs μ) (e0 : shG (ps_i μ) 4 = σ0) (hI : shI g σ0) {a w : Int32} {N p Q : Nat} (hN : N ≤ 8) (hpp : p ≤ 12) (eQ : Q = 2 ^ N) : ∀ (n i : Nat), i + n = Q → ps_To (ps_XX L xs) (ps_Ev (ps_XX L xs) (d + 6)) j_X7_weigh (ps_rt j_X7_weigh (some (.long (lN (abF g a p N w σ0 Q)))) (SM μ 10 (lastC g a N σ0 τ Q))) (6, [(7, .int (nI i)), (5, .long (lN (abF g a p N w σ0 i))), (0, .ref (0)), (1, .int (a)), (2, .int (nI N)), (3, .int (nI p)), (4, .int (w))], [], SM μ 10 (lastC g a N σ0 τ i)) := by
  intro n
  induction n with
  | zero =>
    intro i hi
    obtain rfl : i = Q := by omega
    have hg := hI.1.1
    have h8 := hI.1.2.1
    have h7 := hI.2.2.1
    have e8 : ps_i μ 4 8 = σ0 8 := by rw [← e0]; rfl
    have hQ := p2_8 hN
    rw [← eQ] at hQ
    refine e_2 rfl rfl ?_
    refine e_0 rfl ?_
    refine e_2 rfl rfl ?_
    refine e_14 rfl ?_
    rw [b_one (by omega), ← eQ]
    refine e_39 rfl (fun h1 => ?_) (fun h1 => ?_)
    · refine e_3 rfl rfl ?_
      exact e_rl rfl (by rfl) (rfl)
    · exact absurd (nI_le (Nat.le_refl _) (by omega)) h1
  | succ n ih =>
    intro i hi
    have hg := hI.1.1
    have h8 := hI.1.2.1
    have h7 := hI.2.2.1
    have e8 : ps_i μ 4 8 = σ0 8 := by rw [← e0]; rfl
    have hQ := p2_8 hN
    rw [← eQ] at hQ
    refine e_2 rfl rfl ?_
    refine e_0 rfl ?_
    refine e_2 rfl rfl ?_
    refine e_14 rfl ?_
    rw [b_one (by omega), ← eQ]
    refine e_39 rfl (fun h1 => ?_) (fun h1 => ?_)
    · exact absurd h1 (nI_ge (by omega) (by omega))
    · refine e_1 rfl ?_
      refine e_6 rfl rfl ?_
      refine e_4 rfl rfl ?_
      refine e_gr rfl (p_0 hp) rfl (p_f5 hp) ?_
      refine e_4 rfl rfl ?_
      refine e_gr rfl (p_0 hp) rfl (p_f4 hp) ?_
      refine e_v1v rfl (by first | exact p_0 hp | exact (p_sh10 hp).1 | exact (p_sh4 hp).1) rfl (by decide) rfl (Nat.le_of_ble_eq_true rfl) (k10_follow hp e0 h7) ?_
      refine e_0 rfl ?_
      refine e_5 rfl rfl ?_
      refine e_lv [0, 1, 2, 3, 4, 5, 6, 7, 8] rfl rfl ?_
      refine k_weigh_in (L := L) (xs := xs) (d := d) (s := i) (sm := lN (abF g a p N w σ0 i)) hp hg hN hpp (by omega) rfl N 0 σ0 (by omega) h8 ?_
      have hIc := ch_shI (g := g) (a := a) (s := i) N 0 σ0 hI
      refine e_2 rfl rfl ?_
      refine e_30 rfl (fun h2 => ?_) (fun h2 => ?_)
      · refine e_4 rfl rfl ?_
        refine e_gr rfl (p_0 hp) rfl (p_f5 hp) ?_
        refine e_v0 rfl (by first | exact p_0 hp | exact (p_sh10 hp).1 | exact (p_sh4 hp).1) rfl (by decide) rfl (Nat.le_of_ble_eq_true rfl) (ss_isSunk (p_sh10 hp)) ?_
        refine e_31b rfl (fun h3 => ?_) (fun h3 => ?_)
        · refine e_8 rfl rfl rfl ?_
          refine e_42 rfl ?_
          refine e_lv [0, 2, 3, 4, 5, 6, 7] rfl rfl ?_
          show ps_To _ _ _ _ (6, [(7, .int _), (5, .long _), (0, .ref _), (1, .int _), (2, .int _), (3, .int _), (4, .int _)], [], _)
          have h := ih (i + 1) (by omega)
          rw [show abF g a p N w σ0 (i + 1) = abF g a p N w σ0 i + wyF p i N * 0 from congrArg (fun z => abF g a p N w σ0 i + wyF p i N * z) (byF_s0 h3 h2)] at h
          rw [Nat.mul_zero, Nat.add_zero] at h
          rw [nI_1]
          exact h
        · refine e_3 rfl rfl ?_
          refine e_3 rfl rfl ?_
          refine e_19 rfl ?_
          refine e_6 rfl rfl ?_
          refine e_8 rfl rfl rfl ?_
          refine e_42 rfl ?_
          refine e_lv [0, 1, 3, 4, 5, 6, 7] rfl rfl ?_
          show ps_To _ _ _ _ (6, [(7, .int _), (5, .long _), (0, .ref _), (1, .int _), (2, .int _), (3, .int _), (4, .int _)], [], _)
          have h := ih (i + 1) (by omega)
          rw [show abF g a p N w σ0 (i + 1) = abF g a p N w σ0 i + wyF p i N * 1 from congrArg (fun z => abF g a p N w σ0 i + wyF p i N * z) (byF_n0 h3 h2)] at h
          rw [Nat.mul_one, ← lN_add] at h
          rw [nI_1]
          exact h
      · refine e_3 rfl rfl ?_
        refine e_3 rfl rfl ?_
        refine e_4 rfl rfl ?_
        refine e_gr rfl (p_0 hp) rfl (p_f5 hp) ?_
        refine s_gi (p_sh10 hp) rfl rfl (by decide) (by decide) ?_
        refine e_0 rfl ?_
        refine e_67 rfl (Nat.le_of_ble_eq_true rfl) ?_
        rw [min_by h2 hIc.2.2.2.2.1]
        refine e_25 rfl ?_
        refine e_21 rfl ?_
        refine e_19 rfl ?_
        refine e_6 rfl rfl ?_
        refine e_42 rfl ?_
        refine e_8 rfl rfl rfl ?_
        refine e_42 rfl ?_
        refine e_lv [0, 1, 3, 4, 5, 6, 7] rfl rfl ?_
        show ps_To _ _ _ _ (6, [(7, .int _), (5, .long _), (0, .ref _), (1, .int _), (2, .int _), (3, .int _), (4, .int _)], [], _)
        have h := ih (i + 1) (by omega)
        rw [show abF g a p N w σ0 (i + 1) = abF g a p N w σ0 i + wyF p i N * (byF w (chF g a i N 0 σ0)) from congrArg (fun z => abF g a p N w σ0 i + wyF p i N * z) rfl] at h
        rw [← lN_add, ← lN_mul, ← nI_l (Nat.lt_of_le_of_lt by_le (by omega))] at h
        rw [nI_1]
        exact h
theorem k_weigh (hp : isPs μ) (e0 : shG (ps_i μ) 4 = σ0) (hI : shI g σ0) {a w : Int32} {N p : Nat} (hN : N ≤ 8) (hpp : p ≤ 12) : ps_Ev (ps_XX L xs) (d + 7) j_X7_weigh [.ref 0, .int a, .int (nI N), .int (nI p), .int w] (SM μ 10 τ) (some (.long (lN (abF g a p N w σ0 (2 ^ N))))) (SM μ 10 (lastC g a N σ0 τ (2 ^ N))) := by
  refine ⟨Nat.le_of_ble_eq_true rfl, ?_⟩
  refine e_1 rfl ?_
  refine e_6 rfl rfl ?_
  refine e_0 rfl ?_
  refine e_5 rfl rfl ?_
  refine e_lv [0, 1, 2, 3, 4, 5, 6] rfl rfl ?_
  exact k_weigh_loop (L := L) (xs := xs) (d := d) hp e0 hI hN hpp rfl (2 ^ N) 0 (by omega)
theorem k_12_loop {N : Nat} (hN : N ≤ 8) : ∀ (n i : Nat), i + n = N → ps_To (ps_XX L xs) (ps_Ev (ps_XX L xs) (d + 0)) j_X7_twelveTo (ps_rt j_X7_twelveTo (some (.long (lN (12 ^ N)))) μ) (4, [(3, .int (nI i)), (1, .long (lN (12 ^ i))), (0, .int (nI N))], [], μ) := by
  intro n
  induction n with
  | zero =>
    intro i hi
    obtain rfl : i = N := by omega
    refine e_2 rfl rfl ?_
    refine e_2 rfl rfl ?_
    refine e_39 rfl (fun h1 => ?_) (fun h1 => ?_)
    · refine e_3 rfl rfl ?_
      exact e_rl rfl (by rfl) (rfl)
    · exact absurd (nI_le (Nat.le_refl _) (by omega)) h1
  | succ n ih =>
    intro i hi
    refine e_2 rfl rfl ?_
    refine e_2 rfl rfl ?_
    refine e_39 rfl (fun h1 => ?_) (fun h1 => ?_)
    · exact absurd h1 (nI_ge (by omega) (by omega))
    · refine e_3 rfl rfl ?_
      refine e_1 rfl ?_
      refine e_21 rfl ?_
      refine e_6 rfl rfl ?_
      refine e_8 rfl rfl rfl ?_
      refine e_42 rfl ?_
      refine e_lv [0, 1, 2] rfl rfl ?_
      show ps_To _ _ _ _ (4, [(3, .int _), (1, .long _), (0, .int _)], [], _)
      rw [nI_1, show (12 : Int64) = lN 12 from rfl, lN_mul, ← Nat.pow_succ]
      exact ih (i + 1) (by omega)
theorem k_12 {N : Nat} (hN : N ≤ 8) : ps_Ev (ps_XX L xs) (d + 1) j_X7_twelveTo [.int (nI N)] μ (some (.long (lN (12 ^ N)))) μ := by
  refine ⟨Nat.le_of_ble_eq_true rfl, ?_⟩
  refine e_1 rfl ?_
  refine e_6 rfl rfl ?_
  refine e_0 rfl ?_
  refine e_5 rfl rfl ?_
  refine e_lv [0, 1, 2] rfl rfl ?_
  exact k_12_loop hN N 0 (by omega)
theorem k_gcd_loop {A B : Int64} : ∀ (f i x y : Nat), i + f < 100 → x < 2 ^ 63 → y < 2 ^ 63 → esP f x y → ps_To (ps_XX L xs) (ps_Ev (ps_XX L xs) d) j_X7_commonDivisor (ps_rt j_X7_commonDivisor (some (.long (lN (Nat.gcd x y)))) μ) (9, [(8, .int (nI i)), (6, .long (lN y)), (4, .long (lN x)), (0, .long A), (2, .long B)], [], μ) := by
  intro f
  induction f with
  | zero =>
    intro i x y hi hx hy hf
    obtain rfl : y = 0 := hf
    rw [Nat.gcd_zero_right]
    refine e_2 rfl rfl ?_
    refine e_0 rfl ?_
    refine e_39 rfl (fun h1 => ?_) (fun h1 => ?_)
    · exact absurd (show nI 100 ≤ nI i from h1) (nI_ge (by omega) (by omega))
    · refine e_3 rfl rfl ?_
      refine e_1 rfl ?_
      refine e_24 rfl ?_
      refine e_30 rfl (fun h2 => ?_) (fun h2 => ?_)
      · refine e_3 rfl rfl ?_
        exact e_rl rfl (by rfl) (rfl)
      · exact absurd ((lcmp0 (by omega)).mpr rfl) h2
  | succ f ih =>
    intro i x y hi hx hy hf
    refine e_2 rfl rfl ?_
    refine e_0 rfl ?_
    refine e_39 rfl (fun h1 => ?_) (fun h1 => ?_)
    · exact absurd (show nI 100 ≤ nI i from h1) (nI_ge (by omega) (by omega))
    · refine e_3 rfl rfl ?_
      refine e_1 rfl ?_
      refine e_24 rfl ?_
      refine e_30 rfl (fun h2 => ?_) (fun h2 => ?_)
      · refine e_3 rfl rfl ?_
        exact e_rl rfl (by rw [show y = 0 from (lcmp0 hy).mp h2, Nat.gcd_zero_right]) (rfl)
      · have hy0 : ¬ y = 0 := fun z => h2 ((lcmp0 hy).mpr z)
        have hlt := Nat.mod_lt x (Nat.pos_of_ne_zero hy0)
        refine e_3 rfl rfl ?_
        refine e_3 rfl rfl ?_
        refine e_23 rfl (by exact fun z => absurd ((pk_lEQ (b := 0) (by omega) (by omega)).mp z) (by omega)) ?_
        rw [pk_lRem hx (by omega) hy]
        refine e_6 rfl rfl ?_
        refine e_3 rfl rfl ?_
        refine e_6 rfl rfl ?_
        refine e_3 rfl rfl ?_
        refine e_6 rfl rfl ?_
        refine e_8 rfl rfl rfl ?_
        refine e_42 rfl ?_
        refine e_lv [0, 1, 2, 4, 5] rfl rfl ?_
        rw [nI_1, ← gcd_step]
        exact ih (i + 1) y (x % y) (by omega) hy (by omega) (hf.resolve_left hy0)
theorem k_gcd {x y : Nat} (hx : x < 2 ^ 63) (hy : y < 2 ^ 40) : ps_Ev (ps_XX L xs) (d + 1) j_X7_commonDivisor [.long (lN x), .long (lN y)] μ (some (.long (lN (Nat.gcd x y)))) μ := by
  refine ⟨Nat.le_of_ble_eq_true rfl, ?_⟩
  refine e_3 rfl rfl ?_
  refine e_6 rfl rfl ?_
  refine e_3 rfl rfl ?_
  refine e_6 rfl rfl ?_
  refine e_0 rfl ?_
  refine e_5 rfl rfl ?_
  refine e_lv [0, 1, 2, 3, 4] rfl rfl ?_
  exact k_gcd_loop 80 0 x y (by omega) hx (by omega) (es_bd 40 x y hy)
theorem k_tellChance (hp : isPs μ) {A B : Nat} (hA : A < 2 ^ 63) (hB : B < 2 ^ 40) (hB0 : 0 < B) : ps_Ev (ps_XX L xs) (d + 2) j_X7_tellChance [.ref 0, .long (lN A), .long (lN B)] μ none (ps_sL (ps_sL μ 0 12 (lN (A / Nat.gcd A B))) 0 13 (lN (B / Nat.gcd A B))) := by
  refine ⟨Nat.le_of_ble_eq_true rfl, ?_⟩
  have hg0 : 0 < Nat.gcd A B := Nat.gcd_pos_of_pos_right A hB0
  have hg1 : Nat.gcd A B ≤ B := Nat.gcd_le_right A hB0
  have hcm : ¬ lg_cmp (lN (Nat.gcd A B)) 0 ≤ 0 := Int32.not_le.mpr ((lg_cmp_gt _ _).mpr ((pk_lLT (a := 0) (by omega) (by omega)).mpr hg0))
  refine e_3 rfl rfl ?_
  refine e_3 rfl rfl ?_
  refine e_s2 rfl rfl rfl (Nat.le_of_ble_eq_true rfl) (k_gcd hA hB) ?_
  refine e_6 rfl rfl ?_
  refine e_4 rfl rfl ?_
  refine e_3 rfl rfl ?_
  refine e_1 rfl ?_
  refine e_24 rfl ?_
  refine e_35 rfl (fun h1 => ?_) (fun h1 => ?_)
  · exact absurd h1 hcm
  · refine e_3 rfl rfl ?_
    refine e_3 rfl rfl ?_
    refine e_22 rfl (by exact fun z => absurd ((pk_lEQ (b := 0) (by omega) (by omega)).mp z) (by omega)) ?_
    refine e_42 rfl ?_
    refine e_pl rfl (p_0 hp) rfl ?_
    refine e_4 rfl rfl ?_
    refine e_3 rfl rfl ?_
    refine e_1 rfl ?_
    refine e_24 rfl ?_
    refine e_35 rfl (fun h2 => ?_) (fun h2 => ?_)
    · exact absurd h2 hcm
    · refine e_3 rfl rfl ?_
      refine e_3 rfl rfl ?_
      refine e_22 rfl (by exact fun z => absurd ((pk_lEQ (b := 0) (by omega) (by omega)).mp z) (by omega)) ?_
      refine e_42 rfl ?_
      refine e_pl rfl (p_0 hp) rfl ?_
      exact e_rv rfl (by rw [pk_lDiv hA hg0 (by omega), pk_lDiv (by omega) hg0 (by omega)])
theorem kq_odds (hp : isPs μ) (e0 : shG (ps_i μ) 4 = σ0) (hI : shI g σ0) (a : Int32) {n q : Int32} {N p : Nat} (hn : 0 ≤ n ∧ n ≤ 8 → n = nI N ∧ N ≤ 8) (hq : 0 ≤ q ∧ q ≤ 12 → q = nI p ∧ p ≤ 12) : evI (ps_XX L xs) (d + 8) j_X7_odds [.ref 0, .int a, .int n, .int q] (SM μ 10 τ) (if ¬ chanceP a n q then (-1, SM μ 10 τ) else if σ0 8 = 0 then (-4, SM μ 10 τ) else (1, ps_sL (ps_sL (SM μ 10 (lastC g a N σ0 τ (2 ^ N))) 0 12 (lN (abF g a p N 0 σ0 (2 ^ N) / Nat.gcd (abF g a p N 0 σ0 (2 ^ N)) (12 ^ N)))) 0 13 (lN (12 ^ N / Nat.gcd (abF g a p N 0 σ0 (2 ^ N)) (12 ^ N))))) := by
  refine ⟨Nat.le_of_ble_eq_true rfl, ?_⟩
  have hg := hI.1.1
  have h8 := hI.1.2.1
  have h7 := hI.2.2.1
  have e8 : ps_i μ 4 8 = σ0 8 := by rw [← e0]; rfl
  refine e_2 rfl rfl ?_
  refine e_2 rfl rfl ?_
  refine e_2 rfl rfl ?_
  refine e_s3 rfl rfl rfl (Nat.le_of_ble_eq_true rfl) (k_isChance _ _ _) ?_
  refine e_31b rfl (fun h1 => ?_) (fun h1 => ?_)
  · obtain ⟨rfl, hN⟩ := hn h1.2.1
    obtain ⟨rfl, hpp⟩ := hq h1.2.2
    have h12 := p12_8 hN
    have h12p : 0 < 12 ^ N := Nat.pow_pos (by decide)
    have hA := ab_le (g := g) (a := a) (p := p) (N := N) (w := 0) (σ := σ0) (2 ^ N)
    rw [bl_12 N (by omega) p (by omega)] at hA
    refine e_4 rfl rfl ?_
    refine e_gr rfl (p_0 hp) rfl (p_f4 hp) ?_
    refine e_gi rfl (p_sh4 hp).1 rfl (by decide) ?_
    rw [SM_off (by omega), e8]
    refine e_31 rfl (fun h2 => ?_) (fun h2 => ?_)
    · refine e_4 rfl rfl ?_
      refine e_4 rfl rfl ?_
      refine e_2 rfl rfl ?_
      refine e_2 rfl rfl ?_
      refine e_2 rfl rfl ?_
      refine e_0 rfl ?_
      refine e_v4 rfl (by first | exact p_0 hp | exact (p_sh10 hp).1 | exact (p_sh4 hp).1) rfl (by decide) rfl (Nat.le_of_ble_eq_true rfl) (k_weigh hp e0 hI hN hpp) ?_
      refine e_2 rfl rfl ?_
      refine e_s1 rfl rfl rfl (Nat.le_of_ble_eq_true rfl) (k_12 hN) ?_
      refine e_v2v rfl (by first | exact p_0 hp | exact (p_sh10 hp).1 | exact (p_sh4 hp).1) rfl (by decide) rfl (Nat.le_of_ble_eq_true rfl) (k_tellChance (μ := SM μ 10 _) hp (by omega) (by omega) h12p) ?_
      refine e_0 rfl ?_
      exact e_ri rfl rfl (by first | (simp only [eq_true h1, eq_false h2, if_true, if_true, if_false, not_true_eq_false, not_false_eq_true, and_true, true_and, and_false, false_and, or_true, true_or, or_false, false_or, reduceIte]; done) | (simp only [eq_true h1, eq_false h2, if_true, if_true, if_false, not_true_eq_false, not_false_eq_true, and_true, true_and, and_false, false_and, or_true, true_or, or_false, false_or, reduceIte]; rfl) | rfl) (by first | (simp only [eq_true h1, eq_false h2, if_true, if_true, if_false, not_true_eq_false, not_false_eq_true, and_true, true_and, and_false, false_and, or_true, true_or, or_false, false_or, reduceIte]; done) | (simp only [eq_true h1, eq_false h2, if_true, if_true, if_false, not_true_eq_false, not_false_eq_true, and_true, true_and, and_false, false_and, or_true, true_or, or_false, false_or, reduceIte]; rfl) | rfl)
    · refine e_0 rfl ?_
      exact e_ri rfl rfl (by first | (simp only [eq_true h1, eq_true h2, if_true, if_true, if_false, not_true_eq_false, not_false_eq_true, and_true, true_and, and_false, false_and, or_true, true_or, or_false, false_or, reduceIte]; done) | (simp only [eq_true h1, eq_true h2, if_true, if_true, if_false, not_true_eq_false, not_false_eq_true, and_true, true_and, and_false, false_and, or_true, true_or, or_false, false_or, reduceIte]; rfl) | rfl) (by first | (simp only [eq_true h1, eq_true h2, if_true, if_true, if_false, not_true_eq_false, not_false_eq_true, and_true, true_and, and_false, false_and, or_true, true_or, or_false, false_or, reduceIte]; done) | (simp only [eq_true h1, eq_true h2, if_true, if_true, if_false, not_true_eq_false, not_false_eq_true, and_true, true_and, and_false, false_and, or_true, true_or, or_false, false_or, reduceIte]; rfl) | rfl)
  · refine e_0 rfl ?_
    exact e_ri rfl rfl (by first | (simp only [eq_false h1, if_true, if_true, if_false, not_true_eq_false, not_false_eq_true, and_true, true_and, and_false, false_and, or_true, true_or, or_false, false_or, reduceIte]; done) | (simp only [eq_false h1, if_true, if_true, if_false, not_true_eq_false, not_false_eq_true, and_true, true_and, and_false, false_and, or_true, true_or, or_false, false_or, reduceIte]; rfl) | rfl) (by first | (simp only [eq_false h1, if_true, if_true, if_false, not_true_eq_false, not_false_eq_true, and_true, true_and, and_false, false_and, or_true, true_or, or_false, false_or, reduceIte]; done) | (simp only [eq_false h1, if_true, if_true, if_false, not_true_eq_false, not_false_eq_true, and_true, true_and, and_false, false_and, or_true, true_or, or_false, false_or, reduceIte]; rfl) | rfl)
theorem kq_mid (hp : isPs μ) (e0 : shG (ps_i μ) 4 = σ0) (hI : shI g σ0) (a : Int32) {n q : Int32} {N p : Nat} (hn : 0 ≤ n ∧ n ≤ 8 → n = nI N ∧ N ≤ 8) (hq : 0 ≤ q ∧ q ≤ 12 → q = nI p ∧ p ≤ 12) : evI (ps_XX L xs) (d + 8) j_X7_mid [.ref 0, .int a, .int n, .int q] (SM μ 10 τ) (if ¬ chanceP a n q then (-1, SM μ 10 τ) else if σ0 8 = 0 then (-4, SM μ 10 τ) else (1, ps_sL (ps_sL (SM μ 10 (lastC g a N σ0 τ (2 ^ N))) 0 12 (lN (abF g a p N 1 σ0 (2 ^ N) / Nat.gcd (abF g a p N 1 σ0 (2 ^ N)) (12 ^ N)))) 0 13 (lN (12 ^ N / Nat.gcd (abF g a p N 1 σ0 (2 ^ N)) (12 ^ N))))) := by
  refine ⟨Nat.le_of_ble_eq_true rfl, ?_⟩
  have hg := hI.1.1
  have h8 := hI.1.2.1
  have h7 := hI.2.2.1
  have e8 : ps_i μ 4 8 = σ0 8 := by rw [← e0]; rfl
  refine e_2 rfl rfl ?_
  refine e_2 rfl rfl ?_
  refine e_2 rfl rfl ?_
  refine e_s3 rfl rfl rfl (Nat.le_of_ble_eq_true rfl) (k_isChance _ _ _) ?_
  refine e_31b rfl (fun h1 => ?_) (fun h1 => ?_)
  · obtain ⟨rfl, hN⟩ := hn h1.2.1
    obtain ⟨rfl, hpp⟩ := hq h1.2.2
    have h12 := p12_8 hN
    have h12p : 0 < 12 ^ N := Nat.pow_pos (by decide)
    have hA := ab_le (g := g) (a := a) (p := p) (N := N) (w := 1) (σ := σ0) (2 ^ N)
    rw [bl_12 N (by omega) p (by omega)] at hA
    refine e_4 rfl rfl ?_
    refine e_gr rfl (p_0 hp) rfl (p_f4 hp) ?_
    refine e_gi rfl (p_sh4 hp).1 rfl (by decide) ?_
    rw [SM_off (by omega), e8]
    refine e_31 rfl (fun h2 => ?_) (fun h2 => ?_)
    · refine e_4 rfl rfl ?_
      refine e_4 rfl rfl ?_
      refine e_2 rfl rfl ?_
      refine e_2 rfl rfl ?_
      refine e_2 rfl rfl ?_
      refine e_0 rfl ?_
      refine e_v4 rfl (by first | exact p_0 hp | exact (p_sh10 hp).1 | exact (p_sh4 hp).1) rfl (by decide) rfl (Nat.le_of_ble_eq_true rfl) (k_weigh hp e0 hI hN hpp) ?_
      refine e_2 rfl rfl ?_
      refine e_s1 rfl rfl rfl (Nat.le_of_ble_eq_true rfl) (k_12 hN) ?_
      refine e_v2v rfl (by first | exact p_0 hp | exact (p_sh10 hp).1 | exact (p_sh4 hp).1) rfl (by decide) rfl (Nat.le_of_ble_eq_true rfl) (k_tellChance (μ := SM μ 10 _) hp (by omega) (by omega) h12p) ?_
      refine e_0 rfl ?_
      exact e_ri rfl rfl (by first | (simp only [eq_true h1, eq_false h2, if_true, if_true, if_false, not_true_eq_false, not_false_eq_true, and_true, true_and, and_false, false_and, or_true, true_or, or_false, false_or, reduceIte]; done) | (simp only [eq_true h1, eq_false h2, if_true, if_true, if_false, not_true_eq_false, not_false_eq_true, and_true, true_and, and_false, false_and, or_true, true_or, or_false, false_or, reduceIte]; rfl) | rfl) (by first | (simp only [eq_true h1, eq_false h2, if_true, if_true, if_false, not_true_eq_false, not_false_eq_true, and_true, true_and, and_false, false_and, or_true, true_or, or_false, false_or, reduceIte]; done) | (simp only [eq_true h1, eq_false h2, if_true, if_true, if_false, not_true_eq_false, not_false_eq_true, and_true, true_and, and_false, false_and, or_true, true_or, or_false, false_or, reduceIte]; rfl) | rfl)
    · refine e_0 rfl ?_
      exact e_ri rfl rfl (by first | (simp only [eq_true h1, eq_true h2, if_true, if_true, if_false, not_true_eq_false, not_false_eq_true, and_true, true_and, and_false, false_and, or_true, true_or, or_false, false_or, reduceIte]; done) | (simp only [eq_true h1, eq_true h2, if_true, if_true, if_false, not_true_eq_false, not_false_eq_true, and_true, true_and, and_false, false_and, or_true, true_or, or_false, false_or, reduceIte]; rfl) | rfl) (by first | (simp only [eq_true h1, eq_true h2, if_true, if_true, if_false, not_true_eq_false, not_false_eq_true, and_true, true_and, and_false, false_and, or_true, true_or, or_false, false_or, reduceIte]; done) | (simp only [eq_true h1, eq_true h2, if_true, if_true, if_false, not_true_eq_false, not_false_eq_true, and_true, true_and, and_false, false_and, or_true, true_or, or_false, false_or, reduceIte]; rfl) | rfl)
  · refine e_0 rfl ?_
    exact e_ri rfl rfl (by first | (simp only [eq_false h1, if_true, if_true, if_false, not_true_eq_false, not_false_eq_true, and_true, true_and, and_false, false_and, or_true, true_or, or_false, false_or, reduceIte]; done) | (simp only [eq_false h1, if_true, if_true, if_false, not_true_eq_false, not_false_eq_true, and_true, true_and, and_false, false_and, or_true, true_or, or_false, false_or, reduceIte]; rfl) | rfl) (by first | (simp only [eq_false h1, if_true, if_true, if_false, not_true_eq_false, not_false_eq_true, and_true, true_and, and_false, false_and, or_true, true_or, or_false, false_or, reduceIte]; done) | (simp only [eq_false h1, if_true, if_true, if_false, not_true_eq_false, not_false_eq_true, and_true, true_and, and_false, false_and, or_true, true_or, or_false, false_or, reduceIte]; rfl) | rfl)
end KQ5
