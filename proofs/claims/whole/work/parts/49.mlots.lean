-- ===== lots of the model =====
def popN (s : Nat) : Nat → Nat
  | 0 => 0
  | n + 1 => popN s n + bitN s n
def popR (s : Nat) : Nat → Nat → Nat
  | 0, _ => 0
  | f + 1, k => bitN s k + popR s f (k + 1)
def nthN (s : Nat) : Nat → Nat → Nat → Nat
  | 0, k, _ => k
  | f + 1, k, l => if bitN s k = 1 then (if l = 0 then k else nthN s f (k + 1) (l - 1)) else nthN s f (k + 1) l
theorem bit_01 (s k : Nat) : bitN s k = 0 ∨ bitN s k = 1 := by
  unfold bitN
  omega
theorem pop_RN (s : Nat) : popR s 10 0 = popN s 10 := by
  simp only [popR, popN, Nat.zero_add, Nat.reduceAdd]
  omega
theorem nth_ok {s : Nat} : ∀ f k l, l < popR s f k → nthN s f k l < k + f ∧ bitN s (nthN s f k l) = 1
  | 0, _, _, h => absurd h (by unfold popR; omega)
  | f + 1, k, l, h => by
    unfold popR at h
    unfold nthN
    split
    · rename_i hb
      split
      · exact ⟨by omega, hb⟩
      · have := nth_ok (s := s) f (k + 1) (l - 1) (by omega)
        exact ⟨by omega, this.2⟩
    · rename_i hb
      have := nth_ok (s := s) f (k + 1) l (by have := bit_01 s k; omega)
      exact ⟨by omega, this.2⟩
def canB (σ : Nat → Int32) : Nat := bnN (fun k => canF σ (nI k)) 10
theorem canS_B {σ : Nat → Int32} : canS σ = nI (canB σ) := bits_bn 10 (by omega)
theorem canB_lt {σ : Nat → Int32} : canB σ < 1024 := bnN_lt 10
theorem canB_bit {σ : Nat → Int32} {k : Nat} : bitN (canB σ) k = 1 ↔ k < 10 ∧ canF σ (nI k) := by
  have h : bitN (canB σ) k = if k < 10 ∧ canF σ (nI k) then 1 else 0 := bnN_bit 10 k
  rw [h]
  split
  · rename_i z; exact ⟨fun _ => z, fun _ => rfl⟩
  · rename_i z; exact ⟨fun q => absurd q (by omega), fun q => absurd q z⟩
theorem can_9 {σ : Nat → Int32} (h0 : 0 < σ 8) (ho : ¬ overF σ) : bitN (canB σ) 9 = 1 := canB_bit.mpr ⟨by omega, h0, ho, Or.inr (Or.inl rfl)⟩
theorem can_no {σ : Nat → Int32} (ho : overF σ) : canB σ = 0 := by
  have e : ∀ n, bnN (fun k => canF σ (nI k)) n = 0 := fun n => by
    induction n with
    | zero => rfl
    | succ n ih =>
      unfold bnN
      rw [if_neg (fun z => z.2.1 ho)]
      exact ih
  exact e 10
theorem can_0 {σ : Nat → Int32} (h0 : 0 < σ 8) : canS σ = 0 ↔ overF σ := by
  rw [canS_B]
  constructor
  · intro h
    refine Classical.byContradiction fun ho => ?_
    have h9 := can_9 h0 ho
    have := (nI_eq (b := 0) (Nat.lt_trans canB_lt (by omega)) (by omega)).mp h
    rw [this] at h9
    exact absurd h9 (by decide)
  · intro h
    rw [can_no h]; rfl
theorem pop_pos {σ : Nat → Int32} (h0 : 0 < σ 8) (ho : ¬ overF σ) : 0 < popN (canB σ) 10 := by
  have := can_9 h0 ho
  show 0 < popN (canB σ) 9 + bitN (canB σ) 9
  omega
theorem pop_le (s : Nat) : ∀ n, popN s n ≤ n
  | 0 => Nat.le_refl _
  | n + 1 => by
    have := pop_le s n
    have := bit_01 s n
    unfold popN
    omega
def lotN (l : Nat) : Nat := l * 48271 % 2147483647
def drawN (σ : Nat → Int32) (l : Nat) : Nat := nthN (canB σ) 10 0 (l % popN (canB σ) 10)
theorem draw_ok {σ : Nat → Int32} (h0 : 0 < σ 8) (ho : ¬ overF σ) (l : Nat) : drawN σ l < 10 ∧ canF σ (nI (drawN σ l)) := by
  have h := nth_ok (s := canB σ) 10 0 (l % popN (canB σ) 10) (by rw [pop_RN]; exact Nat.mod_lt _ (pop_pos h0 ho))
  exact ⟨by unfold drawN; omega, (canB_bit.mp h.2).2⟩
def lotsF (m g : Nat) : Nat → Nat → ps_M → (Nat → Int32) → Nat × ps_M
  | 0, _, μ, σ => (0, MS μ m 0 σ)
  | n + 1, l, μ, σ => if overF σ then (0, MS μ m 0 σ) else ((lotsF m g n (lotN l) (PA μ m (σ 5).toNatClampNeg σ 11) (passF g σ (nI (drawN σ (lotN l))))).1 + 1, (lotsF m g n (lotN l) (PA μ m (σ 5).toNatClampNeg σ 11) (passF g σ (nI (drawN σ (lotN l))))).2)
section MQD
variable {L : Nat} {xs : Nat → Int32} {d : Nat} {m : Nat} {g : Nat}
theorem mt_many_loop {μ : ps_M} {s : Nat} (hs : s < 2 ^ 31) : ∀ (n i : Nat), i + n = 10 → ps_To (ps_XX L xs) (ps_Ev (ps_XX L xs) (d + 0)) j_X8_many (ps_rt j_X8_many (some (.int (nI (popN s 10)))) μ) (4, [(2, .int (nI i)), (1, .int (nI (popN s i))), (0, .int (nI s))], [], μ) := by
  intro n
  induction n with
  | zero =>
    intro i hi
    obtain rfl : i = 10 := by omega
    skip
    refine e_2 rfl rfl ?_
    refine e_0 rfl ?_
    refine e_39 rfl (fun h1 => ?_) (fun h1 => ?_)
    · refine e_2 rfl rfl ?_
      exact e_ri rfl rfl (by rfl) (rfl)
    · exact absurd (show nI 10 ≤ nI 10 from nI_le (Nat.le_refl _) (by omega)) h1
  | succ n ih =>
    intro i hi
    refine e_2 rfl rfl ?_
    refine e_0 rfl ?_
    refine e_39 rfl (fun h1 => ?_) (fun h1 => ?_)
    · exact absurd (show nI 10 ≤ nI i from h1) (nI_ge (by omega) (by omega))
    · refine e_2 rfl rfl ?_
      refine e_2 rfl rfl ?_
      refine e_2 rfl rfl ?_
      refine e_15 rfl ?_
      refine e_0 rfl ?_
      refine e_12 rfl ?_
      refine e_9 rfl ?_
      refine e_5 rfl rfl ?_
      refine e_8 rfl rfl rfl ?_
      refine e_42 rfl ?_
      refine e_lv [0, 1, 2] rfl rfl ?_
      show ps_To _ _ _ _ (4, [(2, .int _), (1, .int _), (0, .int _)], [], _)
      rw [b_sh hs (by omega), nI_add, nI_1]
      exact ih (i + 1) (by omega)
theorem mt_many {μ : ps_M} {s : Nat} (hs : s < 2 ^ 31) : ps_Ev (ps_XX L xs) (d + 1) j_X8_many [.int (nI s)] μ (some (.int (nI (popN s 10)))) μ := by
  refine ⟨Nat.le_of_ble_eq_true rfl, ?_⟩
  refine e_0 rfl ?_
  refine e_5 rfl rfl ?_
  refine e_0 rfl ?_
  refine e_5 rfl rfl ?_
  exact mt_many_loop hs 10 0 (by omega)
theorem mt_nth_loop {μ : ps_M} {s : Nat} (hs : s < 2 ^ 31) (z : Int32) : ∀ (f k l : Nat), k + f = 10 → l < 2 ^ 31 → l < popR s f k → ps_To (ps_XX L xs) (ps_Ev (ps_XX L xs) (d + 1)) j_X8_nthOf (ps_rt j_X8_nthOf (some (.int (nI (nthN s f k l)))) μ) (4, [(3, .int (nI k)), (2, .int (nI l)), (0, .int (nI s)), (1, .int z)], [], μ) := by
  intro f
  induction f with
  | zero => exact fun k l _ _ h => absurd h (by unfold popR; omega)
  | succ f ih =>
    intro k l hk hl31 hl
    unfold popR at hl
    refine e_2 rfl rfl ?_
    refine e_2 rfl rfl ?_
    refine e_s2 rfl rfl rfl (Nat.le_of_ble_eq_true rfl) (sm_hasN hs (by omega)) ?_
    refine e_30b rfl (fun h1 => ?_) (fun h1 => ?_)
    · refine e_2 rfl rfl ?_
      refine e_2 rfl rfl ?_
      refine e_2 rfl rfl ?_
      refine e_15 rfl ?_
      refine e_0 rfl ?_
      refine e_12 rfl ?_
      refine e_10 rfl ?_
      refine e_5 rfl rfl ?_
      refine e_8 rfl rfl rfl ?_
      refine e_42 rfl ?_
      refine e_lv [0, 1, 2, 3] rfl rfl ?_
      unfold nthN
      rw [if_neg h1, b_sh hs (by omega), show s / 2 ^ k % 2 = 0 from (bit_01 s k).resolve_right h1, pk_sub (Nat.zero_le _), nI_1]
      exact ih (k + 1) l (by omega) hl31 (by have := (bit_01 s k).resolve_right h1; omega)
    · refine e_2 rfl rfl ?_
      refine e_35 rfl (fun h2 => ?_) (fun h2 => ?_)
      · refine e_2 rfl rfl ?_
        exact e_ri rfl rfl (by unfold nthN; rw [if_pos h1, if_pos ((nI_leI (b := 0) hl31 (by omega)).mp h2 |> Nat.le_zero.mp)]) (rfl)
      · refine e_2 rfl rfl ?_
        refine e_2 rfl rfl ?_
        refine e_2 rfl rfl ?_
        refine e_15 rfl ?_
        refine e_0 rfl ?_
        refine e_12 rfl ?_
        refine e_10 rfl ?_
        refine e_5 rfl rfl ?_
        refine e_8 rfl rfl rfl ?_
        refine e_42 rfl ?_
        refine e_lv [0, 1, 2, 3] rfl rfl ?_
        have hl0 : ¬ l = 0 := fun q => h2 (by rw [q]; decide)
        unfold nthN
        rw [if_pos h1, if_neg hl0, b_sh hs (by omega), show s / 2 ^ k % 2 = 1 from h1, pk_sub (by omega), nI_1]
        exact ih (k + 1) (l - 1) (by omega) (by omega) (by omega)
theorem mt_nthOf {μ : ps_M} {s l : Nat} (hs : s < 2 ^ 31) (hl : l < popN s 10) : ps_Ev (ps_XX L xs) (d + 2) j_X8_nthOf [.int (nI s), .int (nI l)] μ (some (.int (nI (nthN s 10 0 l)))) μ := by
  refine ⟨Nat.le_of_ble_eq_true rfl, ?_⟩
  refine e_2 rfl rfl ?_
  refine e_5 rfl rfl ?_
  refine e_0 rfl ?_
  refine e_5 rfl rfl ?_
  exact mt_nth_loop hs (nI l) 10 0 l (by omega) (by have := pop_le s 10; omega) (by rw [pop_RN]; exact hl)
theorem mt_lots_loop {N : Nat} (hN : N ≤ 20) (z : Int32) : ∀ (n i : Nat) (l : Nat) (μ : ps_M) (σ : Nat → Int32), i + n = N → isMd μ m → shI g σ → 0 < σ 8 → l < 2147483647 → ps_To (ps_XX L xs) (ps_Ev (ps_XX L xs) (d + 5)) j_X8_lots (ps_rt j_X8_lots (some (.int (nI (i + (lotsF m g n l μ σ).1)))) ((lotsF m g n l μ σ).2)) (42, [(5, .int (nI i)), (3, .long (lN l)), (0, .ref (m)), (1, .int (nI N)), (2, .int (z))], [], MS μ m 0 σ) := by
  intro n
  induction n with
  | zero =>
    intro i l μ σ hi hm hI h0 hl
    obtain rfl : i = N := by omega
    refine e_2 rfl rfl ?_
    refine e_2 rfl rfl ?_
    refine e_39 rfl (fun h1 => ?_) (fun h1 => ?_)
    · refine e_2 rfl rfl ?_
      exact e_ri rfl rfl (by first | rfl | (unfold lotsF; rw [if_pos ((can_0 h0).mp h2)]; rfl)) (by first | rfl | (unfold lotsF; rw [if_pos ((can_0 h0).mp h2)]))
    · exact absurd (nI_le (Nat.le_refl _) (by omega)) h1
  | succ n ih =>
    intro i l μ σ hi hm hI h0 hl
    refine e_2 rfl rfl ?_
    refine e_2 rfl rfl ?_
    refine e_39 rfl (fun h1 => ?_) (fun h1 => ?_)
    · exact absurd h1 (nI_ge (by omega) (by omega))
    · refine e_4 rfl rfl ?_
      refine e_v0 rfl (by first | exact hm.1 | assumption | rfl) rfl (by decide) rfl (Nat.le_of_ble_eq_true rfl) (mt_canNow hm hI h0) ?_
      refine e_30 rfl (fun h2 => ?_) (fun h2 => ?_)
      · refine e_2 rfl rfl ?_
        exact e_ri rfl rfl (by first | rfl | (unfold lotsF; rw [if_pos ((can_0 h0).mp h2)]; rfl)) (by first | rfl | (unfold lotsF; rw [if_pos ((can_0 h0).mp h2)]))
      · have ho : ¬ overF σ := fun q => h2 ((can_0 h0).mpr q)
        have hpp := pop_pos h0 ho
        have hpl := pop_le (canB σ) 10
        have hcan := (draw_ok h0 ho (lotN l)).2
        obtain ⟨p, hh, hph, hh40, e5, e4⟩ := hI.2.2.2.2.2
        have hlt := over_lt ho
        rw [e5, e4] at hlt
        have hlt := (nI_ltI (by omega) (by omega)).mp hlt
        have hl2 : lotN l < 2147483647 := Nat.mod_lt _ (by omega)
        refine e_3 rfl rfl ?_
        refine e_1 rfl ?_
        refine e_21 rfl ?_
        rw [show (48271 : Int64) = lN 48271 from rfl, lN_mul]
        refine e_1 rfl ?_
        refine e_23 rfl (by first | decide | exact fun q => absurd ((pk_lEQ (b := 0) (by omega) (by omega)).mp q) (by omega)) ?_
        rw [show (2147483647 : Int64) = lN 2147483647 from rfl, pk_lRem (by omega) (by omega) (by omega), show l * 48271 % 2147483647 = lotN l from rfl]
        refine e_6 rfl rfl ?_
        refine e_4 rfl rfl ?_
        refine e_4 rfl rfl ?_
        refine e_v0 rfl (by first | exact hm.1 | assumption | rfl) rfl (by decide) rfl (Nat.le_of_ble_eq_true rfl) (mt_canNow hm hI h0) ?_
        refine e_3 rfl rfl ?_
        refine e_4 rfl rfl ?_
        refine e_v0 rfl (by first | exact hm.1 | assumption | rfl) rfl (by decide) rfl (Nat.le_of_ble_eq_true rfl) (mt_canNow hm hI h0) ?_
        rw [canS_B]
        refine e_s1 rfl rfl rfl (Nat.le_of_ble_eq_true rfl) (mt_many (Nat.lt_trans canB_lt (by omega))) ?_
        rw [show (nI (popN (canB σ) 10)) = nI (popN (canB σ) 10) from rfl]
        refine e_25 rfl ?_
        rw [nI_l (by omega)]
        refine e_23 rfl (by first | decide | exact fun q => absurd ((pk_lEQ (b := 0) (by omega) (by omega)).mp q) (by omega)) ?_
        rw [pk_lRem (by omega) hpp (by omega)]
        refine e_26 rfl ?_
        rw [lN_i]
        refine e_s2 rfl rfl rfl (Nat.le_of_ble_eq_true rfl) (mt_nthOf (Nat.lt_trans canB_lt (by omega)) (Nat.mod_lt _ hpp)) ?_
        refine e_v1v rfl (by first | exact hm.1 | assumption | rfl) rfl (by decide) rfl (Nat.le_of_ble_eq_true rfl) (mt_doAct hm hI e5 (by omega) hcan.2.2) ?_
        refine e_8 rfl rfl rfl ?_
        refine e_42 rfl ?_
        refine e_lv [0, 1, 2, 3, 4] rfl rfl ?_
        show ps_To _ _ _ _ (42, [(5, .int _), (3, .long _), (0, .ref _), (1, .int _), (2, .int _)], [], _)
        have h := ih (i + 1) (lotN l) (PA μ m p σ 11) (passF g σ (nI (drawN σ (lotN l)))) (by omega) hm (shI_pass hI hcan.2.2 (over_lt ho)) (by rw [passF_8]; exact h0) hl2
        have ep : (σ 5).toNatClampNeg = p := by rw [e5]; exact nI_clamp (by omega)
        unfold lotsF
        rw [if_neg ho, ep, nI_1]
        rw [show i + 1 + (lotsF m g n (lotN l) (PA μ m p σ 11) (passF g σ (nI (drawN σ (lotN l))))).1 = i + ((lotsF m g n (lotN l) (PA μ m p σ 11) (passF g σ (nI (drawN σ (lotN l))))).1 + 1) by omega] at h
        exact h
theorem mq_lots {μ : ps_M} {σ : Nat → Int32} (hm : isMd μ m) (hI : shI g σ) {n seed : Int32} {N l : Nat} (hn : 1 ≤ n ∧ n ≤ 20 → n = nI N ∧ N ≤ 20) (hl : 1 ≤ seed ∧ seed ≤ 2147483646 → seed = nI l ∧ l < 2147483647) : evI (ps_XX L xs) (d + 7) j_X8_lots [.ref m, .int n, .int seed] (MS μ m 0 σ) (if ¬ ((1 ≤ n ∧ n ≤ 20) ∧ (1 ≤ seed ∧ seed ≤ 2147483646)) then (-1, MS μ m 0 σ) else if σ 8 = 0 then (-4, MS μ m 0 σ) else (nI (lotsF m g N l μ σ).1, (lotsF m g N l μ σ).2)) := by
  refine ⟨Nat.le_of_ble_eq_true rfl, ?_⟩
  refine e_2 rfl rfl ?_
  refine e_25 rfl ?_
  refine e_1 rfl ?_
  refine e_1 rfl ?_
  refine e_s3 rfl rfl rfl (Nat.le_of_ble_eq_true rfl) (sm_in n 1 20 (by decide) (by decide)) ?_
  refine e_30b rfl (fun h1 => ?_) (fun h1 => ?_)
  · refine e_0 rfl ?_
    exact e_ri rfl rfl (by first | (simp only [eq_false h1, if_true, if_true, if_false, not_true_eq_false, not_false_eq_true, and_true, true_and, and_false, false_and, or_true, true_or, or_false, false_or, reduceIte]; done) | (simp only [eq_false h1, if_true, if_true, if_false, not_true_eq_false, not_false_eq_true, and_true, true_and, and_false, false_and, or_true, true_or, or_false, false_or, reduceIte]; rfl) | rfl) (by first | (simp only [eq_false h1, if_true, if_true, if_false, not_true_eq_false, not_false_eq_true, and_true, true_and, and_false, false_and, or_true, true_or, or_false, false_or, reduceIte]; done) | (simp only [eq_false h1, if_true, if_true, if_false, not_true_eq_false, not_false_eq_true, and_true, true_and, and_false, false_and, or_true, true_or, or_false, false_or, reduceIte]; rfl) | rfl)
  · refine e_2 rfl rfl ?_
    refine e_25 rfl ?_
    refine e_1 rfl ?_
    refine e_1 rfl ?_
    refine e_s3 rfl rfl rfl (Nat.le_of_ble_eq_true rfl) (sm_in seed 1 2147483646 (by decide) (by decide)) ?_
    refine e_31b rfl (fun h2 => ?_) (fun h2 => ?_)
    · obtain ⟨rfl, hN⟩ := hn h1
      obtain ⟨rfl, hl31⟩ := hl h2
      refine e_4 rfl rfl ?_
      refine m_gangs (by exact hm) rfl rfl ?_
      refine e_31 rfl (fun h3 => ?_) (fun h3 => ?_)
      · refine e_2 rfl rfl ?_
        refine e_25 rfl ?_
        rw [nI_l (by omega)]
        refine e_6 rfl rfl ?_
        refine e_0 rfl ?_
        refine e_5 rfl rfl ?_
        refine e_lv [0, 1, 2, 3, 4] rfl rfl ?_
        simp only [eq_true h1, eq_true h2, eq_false h3, if_true, if_true, if_false, not_true_eq_false, not_false_eq_true, and_true, true_and, and_false, false_and, or_true, true_or, or_false, false_or, reduceIte]
        have h := mt_lots_loop (L := L) (xs := xs) (d := d + 1) (g := g) hN (nI l) N 0 l μ σ (by omega) hm hI (g_pos hI.1 h3) hl31
        rw [Nat.zero_add] at h
        exact h
      · refine e_0 rfl ?_
        exact e_ri rfl rfl (by first | (simp only [eq_true h1, eq_true h2, eq_true h3, if_true, if_true, if_false, not_true_eq_false, not_false_eq_true, and_true, true_and, and_false, false_and, or_true, true_or, or_false, false_or, reduceIte]; done) | (simp only [eq_true h1, eq_true h2, eq_true h3, if_true, if_true, if_false, not_true_eq_false, not_false_eq_true, and_true, true_and, and_false, false_and, or_true, true_or, or_false, false_or, reduceIte]; rfl) | rfl) (by first | (simp only [eq_true h1, eq_true h2, eq_true h3, if_true, if_true, if_false, not_true_eq_false, not_false_eq_true, and_true, true_and, and_false, false_and, or_true, true_or, or_false, false_or, reduceIte]; done) | (simp only [eq_true h1, eq_true h2, eq_true h3, if_true, if_true, if_false, not_true_eq_false, not_false_eq_true, and_true, true_and, and_false, false_and, or_true, true_or, or_false, false_or, reduceIte]; rfl) | rfl)
    · refine e_0 rfl ?_
      exact e_ri rfl rfl (by first | (simp only [eq_true h1, eq_false h2, if_true, if_true, if_false, not_true_eq_false, not_false_eq_true, and_true, true_and, and_false, false_and, or_true, true_or, or_false, false_or, reduceIte]; done) | (simp only [eq_true h1, eq_false h2, if_true, if_true, if_false, not_true_eq_false, not_false_eq_true, and_true, true_and, and_false, false_and, or_true, true_or, or_false, false_or, reduceIte]; rfl) | rfl) (by first | (simp only [eq_true h1, eq_false h2, if_true, if_true, if_false, not_true_eq_false, not_false_eq_true, and_true, true_and, and_false, false_and, or_true, true_or, or_false, false_or, reduceIte]; done) | (simp only [eq_true h1, eq_false h2, if_true, if_true, if_false, not_true_eq_false, not_false_eq_true, and_true, true_and, and_false, false_and, or_true, true_or, or_false, false_or, reduceIte]; rfl) | rfl)
end MQD
