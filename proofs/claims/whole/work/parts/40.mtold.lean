-- ===== what is told of the model's ship =====
def singF (g : Nat) (σ : Nat → Int32) : Int32 := cntN (fun k => isOfF (σ (9 + k)) 2 ∧ ¬ σ (21 + k) < tbF 2 (σ (9 + k))) g
def ofGangF (σ : Nat → Int32) (x : Nat) (what : Int32) : Int32 := if what = 0 then σ (9 + x) else if what = 1 then σ (15 + x) else if what = 2 then σ (21 + x) else if what = 3 then pumpF (σ 6) (σ (9 + x)) (σ (21 + x)) else behF (σ (9 + x)) (σ (21 + x))
def ofShipF (σ : Nat → Int32) (what : Int32) : Int32 := if what = 0 then σ 0 else if what = 1 then leakF σ else if what = 2 then σ 2 else if what = 3 then σ 3 else if what = 4 then σ 7 else if what = 5 then σ 6 else if what = 6 then σ 5 else if what = 7 then σ 4 - σ 5 else b2i (sunkF σ)
def markF (g : Nat) (σ : Nat → Int32) (x : Nat) (kind : Int32) : Int32 := if kind = 1 then σ (21 + x) / 4 else if kind = 2 then (if 0 < σ (21 + x) - 3 then σ (21 + x) - 3 else 0) else if kind = 3 then pumpF (σ 6) 0 (σ (21 + x)) - pumpF (σ 6) (σ (9 + x)) (σ (21 + x)) else if kind = 4 then pumpF (σ 6) 4 0 else singF g σ
def canS (σ : Nat → Int32) : Int32 := bitsN (fun k => canF σ (nI k)) 10
abbrev thereP (μ : ps_M) (m : Nat) (what : Int32) (k : Nat) : Prop := (what = 6 ∧ 0 ≤ ps_i μ (m + 3) k) ∨ (¬ what = 6 ∧ what = 7 ∧ k < 4 ∧ ¬ ps_i μ (m + 5) k < 0) ∨ (¬ what = 6 ∧ ¬ what = 7 ∧ k < 3 ∧ ¬ ps_i μ (m + 1) (458 * (1 + k)) < 0)
def countM (μ : ps_M) (m g : Nat) (σ : Nat → Int32) (what : Int32) : Int32 := if what = 0 then σ 8 else if what = 1 then σ 0 else if what = 2 then σ 5 else if what = 3 then psum (fun k => σ (21 + k)) g else if what = 4 then cntN (fun k => isOfF (σ (9 + k)) 1) g else if what = 5 then cntN (fun k => isOfF (σ (9 + k)) 2) g else cntN (thereP μ m what) 6
theorem cntN_c {p q : Nat → Prop} [DecidablePred p] [DecidablePred q] : ∀ n, (∀ i, i < n → (p i ↔ q i)) → cntN p n = cntN q n
  | 0, _ => rfl
  | n + 1, h => by
    show cntN p n + (if p n then 1 else 0) = cntN q n + (if q n then 1 else 0)
    rw [cntN_c n (fun i hi => h i (by omega))]
    congr 1
    by_cases hp : p n
    · rw [if_pos hp, if_pos ((h n (by omega)).mp hp)]
    · rw [if_neg hp, if_neg (fun z => hp ((h n (by omega)).mpr z))]
theorem bitsN_c {p q : Nat → Prop} [DecidablePred p] [DecidablePred q] : ∀ n, (∀ i, i < n → (p i ↔ q i)) → bitsN p n = bitsN q n
  | 0, _ => rfl
  | n + 1, h => by
    show (if p n then bitsN p n ||| ((1 : Int32) <<< (nI n &&& 31)) else bitsN p n) = (if q n then bitsN q n ||| ((1 : Int32) <<< (nI n &&& 31)) else bitsN q n)
    rw [bitsN_c n (fun i hi => h i (by omega))]
    by_cases hp : p n
    · rw [if_pos hp, if_pos ((h n (by omega)).mp hp)]
    · rw [if_neg hp, if_neg (fun z => hp ((h n (by omega)).mpr z))]
theorem or0 (x : Int32) : x ||| 0 = x := by
  apply Int32.toBitVec_inj.mp
  simp
theorem sng_tb : ∀ k, k < 6 → ∀ s, s < 10 → decide ((nI k = 2 ∨ nI k = 5) ∧ ¬ nI s ≤ 0) = decide (isOfF (nI k) 2 ∧ ¬ nI s < tbF 2 (nI k)) := by decide
theorem m2_tb : ∀ s, s < 10 → (if nI s ≤ 3 then 0 else nI s - 3) = (if 0 < nI s - 3 then nI s - 3 else 0) := by decide
section MQ4
variable {L : Nat} {xs : Nat → Int32} {d : Nat} {μ : ps_M} {m : Nat} {σ : Nat → Int32} {g : Nat}
theorem pumps_ok (hok : shOK g σ) {x : Nat} (hx : x < g) (s c : Int32) : pumpsM (σ (9 + x)) s c = pumpF c (σ (9 + x)) s := by
  obtain ⟨⟨k, hk, ek⟩, -⟩ := hok.2.2 x hx
  rw [ek]; exact pumps_tb hk s c
theorem behind_ok (hok : shOK g σ) {x : Nat} (hx : x < g) : behindM (σ (9 + x)) (σ (21 + x)) = behF (σ (9 + x)) (σ (21 + x)) := by
  obtain ⟨⟨k, hk, ek⟩, s, hs, es⟩ := hok.2.2 x hx
  rw [ek, es]; exact beh_tb k hk s (by omega)
theorem mq_isGang (hm : isMd μ m) (hok : shOK g σ) (a : Int32) : ps_Ev (ps_XX L xs) (d + 2) j_X8_isGang [.ref m, .int a] (MS μ m 0 σ) (some (.int (b2i (hasF σ a)))) (MS μ m 0 σ) := by
  rw [← b2i_c (gang_has hok a)]
  exact mm_isGang hm (by decide) a
theorem mt_pumpsNow (hm : isMd μ m) (hok : shOK g σ) {x : Nat} (hx : x < g) : ps_Ev (ps_XX L xs) (d + 4) j_X8_pumpsNow [.ref m, .int (nI x)] (MS μ m 0 σ) (some (.int (pumpF (σ 6) (σ (9 + x)) (σ (21 + x))))) (MS μ m 0 σ) := by
  refine ⟨Nat.le_of_ble_eq_true rfl, ?_⟩
  have hg := hok.1
  have h8 := hok.2.1
  refine e_4 rfl rfl ?_
  refine e_gr rfl hm.1 rfl hm.2.2.2.2.2.2.2.2.2.2.1 ?_
  refine e_2 rfl rfl ?_
  refine m_k_ld (i := x) (by exact hm) (by first | rfl | (simp only [← nI_add, ← pk_mul]; rfl) | (simp only [nI_add, pk_mul, nI_1]; done)) (by omega) rfl ?_
  refine e_4 rfl rfl ?_
  refine e_gr rfl hm.1 rfl hm.2.2.2.2.2.2.2.2.2.1 ?_
  refine e_0 rfl ?_
  refine e_2 rfl rfl ?_
  refine e_9 rfl ?_
  refine m_ald (k := (6 + x)) (x := 21 + x) (by exact hm) (by omega) (by first | rfl | (simp only [← nI_add, ← pk_mul, Nat.zero_add]; rfl)) (by omega) (by first | rfl | (rw [mdX_lo (by omega) (by omega)]; omega) | (rw [mdX_hi (by omega)]; omega)) rfl ?_
  refine e_4 rfl rfl ?_
  refine e_gr rfl hm.1 rfl hm.2.2.2.2.2.2.2.2.2.1 ?_
  refine e_0 rfl ?_
  refine m_ald (k := 5) (x := 6) (by exact hm) (by omega) (by first | rfl | (simp only [← nI_add, ← pk_mul, Nat.zero_add]; rfl)) (by omega) (by first | rfl | (rw [mdX_lo (by omega) (by omega)]; omega) | (rw [mdX_hi (by omega)]; omega)) rfl ?_
  refine e_s3 rfl rfl rfl (Nat.le_of_ble_eq_true rfl) (sm_pumps _ _ _) ?_
  exact e_ri rfl rfl (by exact pumps_ok hok hx _ _) (rfl)
theorem mt_toldOf (hm : isMd μ m) (hok : shOK g σ) {x : Nat} (hx : x < g) (what : Int32) : ps_Ev (ps_XX L xs) (d + 5) j_X8_toldOf [.ref m, .int (nI x), .int what] (MS μ m 0 σ) (some (.int (ofGangF σ x what))) (MS μ m 0 σ) := by
  refine ⟨Nat.le_of_ble_eq_true rfl, ?_⟩
  have hg := hok.1
  have h8 := hok.2.1
  refine e_2 rfl rfl ?_
  refine e_sw rfl rfl (fun h1 => ?_) (fun k t ht h1 => ?_)
  · have h1n0 : ¬ what = 0 := fun q => by subst q; revert h1; decide
    have h1n1 : ¬ what = 1 := fun q => by subst q; revert h1; decide
    have h1n2 : ¬ what = 2 := fun q => by subst q; revert h1; decide
    have h1n3 : ¬ what = 3 := fun q => by subst q; revert h1; decide
    refine e_4 rfl rfl ?_
    refine e_gr rfl hm.1 rfl hm.2.2.2.2.2.2.2.2.2.2.1 ?_
    refine e_2 rfl rfl ?_
    refine m_k_ld (i := x) (by exact hm) (by first | rfl | (simp only [← nI_add, ← pk_mul]; rfl) | (simp only [nI_add, pk_mul, nI_1]; done)) (by omega) rfl ?_
    refine e_4 rfl rfl ?_
    refine e_gr rfl hm.1 rfl hm.2.2.2.2.2.2.2.2.2.1 ?_
    refine e_0 rfl ?_
    refine e_2 rfl rfl ?_
    refine e_9 rfl ?_
    refine m_ald (k := (6 + x)) (x := 21 + x) (by exact hm) (by omega) (by first | rfl | (simp only [← nI_add, ← pk_mul, Nat.zero_add]; rfl)) (by omega) (by first | rfl | (rw [mdX_lo (by omega) (by omega)]; omega) | (rw [mdX_hi (by omega)]; omega)) rfl ?_
    refine e_s2 rfl rfl rfl (Nat.le_of_ble_eq_true rfl) (sm_behind _ _) ?_
    exact e_ri rfl rfl (by unfold ofGangF; first | rfl | (rw [if_neg h1n0, if_neg h1n1, if_neg h1n2, if_neg h1n3]; exact behind_ok hok hx)) (rfl)
  · match k, ht with
    | 0, ht =>
      cases ht
      obtain rfl : what = 0 := Int32.toInt_inj.mp (h1.trans rfl)
      refine e_4 rfl rfl ?_
      refine e_gr rfl hm.1 rfl hm.2.2.2.2.2.2.2.2.2.2.1 ?_
      refine e_2 rfl rfl ?_
      refine m_k_ld (i := x) (by exact hm) (by first | rfl | (simp only [← nI_add, ← pk_mul]; rfl) | (simp only [nI_add, pk_mul, nI_1]; done)) (by omega) rfl ?_
      exact e_ri rfl rfl (by unfold ofGangF; first | rfl | (rw [if_neg h1n0, if_neg h1n1, if_neg h1n2, if_neg h1n3]; exact behind_ok hok hx)) (rfl)
    | 1, ht =>
      cases ht
      obtain rfl : what = 1 := Int32.toInt_inj.mp (h1.trans rfl)
      refine e_4 rfl rfl ?_
      refine e_gr rfl hm.1 rfl hm.2.2.2.2.2.2.2.2.2.1 ?_
      refine e_0 rfl ?_
      refine e_2 rfl rfl ?_
      refine e_9 rfl ?_
      refine m_ald (k := (12 + x)) (x := 15 + x) (by exact hm) (by omega) (by first | rfl | (simp only [← nI_add, ← pk_mul, Nat.zero_add]; rfl)) (by omega) (by first | rfl | (rw [mdX_lo (by omega) (by omega)]; omega) | (rw [mdX_hi (by omega)]; omega)) rfl ?_
      exact e_ri rfl rfl (by unfold ofGangF; first | rfl | (rw [if_neg h1n0, if_neg h1n1, if_neg h1n2, if_neg h1n3]; exact behind_ok hok hx)) (rfl)
    | 2, ht =>
      cases ht
      obtain rfl : what = 2 := Int32.toInt_inj.mp (h1.trans rfl)
      refine e_4 rfl rfl ?_
      refine e_gr rfl hm.1 rfl hm.2.2.2.2.2.2.2.2.2.1 ?_
      refine e_0 rfl ?_
      refine e_2 rfl rfl ?_
      refine e_9 rfl ?_
      refine m_ald (k := (6 + x)) (x := 21 + x) (by exact hm) (by omega) (by first | rfl | (simp only [← nI_add, ← pk_mul, Nat.zero_add]; rfl)) (by omega) (by first | rfl | (rw [mdX_lo (by omega) (by omega)]; omega) | (rw [mdX_hi (by omega)]; omega)) rfl ?_
      exact e_ri rfl rfl (by unfold ofGangF; first | rfl | (rw [if_neg h1n0, if_neg h1n1, if_neg h1n2, if_neg h1n3]; exact behind_ok hok hx)) (rfl)
    | 3, ht =>
      cases ht
      obtain rfl : what = 3 := Int32.toInt_inj.mp (h1.trans rfl)
      refine e_4 rfl rfl ?_
      refine e_2 rfl rfl ?_
      refine e_v1 rfl (by first | exact hm.1 | assumption | rfl) rfl (by decide) rfl (Nat.le_of_ble_eq_true rfl) (mt_pumpsNow hm hok hx) ?_
      exact e_ri rfl rfl (by unfold ofGangF; first | rfl | (rw [if_neg h1n0, if_neg h1n1, if_neg h1n2, if_neg h1n3]; exact behind_ok hok hx)) (rfl)
    | k + 4, ht => cases ht
theorem mq_gang (hm : isMd μ m) (hok : shOK g σ) {i : Int32} {x : Nat} (hx : hasF σ i → i = nI x ∧ x < g) (what : Int32) : evI (ps_XX L xs) (d + 6) j_X8_gang [.ref m, .int i, .int what] (MS μ m 0 σ) (if hasF σ i ∧ 0 ≤ what ∧ what ≤ 4 then (1, MS (ps_sI μ m 9 (ofGangF σ x what)) m 0 σ) else (-1, MS μ m 0 σ)) := by
  refine ⟨Nat.le_of_ble_eq_true rfl, ?_⟩
  have hg := hok.1
  have h8 := hok.2.1
  refine e_4 rfl rfl ?_
  refine e_2 rfl rfl ?_
  refine e_v1 rfl (by first | exact hm.1 | assumption | rfl) rfl (by decide) rfl (Nat.le_of_ble_eq_true rfl) (mq_isGang hm hok _) ?_
  refine e_30b rfl (fun h1 => ?_) (fun h1 => ?_)
  · refine e_0 rfl ?_
    exact e_ri rfl rfl (by first | (simp only [eq_false h1, if_true, if_true, if_false, not_true_eq_false, not_false_eq_true, and_true, true_and, and_false, false_and, or_true, true_or, or_false, false_or, reduceIte]; done) | (simp only [eq_false h1, if_true, if_true, if_false, not_true_eq_false, not_false_eq_true, and_true, true_and, and_false, false_and, or_true, true_or, or_false, false_or, reduceIte]; rfl) | rfl) (by simp only [eq_false h1, if_true, if_true, if_false, not_true_eq_false, not_false_eq_true, and_true, true_and, and_false, false_and, or_true, true_or, or_false, false_or, reduceIte]; first | done | rfl | exact MS_sIm (by decide) (by decide) (by decide))
  · refine e_2 rfl rfl ?_
    refine e_25 rfl ?_
    refine e_1 rfl ?_
    refine e_1 rfl ?_
    refine e_s3 rfl rfl rfl (Nat.le_of_ble_eq_true rfl) (sm_in what 0 4 (by decide) (by decide)) ?_
    refine e_30b rfl (fun h2 => ?_) (fun h2 => ?_)
    · refine e_0 rfl ?_
      exact e_ri rfl rfl (by first | (simp only [eq_true h1, eq_false h2, if_true, if_true, if_false, not_true_eq_false, not_false_eq_true, and_true, true_and, and_false, false_and, or_true, true_or, or_false, false_or, reduceIte]; done) | (simp only [eq_true h1, eq_false h2, if_true, if_true, if_false, not_true_eq_false, not_false_eq_true, and_true, true_and, and_false, false_and, or_true, true_or, or_false, false_or, reduceIte]; rfl) | rfl) (by simp only [eq_true h1, eq_false h2, if_true, if_true, if_false, not_true_eq_false, not_false_eq_true, and_true, true_and, and_false, false_and, or_true, true_or, or_false, false_or, reduceIte]; first | done | rfl | exact MS_sIm (by decide) (by decide) (by decide))
    · obtain ⟨rfl, hxg⟩ := hx h1
      refine e_4 rfl rfl ?_
      refine e_4 rfl rfl ?_
      refine e_2 rfl rfl ?_
      refine e_2 rfl rfl ?_
      refine e_v2 rfl (by first | exact hm.1 | assumption | rfl) rfl (by decide) rfl (Nat.le_of_ble_eq_true rfl) (mt_toldOf hm hok hxg what) ?_
      refine e_v1 rfl (by first | exact hm.1 | assumption | rfl) rfl (by decide) rfl (Nat.le_of_ble_eq_true rfl) (evo (mq_told (μ := MS μ m 0 σ) hm _)) ?_
      refine e_42 rfl ?_
      exact e_ri rfl rfl (by first | (simp only [eq_true h1, eq_true h2, if_true, if_true, if_false, not_true_eq_false, not_false_eq_true, and_true, true_and, and_false, false_and, or_true, true_or, or_false, false_or, reduceIte]; done) | (simp only [eq_true h1, eq_true h2, if_true, if_true, if_false, not_true_eq_false, not_false_eq_true, and_true, true_and, and_false, false_and, or_true, true_or, or_false, false_or, reduceIte]; rfl) | rfl) (by simp only [eq_true h1, eq_true h2, if_true, if_true, if_false, not_true_eq_false, not_false_eq_true, and_true, true_and, and_false, false_and, or_true, true_or, or_false, false_or, reduceIte]; first | done | rfl | exact MS_sIm (by decide) (by decide) (by decide))
theorem mt_isOf (hm : isMd μ m) (hok : shOK g σ) {x : Nat} (hx : x < g) (kind : Int32) : ps_Ev (ps_XX L xs) (d + 1) j_X8_isOf [.ref m, .int (nI x), .int kind] (MS μ m 0 σ) (some (.int (b2i (isOfF (σ (9 + x)) kind)))) (MS μ m 0 σ) := by
  refine ⟨Nat.le_of_ble_eq_true rfl, ?_⟩
  have hg := hok.1
  have h8 := hok.2.1
  refine e_4 rfl rfl ?_
  refine e_gr rfl hm.1 rfl hm.2.2.2.2.2.2.2.2.2.2.1 ?_
  refine e_2 rfl rfl ?_
  refine m_k_ld (i := x) (by exact hm) (by first | rfl | (simp only [← nI_add, ← pk_mul]; rfl) | (simp only [nI_add, pk_mul, nI_1]; done)) (by omega) rfl ?_
  refine e_2 rfl rfl ?_
  refine e_36 rfl (fun h1 => ?_) (fun h1 => ?_)
  · refine e_0 rfl ?_
    refine e_42 rfl ?_
    exact e_rz rfl rfl (by first | decide | exact b2i_01 | assumption) (by first | rfl | (unfold b2i; grind) | grind [b2i]) (rfl)
  · refine e_2 rfl rfl ?_
    refine e_0 rfl ?_
    refine e_37 rfl (fun h2 => ?_) (fun h2 => ?_)
    · refine e_2 rfl rfl ?_
      refine e_0 rfl ?_
      refine e_37 rfl (fun h3 => ?_) (fun h3 => ?_)
      · refine e_0 rfl ?_
        exact e_rz rfl rfl (by first | decide | exact b2i_01 | assumption) (by first | rfl | (unfold b2i; grind) | grind [b2i]) (rfl)
      · refine e_4 rfl rfl ?_
        refine e_gr rfl hm.1 rfl hm.2.2.2.2.2.2.2.2.2.2.1 ?_
        refine e_2 rfl rfl ?_
        refine m_k_ld (i := x) (by exact hm) (by first | rfl | (simp only [← nI_add, ← pk_mul]; rfl) | (simp only [nI_add, pk_mul, nI_1]; done)) (by omega) rfl ?_
        refine e_0 rfl ?_
        refine e_37 rfl (fun h4 => ?_) (fun h4 => ?_)
        · refine e_0 rfl ?_
          exact e_rz rfl rfl (by first | decide | exact b2i_01 | assumption) (by first | rfl | (unfold b2i; grind) | grind [b2i]) (rfl)
        · refine e_0 rfl ?_
          refine e_42 rfl ?_
          exact e_rz rfl rfl (by first | decide | exact b2i_01 | assumption) (by first | rfl | (unfold b2i; grind) | grind [b2i]) (rfl)
    · refine e_4 rfl rfl ?_
      refine e_gr rfl hm.1 rfl hm.2.2.2.2.2.2.2.2.2.2.1 ?_
      refine e_2 rfl rfl ?_
      refine m_k_ld (i := x) (by exact hm) (by first | rfl | (simp only [← nI_add, ← pk_mul]; rfl) | (simp only [nI_add, pk_mul, nI_1]; done)) (by omega) rfl ?_
      refine e_0 rfl ?_
      refine e_36 rfl (fun h5 => ?_) (fun h5 => ?_)
      · refine e_0 rfl ?_
        refine e_42 rfl ?_
        exact e_rz rfl rfl (by first | decide | exact b2i_01 | assumption) (by first | rfl | (unfold b2i; grind) | grind [b2i]) (rfl)
      · refine e_2 rfl rfl ?_
        refine e_0 rfl ?_
        refine e_37 rfl (fun h6 => ?_) (fun h6 => ?_)
        · refine e_0 rfl ?_
          exact e_rz rfl rfl (by first | decide | exact b2i_01 | assumption) (by first | rfl | (unfold b2i; grind) | grind [b2i]) (rfl)
        · refine e_4 rfl rfl ?_
          refine e_gr rfl hm.1 rfl hm.2.2.2.2.2.2.2.2.2.2.1 ?_
          refine e_2 rfl rfl ?_
          refine m_k_ld (i := x) (by exact hm) (by first | rfl | (simp only [← nI_add, ← pk_mul]; rfl) | (simp only [nI_add, pk_mul, nI_1]; done)) (by omega) rfl ?_
          refine e_0 rfl ?_
          refine e_37 rfl (fun h7 => ?_) (fun h7 => ?_)
          · refine e_0 rfl ?_
            exact e_rz rfl rfl (by first | decide | exact b2i_01 | assumption) (by first | rfl | (unfold b2i; grind) | grind [b2i]) (rfl)
          · refine e_0 rfl ?_
            refine e_42 rfl ?_
            exact e_rz rfl rfl (by first | decide | exact b2i_01 | assumption) (by first | rfl | (unfold b2i; grind) | grind [b2i]) (rfl)
theorem mt_singing_loop (hm : isMd μ m) (hok : shOK g σ) : ∀ (n i : Nat), i + n = g → ps_To (ps_XX L xs) (ps_Ev (ps_XX L xs) (d + 1)) j_X8_singing (ps_rt j_X8_singing (some (.int (cntN (fun k => (σ (9 + k) = 2 ∨ σ (9 + k) = 5) ∧ ¬ σ (21 + k) ≤ 0) g))) (MS μ m 0 σ)) (4, [(2, .int (nI i)), (1, .int (cntN (fun k => (σ (9 + k) = 2 ∨ σ (9 + k) = 5) ∧ ¬ σ (21 + k) ≤ 0) i)), (0, .ref (m))], [], MS μ m 0 σ) := by
  intro n
  induction n with
  | zero =>
    intro i hi
    obtain rfl : i = g := by omega
    have hg := hok.1
    have h8 := hok.2.1
    refine e_2 rfl rfl ?_
    refine e_4 rfl rfl ?_
    refine m_gangs (by exact hm) rfl rfl ?_
    rw [h8]
    refine e_39 rfl (fun h1 => ?_) (fun h1 => ?_)
    · refine e_2 rfl rfl ?_
      exact e_ri rfl rfl (by rfl) (rfl)
    · exact absurd (nI_le (Nat.le_refl _) (by omega)) h1
  | succ n ih =>
    intro i hi
    have hg := hok.1
    have h8 := hok.2.1
    refine e_2 rfl rfl ?_
    refine e_4 rfl rfl ?_
    refine m_gangs (by exact hm) rfl rfl ?_
    rw [h8]
    refine e_39 rfl (fun h1 => ?_) (fun h1 => ?_)
    · exact absurd h1 (nI_ge (by omega) (by omega))
    · refine e_2 rfl rfl ?_
      refine e_4 rfl rfl ?_
      refine e_gr rfl hm.1 rfl hm.2.2.2.2.2.2.2.2.2.2.1 ?_
      refine e_2 rfl rfl ?_
      refine m_k_ld (i := i) (by exact hm) (by first | rfl | (simp only [← nI_add, ← pk_mul]; rfl) | (simp only [nI_add, pk_mul, nI_1]; done)) (by omega) rfl ?_
      refine e_s1 rfl rfl rfl (Nat.le_of_ble_eq_true rfl) (sm_isSung _) ?_
      refine e_30b rfl (fun h2 => ?_) (fun h2 => ?_)
      · refine e_0 rfl ?_
        refine e_9 rfl ?_
        refine e_5 rfl rfl ?_
        refine e_8 rfl rfl rfl ?_
        refine e_42 rfl ?_
        refine e_lv [0, 1, 2] rfl rfl ?_
        show ps_To _ _ _ _ (4, [(2, .int _), (1, .int _), (0, .ref _)], [], _)
        have e : cntN (fun k => (σ (9 + k) = 2 ∨ σ (9 + k) = 5) ∧ ¬ σ (21 + k) ≤ 0) (i + 1) = cntN (fun k => (σ (9 + k) = 2 ∨ σ (9 + k) = 5) ∧ ¬ σ (21 + k) ≤ 0) i + 0 := congrArg (cntN (fun k => (σ (9 + k) = 2 ∨ σ (9 + k) = 5) ∧ ¬ σ (21 + k) ≤ 0) i + ·) (if_neg (fun z => h2 z.1))
        rw [nI_1, ← e]
        exact ih (i + 1) (by omega)
      · refine e_4 rfl rfl ?_
        refine e_gr rfl hm.1 rfl hm.2.2.2.2.2.2.2.2.2.1 ?_
        refine e_0 rfl ?_
        refine e_2 rfl rfl ?_
        refine e_9 rfl ?_
        refine m_ald (k := (6 + i)) (x := 21 + i) (by exact hm) (by omega) (by first | rfl | (simp only [← nI_add, ← pk_mul, Nat.zero_add]; rfl)) (by omega) (by first | rfl | (rw [mdX_lo (by omega) (by omega)]; omega) | (rw [mdX_hi (by omega)]; omega)) rfl ?_
        refine e_35 rfl (fun h3 => ?_) (fun h3 => ?_)
        · refine e_0 rfl ?_
          refine e_9 rfl ?_
          refine e_5 rfl rfl ?_
          refine e_8 rfl rfl rfl ?_
          refine e_42 rfl ?_
          refine e_lv [0, 1, 2] rfl rfl ?_
          show ps_To _ _ _ _ (4, [(2, .int _), (1, .int _), (0, .ref _)], [], _)
          have e : cntN (fun k => (σ (9 + k) = 2 ∨ σ (9 + k) = 5) ∧ ¬ σ (21 + k) ≤ 0) (i + 1) = cntN (fun k => (σ (9 + k) = 2 ∨ σ (9 + k) = 5) ∧ ¬ σ (21 + k) ≤ 0) i + 0 := congrArg (cntN (fun k => (σ (9 + k) = 2 ∨ σ (9 + k) = 5) ∧ ¬ σ (21 + k) ≤ 0) i + ·) (if_neg (fun z => z.2 h3))
          rw [nI_1, ← e]
          exact ih (i + 1) (by omega)
        · refine e_0 rfl ?_
          refine e_42 rfl ?_
          refine e_9 rfl ?_
          refine e_5 rfl rfl ?_
          refine e_8 rfl rfl rfl ?_
          refine e_42 rfl ?_
          refine e_lv [0, 1, 2] rfl rfl ?_
          show ps_To _ _ _ _ (4, [(2, .int _), (1, .int _), (0, .ref _)], [], _)
          have e : cntN (fun k => (σ (9 + k) = 2 ∨ σ (9 + k) = 5) ∧ ¬ σ (21 + k) ≤ 0) (i + 1) = cntN (fun k => (σ (9 + k) = 2 ∨ σ (9 + k) = 5) ∧ ¬ σ (21 + k) ≤ 0) i + 1 := congrArg (cntN (fun k => (σ (9 + k) = 2 ∨ σ (9 + k) = 5) ∧ ¬ σ (21 + k) ≤ 0) i + ·) (if_pos ⟨h2, h3⟩)
          rw [nI_1, ← e]
          exact ih (i + 1) (by omega)
theorem sng_ok (hok : shOK g σ) : cntN (fun k => (σ (9 + k) = 2 ∨ σ (9 + k) = 5) ∧ ¬ σ (21 + k) ≤ 0) g = singF g σ := by
  refine cntN_c g (fun i hi => ?_)
  obtain ⟨⟨k, hk, ek⟩, s, hs, es⟩ := hok.2.2 i hi
  rw [ek, es]
  exact decide_eq_decide.mp (sng_tb k hk s (by omega))
theorem mt_singing (hm : isMd μ m) (hok : shOK g σ) : ps_Ev (ps_XX L xs) (d + 2) j_X8_singing [.ref m] (MS μ m 0 σ) (some (.int (singF g σ))) (MS μ m 0 σ) := by
  refine ⟨Nat.le_of_ble_eq_true rfl, ?_⟩
  have hg := hok.1
  have h8 := hok.2.1
  refine e_0 rfl ?_
  refine e_5 rfl rfl ?_
  refine e_0 rfl ?_
  refine e_5 rfl rfl ?_
  rw [← sng_ok hok]
  exact mt_singing_loop hm hok g 0 (by omega)
theorem mq_mark (hm : isMd μ m) (hok : shOK g σ) {i : Int32} {x : Nat} (hx : hasF σ i → i = nI x ∧ x < g) (kind : Int32) : evI (ps_XX L xs) (d + 5) j_X8_mark [.ref m, .int i, .int kind] (MS μ m 0 σ) (if ¬ (hasF σ i ∧ 1 ≤ kind ∧ kind ≤ 5) then (-1, MS μ m 0 σ) else if ¬ isOfF (σ (9 + x)) kind then (-3, FM (MS μ m 0 σ) m 3) else (markF g σ x kind, MS μ m 0 σ)) := by
  refine ⟨Nat.le_of_ble_eq_true rfl, ?_⟩
  have hg := hok.1
  have h8 := hok.2.1
  refine e_4 rfl rfl ?_
  refine e_2 rfl rfl ?_
  refine e_v1 rfl (by first | exact hm.1 | assumption | rfl) rfl (by decide) rfl (Nat.le_of_ble_eq_true rfl) (mq_isGang hm hok _) ?_
  refine e_30b rfl (fun h1 => ?_) (fun h1 => ?_)
  · refine e_0 rfl ?_
    exact e_ri rfl rfl (by simp only [eq_false h1, if_true, if_true, if_false, not_true_eq_false, not_false_eq_true, and_true, true_and, and_false, false_and, or_true, true_or, or_false, false_or, reduceIte]; first | done | rfl | (unfold markF; rw [if_neg h4n1, if_neg h4n2, if_neg h4n3, if_neg h4n4]) | (show _ = (if 0 < σ (21 + x) - 3 then σ (21 + x) - 3 else 0); rw [ess]; have e := m2_tb ss (by omega); rw [ess] at h5; (first | rw [if_pos h5] at e | rw [if_neg h5] at e); exact e) | (show _ = pumpF (σ 6) 0 (σ (21 + x)) - _; rw [show pumpsM 0 (σ (21 + x)) (σ 6) = pumpF (σ 6) 0 (σ (21 + x)) from pumps_tb (k := 0) (by decide) _ _]) | (show _ = pumpF (σ 6) 4 0; exact pumps_tb (k := 4) (by decide) _ _)) (by simp only [eq_false h1, if_true, if_true, if_false, not_true_eq_false, not_false_eq_true, and_true, true_and, and_false, false_and, or_true, true_or, or_false, false_or, reduceIte]; first | done | rfl)
  · refine e_2 rfl rfl ?_
    refine e_25 rfl ?_
    refine e_1 rfl ?_
    refine e_1 rfl ?_
    refine e_s3 rfl rfl rfl (Nat.le_of_ble_eq_true rfl) (sm_in kind 1 5 (by decide) (by decide)) ?_
    refine e_31b rfl (fun h2 => ?_) (fun h2 => ?_)
    · obtain ⟨rfl, hxg⟩ := hx h1
      obtain ⟨⟨kk, hkk, ekk⟩, ss, hss, ess⟩ := hok.2.2 x hxg
      refine e_4 rfl rfl ?_
      refine e_2 rfl rfl ?_
      refine e_2 rfl rfl ?_
      refine e_v2 rfl (by first | exact hm.1 | assumption | rfl) rfl (by decide) rfl (Nat.le_of_ble_eq_true rfl) (mt_isOf hm hok hxg _) ?_
      refine e_31b rfl (fun h3 => ?_) (fun h3 => ?_)
      · refine e_4 rfl rfl ?_
        refine e_gr rfl hm.1 rfl hm.2.2.2.2.2.2.2.2.2.1 ?_
        refine e_0 rfl ?_
        refine e_2 rfl rfl ?_
        refine e_9 rfl ?_
        refine m_ald (k := (6 + x)) (x := 21 + x) (by exact hm) (by omega) (by first | rfl | (simp only [← nI_add, ← pk_mul, Nat.zero_add]; rfl)) (by omega) (by first | rfl | (rw [mdX_lo (by omega) (by omega)]; omega) | (rw [mdX_hi (by omega)]; omega)) rfl ?_
        refine e_5 rfl rfl ?_
        refine e_2 rfl rfl ?_
        refine e_sw rfl rfl (fun h4 => ?_) (fun k t ht h4 => ?_)
        · have h4n1 : ¬ kind = 1 := fun q => by subst q; revert h4; decide
          have h4n2 : ¬ kind = 2 := fun q => by subst q; revert h4; decide
          have h4n3 : ¬ kind = 3 := fun q => by subst q; revert h4; decide
          have h4n4 : ¬ kind = 4 := fun q => by subst q; revert h4; decide
          refine e_4 rfl rfl ?_
          refine e_v0 rfl (by first | exact hm.1 | assumption | rfl) rfl (by decide) rfl (Nat.le_of_ble_eq_true rfl) (mt_singing hm hok) ?_
          exact e_ri rfl rfl (by simp only [eq_true h1, eq_true h2, eq_true h3, if_true, if_true, if_false, not_true_eq_false, not_false_eq_true, and_true, true_and, and_false, false_and, or_true, true_or, or_false, false_or, reduceIte]; first | done | rfl | (unfold markF; rw [if_neg h4n1, if_neg h4n2, if_neg h4n3, if_neg h4n4]) | (show _ = (if 0 < σ (21 + x) - 3 then σ (21 + x) - 3 else 0); rw [ess]; have e := m2_tb ss (by omega); rw [ess] at h5; (first | rw [if_pos h5] at e | rw [if_neg h5] at e); exact e) | (show _ = pumpF (σ 6) 0 (σ (21 + x)) - _; rw [show pumpsM 0 (σ (21 + x)) (σ 6) = pumpF (σ 6) 0 (σ (21 + x)) from pumps_tb (k := 0) (by decide) _ _]) | (show _ = pumpF (σ 6) 4 0; exact pumps_tb (k := 4) (by decide) _ _)) (by simp only [eq_true h1, eq_true h2, eq_true h3, if_true, if_true, if_false, not_true_eq_false, not_false_eq_true, and_true, true_and, and_false, false_and, or_true, true_or, or_false, false_or, reduceIte]; first | done | rfl)
        · match k, ht with
          | 0, ht =>
            cases ht
            obtain rfl : kind = 1 := Int32.toInt_inj.mp (h4.trans rfl)
            refine e_2 rfl rfl ?_
            refine e_0 rfl ?_
            refine e_17 rfl (by first | decide | assumption) ?_
            exact e_ri rfl rfl (by simp only [eq_true h1, eq_true h2, eq_true h3, if_true, if_true, if_false, not_true_eq_false, not_false_eq_true, and_true, true_and, and_false, false_and, or_true, true_or, or_false, false_or, reduceIte]; first | done | rfl | (unfold markF; rw [if_neg h4n1, if_neg h4n2, if_neg h4n3, if_neg h4n4]) | (show _ = (if 0 < σ (21 + x) - 3 then σ (21 + x) - 3 else 0); rw [ess]; have e := m2_tb ss (by omega); rw [ess] at h5; (first | rw [if_pos h5] at e | rw [if_neg h5] at e); exact e) | (show _ = pumpF (σ 6) 0 (σ (21 + x)) - _; rw [show pumpsM 0 (σ (21 + x)) (σ 6) = pumpF (σ 6) 0 (σ (21 + x)) from pumps_tb (k := 0) (by decide) _ _]) | (show _ = pumpF (σ 6) 4 0; exact pumps_tb (k := 4) (by decide) _ _)) (by simp only [eq_true h1, eq_true h2, eq_true h3, if_true, if_true, if_false, not_true_eq_false, not_false_eq_true, and_true, true_and, and_false, false_and, or_true, true_or, or_false, false_or, reduceIte]; first | done | rfl)
          | 1, ht =>
            cases ht
            obtain rfl : kind = 2 := Int32.toInt_inj.mp (h4.trans rfl)
            refine e_2 rfl rfl ?_
            refine e_0 rfl ?_
            refine e_41 rfl (fun h5 => ?_) (fun h5 => ?_)
            · refine e_0 rfl ?_
              exact e_ri rfl rfl (by simp only [eq_true h1, eq_true h2, eq_true h3, eq_true h5, if_true, if_true, if_false, not_true_eq_false, not_false_eq_true, and_true, true_and, and_false, false_and, or_true, true_or, or_false, false_or, reduceIte]; first | done | rfl | (unfold markF; rw [if_neg h4n1, if_neg h4n2, if_neg h4n3, if_neg h4n4]) | (show _ = (if 0 < σ (21 + x) - 3 then σ (21 + x) - 3 else 0); rw [ess]; have e := m2_tb ss (by omega); rw [ess] at h5; (first | rw [if_pos h5] at e | rw [if_neg h5] at e); exact e) | (show _ = pumpF (σ 6) 0 (σ (21 + x)) - _; rw [show pumpsM 0 (σ (21 + x)) (σ 6) = pumpF (σ 6) 0 (σ (21 + x)) from pumps_tb (k := 0) (by decide) _ _]) | (show _ = pumpF (σ 6) 4 0; exact pumps_tb (k := 4) (by decide) _ _)) (by simp only [eq_true h1, eq_true h2, eq_true h3, eq_true h5, if_true, if_true, if_false, not_true_eq_false, not_false_eq_true, and_true, true_and, and_false, false_and, or_true, true_or, or_false, false_or, reduceIte]; first | done | rfl)
            · refine e_2 rfl rfl ?_
              refine e_0 rfl ?_
              refine e_10 rfl ?_
              refine e_42 rfl ?_
              exact e_ri rfl rfl (by simp only [eq_true h1, eq_true h2, eq_true h3, eq_false h5, if_true, if_true, if_false, not_true_eq_false, not_false_eq_true, and_true, true_and, and_false, false_and, or_true, true_or, or_false, false_or, reduceIte]; first | done | rfl | (unfold markF; rw [if_neg h4n1, if_neg h4n2, if_neg h4n3, if_neg h4n4]) | (show _ = (if 0 < σ (21 + x) - 3 then σ (21 + x) - 3 else 0); rw [ess]; have e := m2_tb ss (by omega); rw [ess] at h5; (first | rw [if_pos h5] at e | rw [if_neg h5] at e); exact e) | (show _ = pumpF (σ 6) 0 (σ (21 + x)) - _; rw [show pumpsM 0 (σ (21 + x)) (σ 6) = pumpF (σ 6) 0 (σ (21 + x)) from pumps_tb (k := 0) (by decide) _ _]) | (show _ = pumpF (σ 6) 4 0; exact pumps_tb (k := 4) (by decide) _ _)) (by simp only [eq_true h1, eq_true h2, eq_true h3, eq_false h5, if_true, if_true, if_false, not_true_eq_false, not_false_eq_true, and_true, true_and, and_false, false_and, or_true, true_or, or_false, false_or, reduceIte]; first | done | rfl)
          | 2, ht =>
            cases ht
            obtain rfl : kind = 3 := Int32.toInt_inj.mp (h4.trans rfl)
            refine e_0 rfl ?_
            refine e_2 rfl rfl ?_
            refine e_4 rfl rfl ?_
            refine e_gr rfl hm.1 rfl hm.2.2.2.2.2.2.2.2.2.1 ?_
            refine e_0 rfl ?_
            refine m_ald (k := 5) (x := 6) (by exact hm) (by omega) (by first | rfl | (simp only [← nI_add, ← pk_mul, Nat.zero_add]; rfl)) (by omega) (by first | rfl | (rw [mdX_lo (by omega) (by omega)]; omega) | (rw [mdX_hi (by omega)]; omega)) rfl ?_
            refine e_s3 rfl rfl rfl (Nat.le_of_ble_eq_true rfl) (sm_pumps _ _ _) ?_
            refine e_4 rfl rfl ?_
            refine e_2 rfl rfl ?_
            refine e_v1 rfl (by first | exact hm.1 | assumption | rfl) rfl (by decide) rfl (Nat.le_of_ble_eq_true rfl) (mt_pumpsNow hm hok hxg) ?_
            refine e_10 rfl ?_
            exact e_ri rfl rfl (by simp only [eq_true h1, eq_true h2, eq_true h3, if_true, if_true, if_false, not_true_eq_false, not_false_eq_true, and_true, true_and, and_false, false_and, or_true, true_or, or_false, false_or, reduceIte]; first | done | rfl | (unfold markF; rw [if_neg h4n1, if_neg h4n2, if_neg h4n3, if_neg h4n4]) | (show _ = (if 0 < σ (21 + x) - 3 then σ (21 + x) - 3 else 0); rw [ess]; have e := m2_tb ss (by omega); rw [ess] at h5; (first | rw [if_pos h5] at e | rw [if_neg h5] at e); exact e) | (show _ = pumpF (σ 6) 0 (σ (21 + x)) - _; rw [show pumpsM 0 (σ (21 + x)) (σ 6) = pumpF (σ 6) 0 (σ (21 + x)) from pumps_tb (k := 0) (by decide) _ _]) | (show _ = pumpF (σ 6) 4 0; exact pumps_tb (k := 4) (by decide) _ _)) (by simp only [eq_true h1, eq_true h2, eq_true h3, if_true, if_true, if_false, not_true_eq_false, not_false_eq_true, and_true, true_and, and_false, false_and, or_true, true_or, or_false, false_or, reduceIte]; first | done | rfl)
          | 3, ht =>
            cases ht
            obtain rfl : kind = 4 := Int32.toInt_inj.mp (h4.trans rfl)
            refine e_0 rfl ?_
            refine e_0 rfl ?_
            refine e_4 rfl rfl ?_
            refine e_gr rfl hm.1 rfl hm.2.2.2.2.2.2.2.2.2.1 ?_
            refine e_0 rfl ?_
            refine m_ald (k := 5) (x := 6) (by exact hm) (by omega) (by first | rfl | (simp only [← nI_add, ← pk_mul, Nat.zero_add]; rfl)) (by omega) (by first | rfl | (rw [mdX_lo (by omega) (by omega)]; omega) | (rw [mdX_hi (by omega)]; omega)) rfl ?_
            refine e_s3 rfl rfl rfl (Nat.le_of_ble_eq_true rfl) (sm_pumps _ _ _) ?_
            exact e_ri rfl rfl (by simp only [eq_true h1, eq_true h2, eq_true h3, if_true, if_true, if_false, not_true_eq_false, not_false_eq_true, and_true, true_and, and_false, false_and, or_true, true_or, or_false, false_or, reduceIte]; first | done | rfl | (unfold markF; rw [if_neg h4n1, if_neg h4n2, if_neg h4n3, if_neg h4n4]) | (show _ = (if 0 < σ (21 + x) - 3 then σ (21 + x) - 3 else 0); rw [ess]; have e := m2_tb ss (by omega); rw [ess] at h5; (first | rw [if_pos h5] at e | rw [if_neg h5] at e); exact e) | (show _ = pumpF (σ 6) 0 (σ (21 + x)) - _; rw [show pumpsM 0 (σ (21 + x)) (σ 6) = pumpF (σ 6) 0 (σ (21 + x)) from pumps_tb (k := 0) (by decide) _ _]) | (show _ = pumpF (σ 6) 4 0; exact pumps_tb (k := 4) (by decide) _ _)) (by simp only [eq_true h1, eq_true h2, eq_true h3, if_true, if_true, if_false, not_true_eq_false, not_false_eq_true, and_true, true_and, and_false, false_and, or_true, true_or, or_false, false_or, reduceIte]; first | done | rfl)
          | k + 4, ht => cases ht
      · refine e_4 rfl rfl ?_
        refine e_0 rfl ?_
        refine e_v1 rfl (by first | exact hm.1 | assumption | rfl) rfl (by decide) rfl (Nat.le_of_ble_eq_true rfl) (evo (mq_find (μ := MS μ m 0 σ) hm (by decide))) ?_
        exact e_ri rfl rfl (by simp only [eq_true h1, eq_true h2, eq_false h3, if_true, if_true, if_false, not_true_eq_false, not_false_eq_true, and_true, true_and, and_false, false_and, or_true, true_or, or_false, false_or, reduceIte]; first | done | rfl | (unfold markF; rw [if_neg h4n1, if_neg h4n2, if_neg h4n3, if_neg h4n4]) | (show _ = (if 0 < σ (21 + x) - 3 then σ (21 + x) - 3 else 0); rw [ess]; have e := m2_tb ss (by omega); rw [ess] at h5; (first | rw [if_pos h5] at e | rw [if_neg h5] at e); exact e) | (show _ = pumpF (σ 6) 0 (σ (21 + x)) - _; rw [show pumpsM 0 (σ (21 + x)) (σ 6) = pumpF (σ 6) 0 (σ (21 + x)) from pumps_tb (k := 0) (by decide) _ _]) | (show _ = pumpF (σ 6) 4 0; exact pumps_tb (k := 4) (by decide) _ _)) (by simp only [eq_true h1, eq_true h2, eq_false h3, if_true, if_true, if_false, not_true_eq_false, not_false_eq_true, and_true, true_and, and_false, false_and, or_true, true_or, or_false, false_or, reduceIte]; first | done | rfl)
    · refine e_0 rfl ?_
      exact e_ri rfl rfl (by simp only [eq_true h1, eq_false h2, if_true, if_true, if_false, not_true_eq_false, not_false_eq_true, and_true, true_and, and_false, false_and, or_true, true_or, or_false, false_or, reduceIte]; first | done | rfl | (unfold markF; rw [if_neg h4n1, if_neg h4n2, if_neg h4n3, if_neg h4n4]) | (show _ = (if 0 < σ (21 + x) - 3 then σ (21 + x) - 3 else 0); rw [ess]; have e := m2_tb ss (by omega); rw [ess] at h5; (first | rw [if_pos h5] at e | rw [if_neg h5] at e); exact e) | (show _ = pumpF (σ 6) 0 (σ (21 + x)) - _; rw [show pumpsM 0 (σ (21 + x)) (σ 6) = pumpF (σ 6) 0 (σ (21 + x)) from pumps_tb (k := 0) (by decide) _ _]) | (show _ = pumpF (σ 6) 4 0; exact pumps_tb (k := 4) (by decide) _ _)) (by simp only [eq_true h1, eq_false h2, if_true, if_true, if_false, not_true_eq_false, not_false_eq_true, and_true, true_and, and_false, false_and, or_true, true_or, or_false, false_or, reduceIte]; first | done | rfl)
theorem mt_cut (hm : isMd μ m) (hok : shOK g σ) {x : Nat} (hx : x < g) : ps_Ev (ps_XX L xs) (d + 1) j_X8_cut [.ref m, .int (nI x)] (MS μ m 0 σ) none (MS μ m 0 (upd σ (21 + x) (if σ (21 + x) ≤ σ (15 + x) then σ (21 + x) else σ (15 + x)))) := by
  refine ⟨Nat.le_of_ble_eq_true rfl, ?_⟩
  have hg := hok.1
  have h8 := hok.2.1
  refine e_4 rfl rfl ?_
  refine e_gr rfl hm.1 rfl hm.2.2.2.2.2.2.2.2.2.1 ?_
  refine e_0 rfl ?_
  refine e_2 rfl rfl ?_
  refine e_9 rfl ?_
  refine e_4 rfl rfl ?_
  refine e_gr rfl hm.1 rfl hm.2.2.2.2.2.2.2.2.2.1 ?_
  refine e_0 rfl ?_
  refine e_2 rfl rfl ?_
  refine e_9 rfl ?_
  refine m_ald (k := (6 + x)) (x := 21 + x) (by exact hm) (by omega) (by first | rfl | (simp only [← nI_add, ← pk_mul, Nat.zero_add]; rfl)) (by omega) (by first | rfl | (rw [mdX_lo (by omega) (by omega)]; omega) | (rw [mdX_hi (by omega)]; omega)) rfl ?_
  refine e_4 rfl rfl ?_
  refine e_gr rfl hm.1 rfl hm.2.2.2.2.2.2.2.2.2.1 ?_
  refine e_0 rfl ?_
  refine e_2 rfl rfl ?_
  refine e_9 rfl ?_
  refine m_ald (k := (12 + x)) (x := 15 + x) (by exact hm) (by omega) (by first | rfl | (simp only [← nI_add, ← pk_mul, Nat.zero_add]; rfl)) (by omega) (by first | rfl | (rw [mdX_lo (by omega) (by omega)]; omega) | (rw [mdX_hi (by omega)]; omega)) rfl ?_
  refine e_41 rfl (fun h1 => ?_) (fun h1 => ?_)
  · refine e_4 rfl rfl ?_
    refine e_gr rfl hm.1 rfl hm.2.2.2.2.2.2.2.2.2.1 ?_
    refine e_0 rfl ?_
    refine e_2 rfl rfl ?_
    refine e_9 rfl ?_
    refine m_ald (k := (6 + x)) (x := 21 + x) (by exact hm) (by omega) (by first | rfl | (simp only [← nI_add, ← pk_mul, Nat.zero_add]; rfl)) (by omega) (by first | rfl | (rw [mdX_lo (by omega) (by omega)]; omega) | (rw [mdX_hi (by omega)]; omega)) rfl ?_
    refine m_ast (k := (6 + x)) (x := 21 + x) (by exact hm) (by omega) (by first | rfl | (simp only [← nI_add, ← pk_mul, Nat.zero_add]; rfl)) (by omega) (by first | rfl | (rw [mdX_lo (by omega) (by omega)]; omega) | (rw [mdX_hi (by omega)]; omega)) rfl ?_
    exact e_rv rfl (by simp only [eq_true h1, if_true, if_true, if_false, not_true_eq_false, not_false_eq_true, and_true, true_and, and_false, false_and, or_true, true_or, or_false, false_or, reduceIte])
  · refine e_4 rfl rfl ?_
    refine e_gr rfl hm.1 rfl hm.2.2.2.2.2.2.2.2.2.1 ?_
    refine e_0 rfl ?_
    refine e_2 rfl rfl ?_
    refine e_9 rfl ?_
    refine m_ald (k := (12 + x)) (x := 15 + x) (by exact hm) (by omega) (by first | rfl | (simp only [← nI_add, ← pk_mul, Nat.zero_add]; rfl)) (by omega) (by first | rfl | (rw [mdX_lo (by omega) (by omega)]; omega) | (rw [mdX_hi (by omega)]; omega)) rfl ?_
    refine e_42 rfl ?_
    refine m_ast (k := (6 + x)) (x := 21 + x) (by exact hm) (by omega) (by first | rfl | (simp only [← nI_add, ← pk_mul, Nat.zero_add]; rfl)) (by omega) (by first | rfl | (rw [mdX_lo (by omega) (by omega)]; omega) | (rw [mdX_hi (by omega)]; omega)) rfl ?_
    exact e_rv rfl (by simp only [eq_false h1, if_true, if_true, if_false, not_true_eq_false, not_false_eq_true, and_true, true_and, and_false, false_and, or_true, true_or, or_false, false_or, reduceIte])
theorem shOK.upF (h : shOK g σ) (x : Nat) (hx : x < g) (v : Int32) : shOK g (upd σ (15 + x) v) := by
  have hg := h.1
  refine ⟨h.1, ?_, fun i hi => ?_⟩
  · rw [pk_un (by omega)]; exact h.2.1
  · rw [pk_un (by omega), pk_un (by omega)]; exact h.2.2 i hi
theorem mq_force (hm : isMd μ m) (hok : shOK g σ) {i : Int32} {x : Nat} (hx : hasF σ i → i = nI x ∧ x < g) (v : Int32) : evI (ps_XX L xs) (d + 3) j_X8_force [.ref m, .int i, .int v] (MS μ m 0 σ) (if ¬ (hasF σ i ∧ 1 ≤ v ∧ v ≤ 9) then (-1, MS μ m 0 σ) else (σ (15 + x), MS μ m 0 (upd (upd σ (15 + x) v) (21 + x) (if σ (21 + x) ≤ v then σ (21 + x) else v)))) := by
  refine ⟨Nat.le_of_ble_eq_true rfl, ?_⟩
  have hg := hok.1
  have h8 := hok.2.1
  refine e_4 rfl rfl ?_
  refine e_2 rfl rfl ?_
  refine e_v1 rfl (by first | exact hm.1 | assumption | rfl) rfl (by decide) rfl (Nat.le_of_ble_eq_true rfl) (mq_isGang hm hok _) ?_
  refine e_30b rfl (fun h1 => ?_) (fun h1 => ?_)
  · refine e_0 rfl ?_
    exact e_ri rfl rfl (by first | (simp only [eq_false h1, if_true, if_true, if_false, not_true_eq_false, not_false_eq_true, and_true, true_and, and_false, false_and, or_true, true_or, or_false, false_or, reduceIte]; done) | (simp only [eq_false h1, if_true, if_true, if_false, not_true_eq_false, not_false_eq_true, and_true, true_and, and_false, false_and, or_true, true_or, or_false, false_or, reduceIte]; rfl) | rfl) (by simp only [eq_false h1, if_true, if_true, if_false, not_true_eq_false, not_false_eq_true, and_true, true_and, and_false, false_and, or_true, true_or, or_false, false_or, reduceIte]; first | done | rfl | (rw [pk_us, pk_un (show 21 + x ≠ 15 + x by omega)]))
  · refine e_2 rfl rfl ?_
    refine e_25 rfl ?_
    refine e_1 rfl ?_
    refine e_1 rfl ?_
    refine e_s3 rfl rfl rfl (Nat.le_of_ble_eq_true rfl) (sm_in v 1 9 (by decide) (by decide)) ?_
    refine e_31b rfl (fun h2 => ?_) (fun h2 => ?_)
    · obtain ⟨rfl, hxg⟩ := hx h1
      refine e_4 rfl rfl ?_
      refine e_gr rfl hm.1 rfl hm.2.2.2.2.2.2.2.2.2.1 ?_
      refine e_0 rfl ?_
      refine e_2 rfl rfl ?_
      refine e_9 rfl ?_
      refine m_ald (k := (12 + x)) (x := 15 + x) (by exact hm) (by omega) (by first | rfl | (simp only [← nI_add, ← pk_mul, Nat.zero_add]; rfl)) (by omega) (by first | rfl | (rw [mdX_lo (by omega) (by omega)]; omega) | (rw [mdX_hi (by omega)]; omega)) rfl ?_
      refine e_5 rfl rfl ?_
      refine e_4 rfl rfl ?_
      refine e_gr rfl hm.1 rfl hm.2.2.2.2.2.2.2.2.2.1 ?_
      refine e_0 rfl ?_
      refine e_2 rfl rfl ?_
      refine e_9 rfl ?_
      refine e_2 rfl rfl ?_
      refine m_ast (k := (12 + x)) (x := 15 + x) (by exact hm) (by omega) (by first | rfl | (simp only [← nI_add, ← pk_mul, Nat.zero_add]; rfl)) (by omega) (by first | rfl | (rw [mdX_lo (by omega) (by omega)]; omega) | (rw [mdX_hi (by omega)]; omega)) rfl ?_
      refine e_4 rfl rfl ?_
      refine e_2 rfl rfl ?_
      refine e_v1v rfl (by first | exact hm.1 | assumption | rfl) rfl (by decide) rfl (Nat.le_of_ble_eq_true rfl) (mt_cut hm (hok.upF x hxg v) hxg) ?_
      refine e_2 rfl rfl ?_
      exact e_ri rfl rfl (by first | (simp only [eq_true h1, eq_true h2, if_true, if_true, if_false, not_true_eq_false, not_false_eq_true, and_true, true_and, and_false, false_and, or_true, true_or, or_false, false_or, reduceIte]; done) | (simp only [eq_true h1, eq_true h2, if_true, if_true, if_false, not_true_eq_false, not_false_eq_true, and_true, true_and, and_false, false_and, or_true, true_or, or_false, false_or, reduceIte]; rfl) | rfl) (by simp only [eq_true h1, eq_true h2, if_true, if_true, if_false, not_true_eq_false, not_false_eq_true, and_true, true_and, and_false, false_and, or_true, true_or, or_false, false_or, reduceIte]; first | done | rfl | (rw [pk_us, pk_un (show 21 + x ≠ 15 + x by omega)]))
    · refine e_0 rfl ?_
      exact e_ri rfl rfl (by first | (simp only [eq_true h1, eq_false h2, if_true, if_true, if_false, not_true_eq_false, not_false_eq_true, and_true, true_and, and_false, false_and, or_true, true_or, or_false, false_or, reduceIte]; done) | (simp only [eq_true h1, eq_false h2, if_true, if_true, if_false, not_true_eq_false, not_false_eq_true, and_true, true_and, and_false, false_and, or_true, true_or, or_false, false_or, reduceIte]; rfl) | rfl) (by simp only [eq_true h1, eq_false h2, if_true, if_true, if_false, not_true_eq_false, not_false_eq_true, and_true, true_and, and_false, false_and, or_true, true_or, or_false, false_or, reduceIte]; first | done | rfl | (rw [pk_us, pk_un (show 21 + x ≠ 15 + x by omega)]))
theorem mt_tellOf (hm : isMd μ m) (hok : shOK g σ) (h7 : σ 7 = 0 ∨ σ 7 = 1) (what : Int32) : ps_Ev (ps_XX L xs) (d + 2) j_X8_tellOf [.ref m, .int what] (MS μ m 0 σ) (some (.int (ofShipF σ what))) (MS μ m 0 σ) := by
  refine ⟨Nat.le_of_ble_eq_true rfl, ?_⟩
  have hg := hok.1
  have h8 := hok.2.1
  refine e_2 rfl rfl ?_
  refine e_sw rfl rfl (fun h1 => ?_) (fun k t ht h1 => ?_)
  · have h1n0 : ¬ what = 0 := fun q => by subst q; revert h1; decide
    have h1n1 : ¬ what = 1 := fun q => by subst q; revert h1; decide
    have h1n2 : ¬ what = 2 := fun q => by subst q; revert h1; decide
    have h1n3 : ¬ what = 3 := fun q => by subst q; revert h1; decide
    have h1n4 : ¬ what = 4 := fun q => by subst q; revert h1; decide
    have h1n5 : ¬ what = 5 := fun q => by subst q; revert h1; decide
    have h1n6 : ¬ what = 6 := fun q => by subst q; revert h1; decide
    have h1n7 : ¬ what = 7 := fun q => by subst q; revert h1; decide
    refine e_4 rfl rfl ?_
    refine e_0 rfl ?_
    refine e_v1 rfl (by first | exact hm.1 | assumption | rfl) rfl (by decide) rfl (Nat.le_of_ble_eq_true rfl) (mm_isSunk (B := 0) hm (by decide)) ?_
    refine e_30b rfl (fun h2 => ?_) (fun h2 => ?_)
    · refine e_0 rfl ?_
      exact e_ri rfl rfl (by unfold ofShipF; first | rfl | (rw [if_neg h1n0, if_neg h1n1, if_neg h1n2, if_neg h1n3, if_neg h1n4, if_neg h1n5, if_neg h1n6, if_neg h1n7]; first | exact (b2i_t h2).symm | exact (b2i_f h2).symm)) (rfl)
    · refine e_0 rfl ?_
      refine e_42 rfl ?_
      exact e_ri rfl rfl (by unfold ofShipF; first | rfl | (rw [if_neg h1n0, if_neg h1n1, if_neg h1n2, if_neg h1n3, if_neg h1n4, if_neg h1n5, if_neg h1n6, if_neg h1n7]; first | exact (b2i_t h2).symm | exact (b2i_f h2).symm)) (rfl)
  · match k, ht with
    | 0, ht =>
      cases ht
      obtain rfl : what = 0 := Int32.toInt_inj.mp (h1.trans rfl)
      refine e_4 rfl rfl ?_
      refine e_gr rfl hm.1 rfl hm.2.2.2.2.2.2.2.2.2.1 ?_
      refine e_0 rfl ?_
      refine m_ald (k := 1) (x := 0) (by exact hm) (by omega) (by first | rfl | (simp only [← nI_add, ← pk_mul, Nat.zero_add]; rfl)) (by omega) (by first | rfl | (rw [mdX_lo (by omega) (by omega)]; omega) | (rw [mdX_hi (by omega)]; omega)) rfl ?_
      exact e_ri rfl rfl (by unfold ofShipF; first | rfl | (rw [if_neg h1n0, if_neg h1n1, if_neg h1n2, if_neg h1n3, if_neg h1n4, if_neg h1n5, if_neg h1n6, if_neg h1n7]; first | exact (b2i_t h2).symm | exact (b2i_f h2).symm)) (rfl)
    | 1, ht =>
      cases ht
      obtain rfl : what = 1 := Int32.toInt_inj.mp (h1.trans rfl)
      refine e_4 rfl rfl ?_
      refine e_0 rfl ?_
      refine e_v1 rfl (by first | exact hm.1 | assumption | rfl) rfl (by decide) rfl (Nat.le_of_ble_eq_true rfl) (mm_leak (B := 0) hm (by decide) h7) ?_
      exact e_ri rfl rfl (by unfold ofShipF; first | rfl | (rw [if_neg h1n0, if_neg h1n1, if_neg h1n2, if_neg h1n3, if_neg h1n4, if_neg h1n5, if_neg h1n6, if_neg h1n7]; first | exact (b2i_t h2).symm | exact (b2i_f h2).symm)) (rfl)
    | 2, ht =>
      cases ht
      obtain rfl : what = 2 := Int32.toInt_inj.mp (h1.trans rfl)
      refine e_4 rfl rfl ?_
      refine e_gr rfl hm.1 rfl hm.2.2.2.2.2.2.2.2.2.1 ?_
      refine e_0 rfl ?_
      refine m_ald (k := 2) (x := 2) (by exact hm) (by omega) (by first | rfl | (simp only [← nI_add, ← pk_mul, Nat.zero_add]; rfl)) (by omega) (by first | rfl | (rw [mdX_lo (by omega) (by omega)]; omega) | (rw [mdX_hi (by omega)]; omega)) rfl ?_
      exact e_ri rfl rfl (by unfold ofShipF; first | rfl | (rw [if_neg h1n0, if_neg h1n1, if_neg h1n2, if_neg h1n3, if_neg h1n4, if_neg h1n5, if_neg h1n6, if_neg h1n7]; first | exact (b2i_t h2).symm | exact (b2i_f h2).symm)) (rfl)
    | 3, ht =>
      cases ht
      obtain rfl : what = 3 := Int32.toInt_inj.mp (h1.trans rfl)
      refine e_4 rfl rfl ?_
      refine e_gr rfl hm.1 rfl hm.2.2.2.2.2.2.2.2.2.1 ?_
      refine e_0 rfl ?_
      refine m_ald (k := 3) (x := 3) (by exact hm) (by omega) (by first | rfl | (simp only [← nI_add, ← pk_mul, Nat.zero_add]; rfl)) (by omega) (by first | rfl | (rw [mdX_lo (by omega) (by omega)]; omega) | (rw [mdX_hi (by omega)]; omega)) rfl ?_
      exact e_ri rfl rfl (by unfold ofShipF; first | rfl | (rw [if_neg h1n0, if_neg h1n1, if_neg h1n2, if_neg h1n3, if_neg h1n4, if_neg h1n5, if_neg h1n6, if_neg h1n7]; first | exact (b2i_t h2).symm | exact (b2i_f h2).symm)) (rfl)
    | 4, ht =>
      cases ht
      obtain rfl : what = 4 := Int32.toInt_inj.mp (h1.trans rfl)
      refine e_4 rfl rfl ?_
      refine e_gr rfl hm.1 rfl hm.2.2.2.2.2.2.2.2.2.1 ?_
      refine e_0 rfl ?_
      refine m_ald (k := 4) (x := 7) (by exact hm) (by omega) (by first | rfl | (simp only [← nI_add, ← pk_mul, Nat.zero_add]; rfl)) (by omega) (by first | rfl | (rw [mdX_lo (by omega) (by omega)]; omega) | (rw [mdX_hi (by omega)]; omega)) rfl ?_
      exact e_ri rfl rfl (by unfold ofShipF; first | rfl | (rw [if_neg h1n0, if_neg h1n1, if_neg h1n2, if_neg h1n3, if_neg h1n4, if_neg h1n5, if_neg h1n6, if_neg h1n7]; first | exact (b2i_t h2).symm | exact (b2i_f h2).symm)) (rfl)
    | 5, ht =>
      cases ht
      obtain rfl : what = 5 := Int32.toInt_inj.mp (h1.trans rfl)
      refine e_4 rfl rfl ?_
      refine e_gr rfl hm.1 rfl hm.2.2.2.2.2.2.2.2.2.1 ?_
      refine e_0 rfl ?_
      refine m_ald (k := 5) (x := 6) (by exact hm) (by omega) (by first | rfl | (simp only [← nI_add, ← pk_mul, Nat.zero_add]; rfl)) (by omega) (by first | rfl | (rw [mdX_lo (by omega) (by omega)]; omega) | (rw [mdX_hi (by omega)]; omega)) rfl ?_
      exact e_ri rfl rfl (by unfold ofShipF; first | rfl | (rw [if_neg h1n0, if_neg h1n1, if_neg h1n2, if_neg h1n3, if_neg h1n4, if_neg h1n5, if_neg h1n6, if_neg h1n7]; first | exact (b2i_t h2).symm | exact (b2i_f h2).symm)) (rfl)
    | 6, ht =>
      cases ht
      obtain rfl : what = 6 := Int32.toInt_inj.mp (h1.trans rfl)
      refine e_4 rfl rfl ?_
      refine e_gr rfl hm.1 rfl hm.2.2.2.2.2.2.2.2.2.1 ?_
      refine e_0 rfl ?_
      refine m_ald (k := 0) (x := 5) (by exact hm) (by omega) (by first | rfl | (simp only [← nI_add, ← pk_mul, Nat.zero_add]; rfl)) (by omega) (by first | rfl | (rw [mdX_lo (by omega) (by omega)]; omega) | (rw [mdX_hi (by omega)]; omega)) rfl ?_
      exact e_ri rfl rfl (by unfold ofShipF; first | rfl | (rw [if_neg h1n0, if_neg h1n1, if_neg h1n2, if_neg h1n3, if_neg h1n4, if_neg h1n5, if_neg h1n6, if_neg h1n7]; first | exact (b2i_t h2).symm | exact (b2i_f h2).symm)) (rfl)
    | 7, ht =>
      cases ht
      obtain rfl : what = 7 := Int32.toInt_inj.mp (h1.trans rfl)
      refine e_4 rfl rfl ?_
      refine m_land (by exact hm) rfl rfl ?_
      refine e_4 rfl rfl ?_
      refine e_gr rfl hm.1 rfl hm.2.2.2.2.2.2.2.2.2.1 ?_
      refine e_0 rfl ?_
      refine m_ald (k := 0) (x := 5) (by exact hm) (by omega) (by first | rfl | (simp only [← nI_add, ← pk_mul, Nat.zero_add]; rfl)) (by omega) (by first | rfl | (rw [mdX_lo (by omega) (by omega)]; omega) | (rw [mdX_hi (by omega)]; omega)) rfl ?_
      refine e_10 rfl ?_
      exact e_ri rfl rfl (by unfold ofShipF; first | rfl | (rw [if_neg h1n0, if_neg h1n1, if_neg h1n2, if_neg h1n3, if_neg h1n4, if_neg h1n5, if_neg h1n6, if_neg h1n7]; first | exact (b2i_t h2).symm | exact (b2i_f h2).symm)) (rfl)
    | k + 8, ht => cases ht
theorem mq_tell (hm : isMd μ m) (hok : shOK g σ) (h7 : σ 7 = 0 ∨ σ 7 = 1) (what : Int32) : evI (ps_XX L xs) (d + 3) j_X8_tell [.ref m, .int what] (MS μ m 0 σ) (if ¬ (0 ≤ what ∧ what ≤ 8) then (-1, MS μ m 0 σ) else if σ 8 = 0 then (-4, MS μ m 0 σ) else (1, MS (ps_sI μ m 9 (ofShipF σ what)) m 0 σ)) := by
  refine ⟨Nat.le_of_ble_eq_true rfl, ?_⟩
  have hg := hok.1
  have h8 := hok.2.1
  refine e_2 rfl rfl ?_
  refine e_25 rfl ?_
  refine e_1 rfl ?_
  refine e_1 rfl ?_
  refine e_s3 rfl rfl rfl (Nat.le_of_ble_eq_true rfl) (sm_in what 0 8 (by decide) (by decide)) ?_
  refine e_31b rfl (fun h1 => ?_) (fun h1 => ?_)
  · refine e_4 rfl rfl ?_
    refine m_gangs (by exact hm) rfl rfl ?_
    refine e_31 rfl (fun h2 => ?_) (fun h2 => ?_)
    · refine e_4 rfl rfl ?_
      refine e_4 rfl rfl ?_
      refine e_2 rfl rfl ?_
      refine e_v1 rfl (by first | exact hm.1 | assumption | rfl) rfl (by decide) rfl (Nat.le_of_ble_eq_true rfl) (mt_tellOf hm hok h7 what) ?_
      refine e_v1 rfl (by first | exact hm.1 | assumption | rfl) rfl (by decide) rfl (Nat.le_of_ble_eq_true rfl) (evo (mq_told (μ := MS μ m 0 σ) hm _)) ?_
      exact e_ri rfl rfl (by first | (simp only [eq_true h1, eq_false h2, if_true, if_true, if_false, not_true_eq_false, not_false_eq_true, and_true, true_and, and_false, false_and, or_true, true_or, or_false, false_or, reduceIte]; done) | (simp only [eq_true h1, eq_false h2, if_true, if_true, if_false, not_true_eq_false, not_false_eq_true, and_true, true_and, and_false, false_and, or_true, true_or, or_false, false_or, reduceIte]; rfl) | rfl) (by simp only [eq_true h1, eq_false h2, if_true, if_true, if_false, not_true_eq_false, not_false_eq_true, and_true, true_and, and_false, false_and, or_true, true_or, or_false, false_or, reduceIte]; first | done | rfl | exact MS_sIm (by decide) (by decide) (by decide))
    · refine e_0 rfl ?_
      refine e_42 rfl ?_
      exact e_ri rfl rfl (by first | (simp only [eq_true h1, eq_true h2, if_true, if_true, if_false, not_true_eq_false, not_false_eq_true, and_true, true_and, and_false, false_and, or_true, true_or, or_false, false_or, reduceIte]; done) | (simp only [eq_true h1, eq_true h2, if_true, if_true, if_false, not_true_eq_false, not_false_eq_true, and_true, true_and, and_false, false_and, or_true, true_or, or_false, false_or, reduceIte]; rfl) | rfl) (by simp only [eq_true h1, eq_true h2, if_true, if_true, if_false, not_true_eq_false, not_false_eq_true, and_true, true_and, and_false, false_and, or_true, true_or, or_false, false_or, reduceIte]; first | done | rfl | exact MS_sIm (by decide) (by decide) (by decide))
  · refine e_0 rfl ?_
    exact e_ri rfl rfl (by first | (simp only [eq_false h1, if_true, if_true, if_false, not_true_eq_false, not_false_eq_true, and_true, true_and, and_false, false_and, or_true, true_or, or_false, false_or, reduceIte]; done) | (simp only [eq_false h1, if_true, if_true, if_false, not_true_eq_false, not_false_eq_true, and_true, true_and, and_false, false_and, or_true, true_or, or_false, false_or, reduceIte]; rfl) | rfl) (by simp only [eq_false h1, if_true, if_true, if_false, not_true_eq_false, not_false_eq_true, and_true, true_and, and_false, false_and, or_true, true_or, or_false, false_or, reduceIte]; first | done | rfl | exact MS_sIm (by decide) (by decide) (by decide))
theorem mt_canNow_loop (hm : isMd μ m) (hI : shI g σ) (h0 : 0 < σ 8) : ∀ (n i : Nat), i + n = 10 → ps_To (ps_XX L xs) (ps_Ev (ps_XX L xs) (d + 3)) j_X8_canNow (ps_rt j_X8_canNow (some (.int (canS σ))) (MS μ m 0 σ)) (4, [(2, .int (nI i)), (1, .int (bitsN (fun k => canF σ (nI k)) i)), (0, .ref (m))], [], MS μ m 0 σ) := by
  intro n
  induction n with
  | zero =>
    intro i hi
    obtain rfl : i = 10 := by omega
    refine e_2 rfl rfl ?_
    refine e_0 rfl ?_
    rw [show (10 : Int32) = nI 10 from rfl]
    refine e_39 rfl (fun h1 => ?_) (fun h1 => ?_)
    · refine e_2 rfl rfl ?_
      exact e_ri rfl rfl (by rfl) (rfl)
    · exact absurd (nI_le (Nat.le_refl _) (by omega)) h1
  | succ n ih =>
    intro i hi
    refine e_2 rfl rfl ?_
    refine e_0 rfl ?_
    rw [show (10 : Int32) = nI 10 from rfl]
    refine e_39 rfl (fun h1 => ?_) (fun h1 => ?_)
    · exact absurd h1 (nI_ge (by omega) (by omega))
    · refine e_2 rfl rfl ?_
      refine e_4 rfl rfl ?_
      refine e_0 rfl ?_
      refine e_v1 rfl (by first | exact hm.1 | assumption | rfl) rfl (by decide) rfl (Nat.le_of_ble_eq_true rfl) (mm_over (B := 0) hm (by decide) hI) ?_
      refine e_31b rfl (fun h2 => ?_) (fun h2 => ?_)
      · refine e_0 rfl ?_
        refine e_13 rfl ?_
        refine e_5 rfl rfl ?_
        refine e_8 rfl rfl rfl ?_
        refine e_42 rfl ?_
        refine e_lv [0, 1, 2] rfl rfl ?_
        show ps_To _ _ _ _ (4, [(2, .int _), (1, .int _), (0, .ref _)], [], _)
        have e : bitsN (fun k => canF σ (nI k)) (i + 1) = bitsN (fun k => canF σ (nI k)) i := if_neg (fun z => z.2.1 h2)
        rw [nI_1, or0]
        rw [← e]
        exact ih (i + 1) (by omega)
      · refine e_4 rfl rfl ?_
        refine e_0 rfl ?_
        refine e_2 rfl rfl ?_
        refine e_v2 rfl (by first | exact hm.1 | assumption | rfl) rfl (by decide) rfl (Nat.le_of_ble_eq_true rfl) (mm_mayF (B := 0) hm (by decide) hI _) ?_
        refine e_30b rfl (fun h3 => ?_) (fun h3 => ?_)
        · refine e_0 rfl ?_
          refine e_13 rfl ?_
          refine e_5 rfl rfl ?_
          refine e_8 rfl rfl rfl ?_
          refine e_42 rfl ?_
          refine e_lv [0, 1, 2] rfl rfl ?_
          show ps_To _ _ _ _ (4, [(2, .int _), (1, .int _), (0, .ref _)], [], _)
          have e : bitsN (fun k => canF σ (nI k)) (i + 1) = bitsN (fun k => canF σ (nI k)) i := if_neg (fun z => h3 z.2.2)
          rw [nI_1, or0]
          rw [← e]
          exact ih (i + 1) (by omega)
        · refine e_0 rfl ?_
          refine e_2 rfl rfl ?_
          refine e_14 rfl ?_
          refine e_42 rfl ?_
          refine e_13 rfl ?_
          refine e_5 rfl rfl ?_
          refine e_8 rfl rfl rfl ?_
          refine e_42 rfl ?_
          refine e_lv [0, 1, 2] rfl rfl ?_
          show ps_To _ _ _ _ (4, [(2, .int _), (1, .int _), (0, .ref _)], [], _)
          have e : bitsN (fun k => canF σ (nI k)) (i + 1) = bitsN (fun k => canF σ (nI k)) i ||| (1 : Int32) <<< (nI i &&& 31) := if_pos ⟨h0, h2, h3⟩
          rw [nI_1]
          rw [← e]
          exact ih (i + 1) (by omega)
theorem mt_canNow (hm : isMd μ m) (hI : shI g σ) (h0 : 0 < σ 8) : ps_Ev (ps_XX L xs) (d + 4) j_X8_canNow [.ref m] (MS μ m 0 σ) (some (.int (canS σ))) (MS μ m 0 σ) := by
  refine ⟨Nat.le_of_ble_eq_true rfl, ?_⟩
  refine e_0 rfl ?_
  refine e_5 rfl rfl ?_
  refine e_0 rfl ?_
  refine e_5 rfl rfl ?_
  exact mt_canNow_loop hm hI h0 10 0 (by omega)
theorem g_pos (h : shOK g σ) (h0 : ¬ σ 8 = 0) : 0 < σ 8 := by
  have hg := h.1
  rw [h.2.1] at h0 ⊢
  exact nI_lt (a := 0) (by rcases Nat.eq_zero_or_pos g with z | z; (· subst z; exact absurd rfl h0); exact z) (by omega)
theorem mq_can (hm : isMd μ m) (hI : shI g σ) : evI (ps_XX L xs) (d + 5) j_X8_can [.ref m] (MS μ m 0 σ) (if σ 8 = 0 then (-4, MS μ m 0 σ) else (canS σ, MS μ m 0 σ)) := by
  refine ⟨Nat.le_of_ble_eq_true rfl, ?_⟩
  refine e_4 rfl rfl ?_
  refine m_gangs (by exact hm) rfl rfl ?_
  refine e_31 rfl (fun h1 => ?_) (fun h1 => ?_)
  · refine e_4 rfl rfl ?_
    refine e_v0 rfl (by first | exact hm.1 | assumption | rfl) rfl (by decide) rfl (Nat.le_of_ble_eq_true rfl) (mt_canNow hm hI (g_pos hI.1 h1)) ?_
    exact e_ri rfl rfl (by first | (simp only [eq_false h1, if_true, if_true, if_false, not_true_eq_false, not_false_eq_true, and_true, true_and, and_false, false_and, or_true, true_or, or_false, false_or, reduceIte]; done) | (simp only [eq_false h1, if_true, if_true, if_false, not_true_eq_false, not_false_eq_true, and_true, true_and, and_false, false_and, or_true, true_or, or_false, false_or, reduceIte]; rfl) | rfl) (by first | (simp only [eq_false h1, if_true, if_true, if_false, not_true_eq_false, not_false_eq_true, and_true, true_and, and_false, false_and, or_true, true_or, or_false, false_or, reduceIte]; done) | (simp only [eq_false h1, if_true, if_true, if_false, not_true_eq_false, not_false_eq_true, and_true, true_and, and_false, false_and, or_true, true_or, or_false, false_or, reduceIte]; rfl) | rfl)
  · refine e_0 rfl ?_
    refine e_42 rfl ?_
    exact e_ri rfl rfl (by first | (simp only [eq_true h1, if_true, if_true, if_false, not_true_eq_false, not_false_eq_true, and_true, true_and, and_false, false_and, or_true, true_or, or_false, false_or, reduceIte]; done) | (simp only [eq_true h1, if_true, if_true, if_false, not_true_eq_false, not_false_eq_true, and_true, true_and, and_false, false_and, or_true, true_or, or_false, false_or, reduceIte]; rfl) | rfl) (by first | (simp only [eq_true h1, if_true, if_true, if_false, not_true_eq_false, not_false_eq_true, and_true, true_and, and_false, false_and, or_true, true_or, or_false, false_or, reduceIte]; done) | (simp only [eq_true h1, if_true, if_true, if_false, not_true_eq_false, not_false_eq_true, and_true, true_and, and_false, false_and, or_true, true_or, or_false, false_or, reduceIte]; rfl) | rfl)
theorem mq_rest (hm : isMd μ m) (hok : shOK g σ) {i : Int32} {x : Nat} (hx : hasF σ i → i = nI x ∧ x < g) : evI (ps_XX L xs) (d + 3) j_X8_rest [.ref m, .int i] (MS μ m 0 σ) (if hasF σ i then (σ (15 + x) - σ (21 + x), MS μ m 0 σ) else (-1, MS μ m 0 σ)) := by
  refine ⟨Nat.le_of_ble_eq_true rfl, ?_⟩
  have hg := hok.1
  have h8 := hok.2.1
  refine e_4 rfl rfl ?_
  refine e_2 rfl rfl ?_
  refine e_v1 rfl (by first | exact hm.1 | assumption | rfl) rfl (by decide) rfl (Nat.le_of_ble_eq_true rfl) (mq_isGang hm hok _) ?_
  refine e_30b rfl (fun h1 => ?_) (fun h1 => ?_)
  · refine e_0 rfl ?_
    exact e_ri rfl rfl (by first | (simp only [eq_false h1, if_true, if_true, if_false, not_true_eq_false, not_false_eq_true, and_true, true_and, and_false, false_and, or_true, true_or, or_false, false_or, reduceIte]; done) | (simp only [eq_false h1, if_true, if_true, if_false, not_true_eq_false, not_false_eq_true, and_true, true_and, and_false, false_and, or_true, true_or, or_false, false_or, reduceIte]; rfl) | rfl) (by first | (simp only [eq_false h1, if_true, if_true, if_false, not_true_eq_false, not_false_eq_true, and_true, true_and, and_false, false_and, or_true, true_or, or_false, false_or, reduceIte]; done) | (simp only [eq_false h1, if_true, if_true, if_false, not_true_eq_false, not_false_eq_true, and_true, true_and, and_false, false_and, or_true, true_or, or_false, false_or, reduceIte]; rfl) | rfl)
  · obtain ⟨rfl, hxg⟩ := hx h1
    refine e_4 rfl rfl ?_
    refine e_gr rfl hm.1 rfl hm.2.2.2.2.2.2.2.2.2.1 ?_
    refine e_0 rfl ?_
    refine e_2 rfl rfl ?_
    refine e_9 rfl ?_
    refine m_ald (k := (12 + x)) (x := 15 + x) (by exact hm) (by omega) (by first | rfl | (simp only [← nI_add, ← pk_mul, Nat.zero_add]; rfl)) (by omega) (by first | rfl | (rw [mdX_lo (by omega) (by omega)]; omega) | (rw [mdX_hi (by omega)]; omega)) rfl ?_
    refine e_4 rfl rfl ?_
    refine e_gr rfl hm.1 rfl hm.2.2.2.2.2.2.2.2.2.1 ?_
    refine e_0 rfl ?_
    refine e_2 rfl rfl ?_
    refine e_9 rfl ?_
    refine m_ald (k := (6 + x)) (x := 21 + x) (by exact hm) (by omega) (by first | rfl | (simp only [← nI_add, ← pk_mul, Nat.zero_add]; rfl)) (by omega) (by first | rfl | (rw [mdX_lo (by omega) (by omega)]; omega) | (rw [mdX_hi (by omega)]; omega)) rfl ?_
    refine e_10 rfl ?_
    refine e_42 rfl ?_
    exact e_ri rfl rfl (by first | (simp only [eq_true h1, if_true, if_true, if_false, not_true_eq_false, not_false_eq_true, and_true, true_and, and_false, false_and, or_true, true_or, or_false, false_or, reduceIte]; done) | (simp only [eq_true h1, if_true, if_true, if_false, not_true_eq_false, not_false_eq_true, and_true, true_and, and_false, false_and, or_true, true_or, or_false, false_or, reduceIte]; rfl) | rfl) (by first | (simp only [eq_true h1, if_true, if_true, if_false, not_true_eq_false, not_false_eq_true, and_true, true_and, and_false, false_and, or_true, true_or, or_false, false_or, reduceIte]; done) | (simp only [eq_true h1, if_true, if_true, if_false, not_true_eq_false, not_false_eq_true, and_true, true_and, and_false, false_and, or_true, true_or, or_false, false_or, reduceIte]; rfl) | rfl)
theorem mt_sum_loop (hm : isMd μ m) (hok : shOK g σ) : ∀ (n i : Nat), i + n = g → ps_To (ps_XX L xs) (ps_Ev (ps_XX L xs) (d + 0)) j_X8_strengthOfAll (ps_rt j_X8_strengthOfAll (some (.int (psum (fun k => σ (21 + k)) g))) (MS μ m 0 σ)) (4, [(2, .int (nI i)), (1, .int (psum (fun k => σ (21 + k)) i)), (0, .ref (m))], [], MS μ m 0 σ) := by
  intro n
  induction n with
  | zero =>
    intro i hi
    obtain rfl : i = g := by omega
    have hg := hok.1
    have h8 := hok.2.1
    refine e_2 rfl rfl ?_
    refine e_4 rfl rfl ?_
    refine m_gangs (by exact hm) rfl rfl ?_
    rw [h8]
    refine e_39 rfl (fun h1 => ?_) (fun h1 => ?_)
    · refine e_2 rfl rfl ?_
      exact e_ri rfl rfl (by rfl) (rfl)
    · exact absurd (nI_le (Nat.le_refl _) (by omega)) h1
  | succ n ih =>
    intro i hi
    have hg := hok.1
    have h8 := hok.2.1
    refine e_2 rfl rfl ?_
    refine e_4 rfl rfl ?_
    refine m_gangs (by exact hm) rfl rfl ?_
    rw [h8]
    refine e_39 rfl (fun h1 => ?_) (fun h1 => ?_)
    · exact absurd h1 (nI_ge (by omega) (by omega))
    · refine e_2 rfl rfl ?_
      refine e_4 rfl rfl ?_
      refine e_gr rfl hm.1 rfl hm.2.2.2.2.2.2.2.2.2.1 ?_
      refine e_0 rfl ?_
      refine e_2 rfl rfl ?_
      refine e_9 rfl ?_
      refine m_ald (k := (6 + i)) (x := 21 + i) (by exact hm) (by omega) (by first | rfl | (simp only [← nI_add, ← pk_mul, Nat.zero_add]; rfl)) (by omega) (by first | rfl | (rw [mdX_lo (by omega) (by omega)]; omega) | (rw [mdX_hi (by omega)]; omega)) rfl ?_
      refine e_9 rfl ?_
      refine e_5 rfl rfl ?_
      refine e_8 rfl rfl rfl ?_
      refine e_42 rfl ?_
      refine e_lv [0, 1, 2] rfl rfl ?_
      show ps_To _ _ _ _ (4, [(2, .int _), (1, .int _), (0, .ref _)], [], _)
      rw [nI_1]
      exact ih (i + 1) (by omega)
theorem mt_sum (hm : isMd μ m) (hok : shOK g σ) : ps_Ev (ps_XX L xs) (d + 1) j_X8_strengthOfAll [.ref m] (MS μ m 0 σ) (some (.int (psum (fun k => σ (21 + k)) g))) (MS μ m 0 σ) := by
  refine ⟨Nat.le_of_ble_eq_true rfl, ?_⟩
  have hg := hok.1
  have h8 := hok.2.1
  refine e_0 rfl ?_
  refine e_5 rfl rfl ?_
  refine e_0 rfl ?_
  refine e_5 rfl rfl ?_
  exact mt_sum_loop hm hok g 0 (by omega)
theorem mt_kind_loop (hm : isMd μ m) (hok : shOK g σ) (kind : Int32) : ∀ (n i : Nat), i + n = g → ps_To (ps_XX L xs) (ps_Ev (ps_XX L xs) (d + 1)) j_X8_kindMany (ps_rt j_X8_kindMany (some (.int (cntN (fun k => isOfF (σ (9 + k)) kind) g))) (MS μ m 0 σ)) (4, [(3, .int (nI i)), (2, .int (cntN (fun k => isOfF (σ (9 + k)) kind) i)), (0, .ref (m)), (1, .int (kind))], [], MS μ m 0 σ) := by
  intro n
  induction n with
  | zero =>
    intro i hi
    obtain rfl : i = g := by omega
    have hg := hok.1
    have h8 := hok.2.1
    refine e_2 rfl rfl ?_
    refine e_4 rfl rfl ?_
    refine m_gangs (by exact hm) rfl rfl ?_
    rw [h8]
    refine e_39 rfl (fun h1 => ?_) (fun h1 => ?_)
    · refine e_2 rfl rfl ?_
      exact e_ri rfl rfl (by rfl) (rfl)
    · exact absurd (nI_le (Nat.le_refl _) (by omega)) h1
  | succ n ih =>
    intro i hi
    have hg := hok.1
    have h8 := hok.2.1
    refine e_2 rfl rfl ?_
    refine e_4 rfl rfl ?_
    refine m_gangs (by exact hm) rfl rfl ?_
    rw [h8]
    refine e_39 rfl (fun h1 => ?_) (fun h1 => ?_)
    · exact absurd h1 (nI_ge (by omega) (by omega))
    · refine e_2 rfl rfl ?_
      refine e_4 rfl rfl ?_
      refine e_2 rfl rfl ?_
      refine e_2 rfl rfl ?_
      refine e_v2 rfl (by first | exact hm.1 | assumption | rfl) rfl (by decide) rfl (Nat.le_of_ble_eq_true rfl) (mt_isOf hm hok (x := i) (by omega) kind) ?_
      refine e_30b rfl (fun h2 => ?_) (fun h2 => ?_)
      · refine e_0 rfl ?_
        refine e_9 rfl ?_
        refine e_5 rfl rfl ?_
        refine e_8 rfl rfl rfl ?_
        refine e_42 rfl ?_
        refine e_lv [0, 1, 2, 3] rfl rfl ?_
        show ps_To _ _ _ _ (4, [(3, .int _), (2, .int _), (0, .ref _), (1, .int _)], [], _)
        have e : cntN (fun k => isOfF (σ (9 + k)) kind) (i + 1) = cntN (fun k => isOfF (σ (9 + k)) kind) i + 0 := congrArg (cntN (fun k => isOfF (σ (9 + k)) kind) i + ·) (if_neg h2)
        rw [nI_1, ← e]
        exact ih (i + 1) (by omega)
      · refine e_0 rfl ?_
        refine e_42 rfl ?_
        refine e_9 rfl ?_
        refine e_5 rfl rfl ?_
        refine e_8 rfl rfl rfl ?_
        refine e_42 rfl ?_
        refine e_lv [0, 1, 2, 3] rfl rfl ?_
        show ps_To _ _ _ _ (4, [(3, .int _), (2, .int _), (0, .ref _), (1, .int _)], [], _)
        have e : cntN (fun k => isOfF (σ (9 + k)) kind) (i + 1) = cntN (fun k => isOfF (σ (9 + k)) kind) i + 1 := congrArg (cntN (fun k => isOfF (σ (9 + k)) kind) i + ·) (if_pos h2)
        rw [nI_1, ← e]
        exact ih (i + 1) (by omega)
theorem mt_kind (hm : isMd μ m) (hok : shOK g σ) (kind : Int32) : ps_Ev (ps_XX L xs) (d + 2) j_X8_kindMany [.ref m, .int kind] (MS μ m 0 σ) (some (.int (cntN (fun k => isOfF (σ (9 + k)) kind) g))) (MS μ m 0 σ) := by
  refine ⟨Nat.le_of_ble_eq_true rfl, ?_⟩
  have hg := hok.1
  have h8 := hok.2.1
  refine e_0 rfl ?_
  refine e_5 rfl rfl ?_
  refine e_0 rfl ?_
  refine e_5 rfl rfl ?_
  exact mt_kind_loop hm hok kind g 0 (by omega)
theorem mt_there_loop (hm : isMd μ m) (what : Int32) : ∀ (n i : Nat), i + n = 6 → ps_To (ps_XX L xs) (ps_Ev (ps_XX L xs) (d + 0)) j_X8_thereOf (ps_rt j_X8_thereOf (some (.int (cntN (thereP μ m what) 6))) (MS μ m 0 σ)) (4, [(3, .int (nI i)), (2, .int (cntN (thereP μ m what) i)), (0, .ref (m)), (1, .int (what))], [], MS μ m 0 σ) := by
  intro n
  induction n with
  | zero =>
    intro i hi
    obtain rfl : i = 6 := by omega
    skip
    refine e_2 rfl rfl ?_
    refine e_0 rfl ?_
    refine e_39 rfl (fun h1 => ?_) (fun h1 => ?_)
    · refine e_2 rfl rfl ?_
      exact e_ri rfl rfl (by rfl) (rfl)
    · exact absurd (show nI 6 ≤ nI 6 from nI_le (Nat.le_refl _) (by omega)) h1
  | succ n ih =>
    intro i hi
    have q4 : (4 : Int32) ≤ nI i ↔ 4 ≤ i := nI_leI (a := 4) (by decide) (by omega)
    have q3 : (3 : Int32) ≤ nI i ↔ 3 ≤ i := nI_leI (a := 3) (by decide) (by omega)
    refine e_2 rfl rfl ?_
    refine e_0 rfl ?_
    refine e_39 rfl (fun h1 => ?_) (fun h1 => ?_)
    · exact absurd (show nI 6 ≤ nI i from h1) (nI_ge (by omega) (by omega))
    · refine e_2 rfl rfl ?_
      refine e_2 rfl rfl ?_
      refine e_0 rfl ?_
      refine e_37 rfl (fun h2 => ?_) (fun h2 => ?_)
      · refine e_2 rfl rfl ?_
        refine e_0 rfl ?_
        refine e_37 rfl (fun h3 => ?_) (fun h3 => ?_)
        · refine e_2 rfl rfl ?_
          refine e_0 rfl ?_
          refine e_39 rfl (fun h4 => ?_) (fun h4 => ?_)
          · refine e_0 rfl ?_
            refine e_9 rfl ?_
            refine e_5 rfl rfl ?_
            refine e_8 rfl rfl rfl ?_
            refine e_42 rfl ?_
            refine e_lv [0, 1, 2, 3] rfl rfl ?_
            show ps_To _ _ _ _ (4, [(3, .int _), (2, .int _), (0, .ref _), (1, .int _)], [], _)
            have e : cntN (thereP μ m what) (i + 1) = cntN (thereP μ m what) i + 0 := congrArg (cntN (thereP μ m what) i + ·) (if_neg (by simp only [thereP]; grind))
            rw [nI_1, ← e]
            exact ih (i + 1) (by omega)
          · have qi : i < 3 := Nat.not_le.mp (fun z => h4 (q3.mpr z))
            refine e_4 rfl rfl ?_
            refine e_gr rfl hm.1 rfl hm.2.2.2.2.2.2.2.2.2.1 ?_
            refine e_0 rfl ?_
            refine e_0 rfl ?_
            refine e_2 rfl rfl ?_
            refine e_9 rfl ?_
            refine e_11 rfl ?_
            refine e_0 rfl ?_
            refine e_9 rfl ?_
            refine m_r_ld (i := (458 * (1 + i))) (by exact hm) (by first | rfl | (simp only [← nI_add, ← pk_mul]; rfl) | (rw [show (458 : Int32) = nI 458 from rfl, show (1 : Int32) = nI 1 from rfl, nI_add, pk_mul, show (0 : Int32) = nI 0 from rfl, nI_add]; rfl)) (by omega) (by omega) rfl ?_
            refine e_32 rfl (fun h5 => ?_) (fun h5 => ?_)
            · refine e_0 rfl ?_
              refine e_9 rfl ?_
              refine e_5 rfl rfl ?_
              refine e_8 rfl rfl rfl ?_
              refine e_42 rfl ?_
              refine e_lv [0, 1, 2, 3] rfl rfl ?_
              show ps_To _ _ _ _ (4, [(3, .int _), (2, .int _), (0, .ref _), (1, .int _)], [], _)
              have e : cntN (thereP μ m what) (i + 1) = cntN (thereP μ m what) i + 0 := congrArg (cntN (thereP μ m what) i + ·) (if_neg (by simp only [thereP]; grind))
              rw [nI_1, ← e]
              exact ih (i + 1) (by omega)
            · refine e_0 rfl ?_
              refine e_42 rfl ?_
              refine e_9 rfl ?_
              refine e_5 rfl rfl ?_
              refine e_8 rfl rfl rfl ?_
              refine e_42 rfl ?_
              refine e_lv [0, 1, 2, 3] rfl rfl ?_
              show ps_To _ _ _ _ (4, [(3, .int _), (2, .int _), (0, .ref _), (1, .int _)], [], _)
              have e : cntN (thereP μ m what) (i + 1) = cntN (thereP μ m what) i + 1 := congrArg (cntN (thereP μ m what) i + ·) (if_pos (by simp only [thereP]; grind))
              rw [nI_1, ← e]
              exact ih (i + 1) (by omega)
        · refine e_2 rfl rfl ?_
          refine e_0 rfl ?_
          refine e_39 rfl (fun h6 => ?_) (fun h6 => ?_)
          · refine e_0 rfl ?_
            refine e_42 rfl ?_
            refine e_9 rfl ?_
            refine e_5 rfl rfl ?_
            refine e_8 rfl rfl rfl ?_
            refine e_42 rfl ?_
            refine e_lv [0, 1, 2, 3] rfl rfl ?_
            show ps_To _ _ _ _ (4, [(3, .int _), (2, .int _), (0, .ref _), (1, .int _)], [], _)
            have e : cntN (thereP μ m what) (i + 1) = cntN (thereP μ m what) i + 0 := congrArg (cntN (thereP μ m what) i + ·) (if_neg (by simp only [thereP]; grind))
            rw [nI_1, ← e]
            exact ih (i + 1) (by omega)
          · have qi : i < 4 := Nat.not_le.mp (fun z => h6 (q4.mpr z))
            refine e_4 rfl rfl ?_
            refine e_gr rfl hm.1 rfl hm.2.2.2.2.2.2.2.2.2.2.2.2.2.1 ?_
            refine e_2 rfl rfl ?_
            refine m_a_ld (i := i) (c := 5) (n := 4) (by first | rfl | (simp only [← nI_add, ← pk_mul]; rfl) | (simp only [nI_add, pk_mul, nI_1]; done)) (by omega) (by decide) rfl hm.2.2.2.2.2.1 (by decide) ?_
            refine e_32 rfl (fun h7 => ?_) (fun h7 => ?_)
            · refine e_0 rfl ?_
              refine e_42 rfl ?_
              refine e_9 rfl ?_
              refine e_5 rfl rfl ?_
              refine e_8 rfl rfl rfl ?_
              refine e_42 rfl ?_
              refine e_lv [0, 1, 2, 3] rfl rfl ?_
              show ps_To _ _ _ _ (4, [(3, .int _), (2, .int _), (0, .ref _), (1, .int _)], [], _)
              have e : cntN (thereP μ m what) (i + 1) = cntN (thereP μ m what) i + 0 := congrArg (cntN (thereP μ m what) i + ·) (if_neg (by simp only [thereP]; grind))
              rw [nI_1, ← e]
              exact ih (i + 1) (by omega)
            · refine e_0 rfl ?_
              refine e_42 rfl ?_
              refine e_9 rfl ?_
              refine e_5 rfl rfl ?_
              refine e_8 rfl rfl rfl ?_
              refine e_42 rfl ?_
              refine e_lv [0, 1, 2, 3] rfl rfl ?_
              show ps_To _ _ _ _ (4, [(3, .int _), (2, .int _), (0, .ref _), (1, .int _)], [], _)
              have e : cntN (thereP μ m what) (i + 1) = cntN (thereP μ m what) i + 1 := congrArg (cntN (thereP μ m what) i + ·) (if_pos (by simp only [thereP]; grind))
              rw [nI_1, ← e]
              exact ih (i + 1) (by omega)
      · refine e_4 rfl rfl ?_
        refine e_gr rfl hm.1 rfl hm.2.2.2.2.2.2.2.2.2.2.2.1 ?_
        refine e_2 rfl rfl ?_
        refine m_a_ld (i := i) (c := 3) (n := 6) (by first | rfl | (simp only [← nI_add, ← pk_mul]; rfl) | (simp only [nI_add, pk_mul, nI_1]; done)) (by omega) (by decide) rfl hm.2.2.2.1 (by decide) ?_
        refine e_33 rfl (fun h8 => ?_) (fun h8 => ?_)
        · refine e_0 rfl ?_
          refine e_42 rfl ?_
          refine e_9 rfl ?_
          refine e_5 rfl rfl ?_
          refine e_8 rfl rfl rfl ?_
          refine e_42 rfl ?_
          refine e_lv [0, 1, 2, 3] rfl rfl ?_
          show ps_To _ _ _ _ (4, [(3, .int _), (2, .int _), (0, .ref _), (1, .int _)], [], _)
          have e : cntN (thereP μ m what) (i + 1) = cntN (thereP μ m what) i + 1 := congrArg (cntN (thereP μ m what) i + ·) (if_pos (by simp only [thereP]; grind))
          rw [nI_1, ← e]
          exact ih (i + 1) (by omega)
        · refine e_0 rfl ?_
          refine e_42 rfl ?_
          refine e_9 rfl ?_
          refine e_5 rfl rfl ?_
          refine e_8 rfl rfl rfl ?_
          refine e_42 rfl ?_
          refine e_lv [0, 1, 2, 3] rfl rfl ?_
          show ps_To _ _ _ _ (4, [(3, .int _), (2, .int _), (0, .ref _), (1, .int _)], [], _)
          have e : cntN (thereP μ m what) (i + 1) = cntN (thereP μ m what) i + 0 := congrArg (cntN (thereP μ m what) i + ·) (if_neg (by simp only [thereP]; grind))
          rw [nI_1, ← e]
          exact ih (i + 1) (by omega)
theorem mt_there (hm : isMd μ m) (what : Int32) : ps_Ev (ps_XX L xs) (d + 1) j_X8_thereOf [.ref m, .int what] (MS μ m 0 σ) (some (.int (cntN (thereP μ m what) 6))) (MS μ m 0 σ) := by
  refine ⟨Nat.le_of_ble_eq_true rfl, ?_⟩
  refine e_0 rfl ?_
  refine e_5 rfl rfl ?_
  refine e_0 rfl ?_
  refine e_5 rfl rfl ?_
  exact mt_there_loop hm what 6 0 (by omega)
theorem mt_countOf (hm : isMd μ m) (hok : shOK g σ) (what : Int32) : ps_Ev (ps_XX L xs) (d + 3) j_X8_countOf [.ref m, .int what] (MS μ m 0 σ) (some (.int (countM μ m g σ what))) (MS μ m 0 σ) := by
  refine ⟨Nat.le_of_ble_eq_true rfl, ?_⟩
  have hg := hok.1
  have h8 := hok.2.1
  refine e_2 rfl rfl ?_
  refine e_sw rfl rfl (fun h1 => ?_) (fun k t ht h1 => ?_)
  · have h1n0 : ¬ what = 0 := fun q => by subst q; revert h1; decide
    have h1n1 : ¬ what = 1 := fun q => by subst q; revert h1; decide
    have h1n2 : ¬ what = 2 := fun q => by subst q; revert h1; decide
    have h1n3 : ¬ what = 3 := fun q => by subst q; revert h1; decide
    have h1n4 : ¬ what = 4 := fun q => by subst q; revert h1; decide
    have h1n5 : ¬ what = 5 := fun q => by subst q; revert h1; decide
    refine e_4 rfl rfl ?_
    refine e_2 rfl rfl ?_
    refine e_v1 rfl (by first | exact hm.1 | assumption | rfl) rfl (by decide) rfl (Nat.le_of_ble_eq_true rfl) (mt_there hm what) ?_
    exact e_ri rfl rfl (by unfold countM; first | rfl | (rw [if_neg h1n0, if_neg h1n1, if_neg h1n2, if_neg h1n3, if_neg h1n4, if_neg h1n5])) (rfl)
  · match k, ht with
    | 0, ht =>
      cases ht
      obtain rfl : what = 0 := Int32.toInt_inj.mp (h1.trans rfl)
      refine e_4 rfl rfl ?_
      refine m_gangs (by exact hm) rfl rfl ?_
      exact e_ri rfl rfl (by unfold countM; first | rfl | (rw [if_neg h1n0, if_neg h1n1, if_neg h1n2, if_neg h1n3, if_neg h1n4, if_neg h1n5])) (rfl)
    | 1, ht =>
      cases ht
      obtain rfl : what = 1 := Int32.toInt_inj.mp (h1.trans rfl)
      refine e_4 rfl rfl ?_
      refine e_gr rfl hm.1 rfl hm.2.2.2.2.2.2.2.2.2.1 ?_
      refine e_0 rfl ?_
      refine m_ald (k := 1) (x := 0) (by exact hm) (by omega) (by first | rfl | (simp only [← nI_add, ← pk_mul, Nat.zero_add]; rfl)) (by omega) (by first | rfl | (rw [mdX_lo (by omega) (by omega)]; omega) | (rw [mdX_hi (by omega)]; omega)) rfl ?_
      exact e_ri rfl rfl (by unfold countM; first | rfl | (rw [if_neg h1n0, if_neg h1n1, if_neg h1n2, if_neg h1n3, if_neg h1n4, if_neg h1n5])) (rfl)
    | 2, ht =>
      cases ht
      obtain rfl : what = 2 := Int32.toInt_inj.mp (h1.trans rfl)
      refine e_4 rfl rfl ?_
      refine e_gr rfl hm.1 rfl hm.2.2.2.2.2.2.2.2.2.1 ?_
      refine e_0 rfl ?_
      refine m_ald (k := 0) (x := 5) (by exact hm) (by omega) (by first | rfl | (simp only [← nI_add, ← pk_mul, Nat.zero_add]; rfl)) (by omega) (by first | rfl | (rw [mdX_lo (by omega) (by omega)]; omega) | (rw [mdX_hi (by omega)]; omega)) rfl ?_
      exact e_ri rfl rfl (by unfold countM; first | rfl | (rw [if_neg h1n0, if_neg h1n1, if_neg h1n2, if_neg h1n3, if_neg h1n4, if_neg h1n5])) (rfl)
    | 3, ht =>
      cases ht
      obtain rfl : what = 3 := Int32.toInt_inj.mp (h1.trans rfl)
      refine e_4 rfl rfl ?_
      refine e_v0 rfl (by first | exact hm.1 | assumption | rfl) rfl (by decide) rfl (Nat.le_of_ble_eq_true rfl) (mt_sum hm hok) ?_
      exact e_ri rfl rfl (by unfold countM; first | rfl | (rw [if_neg h1n0, if_neg h1n1, if_neg h1n2, if_neg h1n3, if_neg h1n4, if_neg h1n5])) (rfl)
    | 4, ht =>
      cases ht
      obtain rfl : what = 4 := Int32.toInt_inj.mp (h1.trans rfl)
      refine e_4 rfl rfl ?_
      refine e_0 rfl ?_
      refine e_v1 rfl (by first | exact hm.1 | assumption | rfl) rfl (by decide) rfl (Nat.le_of_ble_eq_true rfl) (mt_kind hm hok 1) ?_
      exact e_ri rfl rfl (by unfold countM; first | rfl | (rw [if_neg h1n0, if_neg h1n1, if_neg h1n2, if_neg h1n3, if_neg h1n4, if_neg h1n5])) (rfl)
    | 5, ht =>
      cases ht
      obtain rfl : what = 5 := Int32.toInt_inj.mp (h1.trans rfl)
      refine e_4 rfl rfl ?_
      refine e_0 rfl ?_
      refine e_v1 rfl (by first | exact hm.1 | assumption | rfl) rfl (by decide) rfl (Nat.le_of_ble_eq_true rfl) (mt_kind hm hok 2) ?_
      exact e_ri rfl rfl (by unfold countM; first | rfl | (rw [if_neg h1n0, if_neg h1n1, if_neg h1n2, if_neg h1n3, if_neg h1n4, if_neg h1n5])) (rfl)
    | k + 6, ht => cases ht
theorem mq_count (hm : isMd μ m) (hok : shOK g σ) (what : Int32) : evI (ps_XX L xs) (d + 4) j_X8_count [.ref m, .int what] (MS μ m 0 σ) (if 0 ≤ what ∧ what ≤ 8 then (countM μ m g σ what, MS μ m 0 σ) else (-1, MS μ m 0 σ)) := by
  refine ⟨Nat.le_of_ble_eq_true rfl, ?_⟩
  have hg := hok.1
  have h8 := hok.2.1
  refine e_2 rfl rfl ?_
  refine e_25 rfl ?_
  refine e_1 rfl ?_
  refine e_1 rfl ?_
  refine e_s3 rfl rfl rfl (Nat.le_of_ble_eq_true rfl) (sm_in what 0 8 (by decide) (by decide)) ?_
  refine e_30b rfl (fun h1 => ?_) (fun h1 => ?_)
  · refine e_0 rfl ?_
    exact e_ri rfl rfl (by first | (simp only [eq_false h1, if_true, if_true, if_false, not_true_eq_false, not_false_eq_true, and_true, true_and, and_false, false_and, or_true, true_or, or_false, false_or, reduceIte]; done) | (simp only [eq_false h1, if_true, if_true, if_false, not_true_eq_false, not_false_eq_true, and_true, true_and, and_false, false_and, or_true, true_or, or_false, false_or, reduceIte]; rfl) | rfl) (by first | (simp only [eq_false h1, if_true, if_true, if_false, not_true_eq_false, not_false_eq_true, and_true, true_and, and_false, false_and, or_true, true_or, or_false, false_or, reduceIte]; done) | (simp only [eq_false h1, if_true, if_true, if_false, not_true_eq_false, not_false_eq_true, and_true, true_and, and_false, false_and, or_true, true_or, or_false, false_or, reduceIte]; rfl) | rfl)
  · refine e_4 rfl rfl ?_
    refine e_2 rfl rfl ?_
    refine e_v1 rfl (by first | exact hm.1 | assumption | rfl) rfl (by decide) rfl (Nat.le_of_ble_eq_true rfl) (mt_countOf hm hok what) ?_
    refine e_42 rfl ?_
    exact e_ri rfl rfl (by first | (simp only [eq_true h1, if_true, if_true, if_false, not_true_eq_false, not_false_eq_true, and_true, true_and, and_false, false_and, or_true, true_or, or_false, false_or, reduceIte]; done) | (simp only [eq_true h1, if_true, if_true, if_false, not_true_eq_false, not_false_eq_true, and_true, true_and, and_false, false_and, or_true, true_or, or_false, false_or, reduceIte]; rfl) | rfl) (by first | (simp only [eq_true h1, if_true, if_true, if_false, not_true_eq_false, not_false_eq_true, and_true, true_and, and_false, false_and, or_true, true_or, or_false, false_or, reduceIte]; done) | (simp only [eq_true h1, if_true, if_true, if_false, not_true_eq_false, not_false_eq_true, and_true, true_and, and_false, false_and, or_true, true_or, or_false, false_or, reduceIte]; rfl) | rfl)
theorem mq_findings (hm : isMd μ m) {f : Int32} {k : Nat} (hf : 1 ≤ f ∧ f ≤ 5 → f = nI k ∧ k < 6) : evI (ps_XX L xs) (d + 2) j_X8_findings [.ref m, .int f] (μ) (if 1 ≤ f ∧ f ≤ 5 then (ps_i μ (m + 7) k, μ) else (-1, μ)) := by
  refine ⟨Nat.le_of_ble_eq_true rfl, ?_⟩
  refine e_2 rfl rfl ?_
  refine e_25 rfl ?_
  refine e_1 rfl ?_
  refine e_1 rfl ?_
  refine e_s3 rfl rfl rfl (Nat.le_of_ble_eq_true rfl) (sm_in f 1 5 (by decide) (by decide)) ?_
  refine e_30b rfl (fun h1 => ?_) (fun h1 => ?_)
  · refine e_0 rfl ?_
    exact e_ri rfl rfl (by first | (simp only [eq_false h1, if_true, if_true, if_false, not_true_eq_false, not_false_eq_true, and_true, true_and, and_false, false_and, or_true, true_or, or_false, false_or, reduceIte]; done) | (simp only [eq_false h1, if_true, if_true, if_false, not_true_eq_false, not_false_eq_true, and_true, true_and, and_false, false_and, or_true, true_or, or_false, false_or, reduceIte]; rfl) | rfl) (by first | (simp only [eq_false h1, if_true, if_true, if_false, not_true_eq_false, not_false_eq_true, and_true, true_and, and_false, false_and, or_true, true_or, or_false, false_or, reduceIte]; done) | (simp only [eq_false h1, if_true, if_true, if_false, not_true_eq_false, not_false_eq_true, and_true, true_and, and_false, false_and, or_true, true_or, or_false, false_or, reduceIte]; rfl) | rfl)
  · obtain ⟨rfl, hk⟩ := hf h1
    refine e_4 rfl rfl ?_
    refine e_gr rfl hm.1 rfl hm.2.2.2.2.2.2.2.2.2.2.2.2.2.2.2.1 ?_
    refine e_2 rfl rfl ?_
    refine e_48q (i := k) rfl hm.2.2.2.2.2.2.2.1 (by first | rfl | (simp only [← nI_add, ← pk_mul]; rfl) | (simp only [nI_add, pk_mul, nI_1]; done)) (by omega) (by decide) ?_
    refine e_42 rfl ?_
    exact e_ri rfl rfl (by first | (simp only [eq_true h1, if_true, if_true, if_false, not_true_eq_false, not_false_eq_true, and_true, true_and, and_false, false_and, or_true, true_or, or_false, false_or, reduceIte]; done) | (simp only [eq_true h1, if_true, if_true, if_false, not_true_eq_false, not_false_eq_true, and_true, true_and, and_false, false_and, or_true, true_or, or_false, false_or, reduceIte]; rfl) | rfl) (by first | (simp only [eq_true h1, if_true, if_true, if_false, not_true_eq_false, not_false_eq_true, and_true, true_and, and_false, false_and, or_true, true_or, or_false, false_or, reduceIte]; done) | (simp only [eq_true h1, if_true, if_true, if_false, not_true_eq_false, not_false_eq_true, and_true, true_and, and_false, false_and, or_true, true_or, or_false, false_or, reduceIte]; rfl) | rfl)
theorem mq_finding (hm : isMd μ m) : evI (ps_XX L xs) (d + 1) j_X8_finding [.ref m] (μ) (ps_i μ m 12, μ) := by
  refine ⟨Nat.le_of_ble_eq_true rfl, ?_⟩
  refine e_4 rfl rfl ?_
  refine e_gi rfl hm.1 rfl (by decide) ?_
  exact e_ri rfl rfl (by first | (simp only [if_true, if_true, if_false, not_true_eq_false, not_false_eq_true, and_true, true_and, and_false, false_and, or_true, true_or, or_false, false_or, reduceIte]; done) | (simp only [if_true, if_true, if_false, not_true_eq_false, not_false_eq_true, and_true, true_and, and_false, false_and, or_true, true_or, or_false, false_or, reduceIte]; rfl) | rfl) (by first | (simp only [if_true, if_true, if_false, not_true_eq_false, not_false_eq_true, and_true, true_and, and_false, false_and, or_true, true_or, or_false, false_or, reduceIte]; done) | (simp only [if_true, if_true, if_false, not_true_eq_false, not_false_eq_true, and_true, true_and, and_false, false_and, or_true, true_or, or_false, false_or, reduceIte]; rfl) | rfl)
theorem mq_asked (hm : isMd μ m) : evI (ps_XX L xs) (d + 1) j_X8_asked [.ref m] (μ) (ps_i μ m 9, μ) := by
  refine ⟨Nat.le_of_ble_eq_true rfl, ?_⟩
  refine e_4 rfl rfl ?_
  refine e_gi rfl hm.1 rfl (by decide) ?_
  exact e_ri rfl rfl (by first | (simp only [if_true, if_true, if_false, not_true_eq_false, not_false_eq_true, and_true, true_and, and_false, false_and, or_true, true_or, or_false, false_or, reduceIte]; done) | (simp only [if_true, if_true, if_false, not_true_eq_false, not_false_eq_true, and_true, true_and, and_false, false_and, or_true, true_or, or_false, false_or, reduceIte]; rfl) | rfl) (by first | (simp only [if_true, if_true, if_false, not_true_eq_false, not_false_eq_true, and_true, true_and, and_false, false_and, or_true, true_or, or_false, false_or, reduceIte]; done) | (simp only [if_true, if_true, if_false, not_true_eq_false, not_false_eq_true, and_true, true_and, and_false, false_and, or_true, true_or, or_false, false_or, reduceIte]; rfl) | rfl)
theorem mq_upper (hm : isMd μ m) : ps_Ev (ps_XX L xs) (d + 1) j_X8_upper [.ref m] μ (some (.long (ps_l μ m 10))) μ := by
  refine ⟨Nat.le_of_ble_eq_true rfl, ?_⟩
  refine e_4 rfl rfl ?_
  refine e_gl rfl hm.1 rfl ?_
  exact e_rl rfl (by first | (simp only [if_true, if_true, if_false, not_true_eq_false, not_false_eq_true, and_true, true_and, and_false, false_and, or_true, true_or, or_false, false_or, reduceIte]; done) | (simp only [if_true, if_true, if_false, not_true_eq_false, not_false_eq_true, and_true, true_and, and_false, false_and, or_true, true_or, or_false, false_or, reduceIte]; rfl) | rfl) (by first | (simp only [if_true, if_true, if_false, not_true_eq_false, not_false_eq_true, and_true, true_and, and_false, false_and, or_true, true_or, or_false, false_or, reduceIte]; done) | (simp only [if_true, if_true, if_false, not_true_eq_false, not_false_eq_true, and_true, true_and, and_false, false_and, or_true, true_or, or_false, false_or, reduceIte]; rfl) | rfl)
theorem mq_lower (hm : isMd μ m) : ps_Ev (ps_XX L xs) (d + 1) j_X8_lower [.ref m] μ (some (.long (ps_l μ m 11))) μ := by
  refine ⟨Nat.le_of_ble_eq_true rfl, ?_⟩
  refine e_4 rfl rfl ?_
  refine e_gl rfl hm.1 rfl ?_
  exact e_rl rfl (by first | (simp only [if_true, if_true, if_false, not_true_eq_false, not_false_eq_true, and_true, true_and, and_false, false_and, or_true, true_or, or_false, false_or, reduceIte]; done) | (simp only [if_true, if_true, if_false, not_true_eq_false, not_false_eq_true, and_true, true_and, and_false, false_and, or_true, true_or, or_false, false_or, reduceIte]; rfl) | rfl) (by first | (simp only [if_true, if_true, if_false, not_true_eq_false, not_false_eq_true, and_true, true_and, and_false, false_and, or_true, true_or, or_false, false_or, reduceIte]; done) | (simp only [if_true, if_true, if_false, not_true_eq_false, not_false_eq_true, and_true, true_and, and_false, false_and, or_true, true_or, or_false, false_or, reduceIte]; rfl) | rfl)
end MQ4
