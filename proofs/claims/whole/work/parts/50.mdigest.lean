-- ===== the digest of the model =====
def dgF (f : Nat → Int32) : Nat → Int64 → Int64
  | 0, h => h
  | n + 1, h => 31 * dgF f n h + (f n).toInt64
def rwF (sz : Nat → Int32) (it : Nat → Nat → Int32) : Nat → Int64 → Int64
  | 0, h => h
  | n + 1, h => dgF (it n) (sz n).toNatClampNeg (31 * rwF sz it n h + (sz n).toInt64)
theorem dg_c {f k : Nat → Int32} : ∀ n, (∀ i, i < n → f i = k i) → ∀ h, dgF f n h = dgF k n h
  | 0, _, _ => rfl
  | n + 1, e, h => by
    unfold dgF
    rw [dg_c n (fun i hi => e i (by omega)) h, e n (by omega)]
def szP (z : Int32) (M : Nat) : Prop := z = -1 ∨ ∃ S, S ≤ M ∧ z = nI S
theorem sz_le {z : Int32} {M : Nat} (hM : M ≤ 60) (h : szP z M) {i : Nat} (hi : i ≤ 60) : z ≤ nI i ↔ z.toNatClampNeg ≤ i := by
  rcases h with rfl | ⟨S, hS, rfl⟩
  · constructor
    · intro _
      show (0 : Nat) ≤ i
      omega
    · intro _
      rw [Int32.le_iff_toInt_le, nI_toInt (by omega)]
      show (-1 : Int) ≤ i
      omega
  · rw [nI_clamp (by omega)]
    exact nI_leI (by omega) (by omega)
theorem sz_bd {z : Int32} {M : Nat} (hM : M ≤ 60) (h : szP z M) : z.toNatClampNeg ≤ M := by
  rcases h with rfl | ⟨S, hS, rfl⟩
  · exact Nat.zero_le _
  · rw [nI_clamp (by omega)]; exact hS
section MQE
variable {L : Nat} {xs : Nat → Int32} {d : Nat} {μ : ps_M} {m : Nat} {σ : Nat → Int32} {g : Nat}
theorem mt_dg1 (hm : isMd μ m) (hok : shOK g σ) (h : Int64) {K : ps_F → Prop} {r' : Option Value} {μ' : ps_M} (hK : K = ps_rt j_X8_digest r' μ') (hk : ps_To (ps_XX L xs) (ps_Ev (ps_XX L xs) (d + 4)) j_X8_digest K (31, [(1, .long (dgF (fun k => countM μ m g σ (nI k)) 9 h)), (0, .ref (m))], [], MS μ m 0 σ)) : ∀ (n i : Nat), i + n = 9 → ps_To (ps_XX L xs) (ps_Ev (ps_XX L xs) (d + 4)) j_X8_digest K (6, [(3, .int (nI i)), (1, .long (dgF (fun k => countM μ m g σ (nI k)) i h)), (0, .ref (m))], [], MS μ m 0 σ) := by
  subst hK
  intro n
  induction n with
  | zero =>
    intro i hi
    obtain rfl : i = 9 := by omega
    skip
    refine e_2 rfl rfl ?_
    refine e_0 rfl ?_
    refine e_39 rfl (fun h1 => ?_) (fun h1 => ?_)
    · refine e_lv [1, 2] rfl rfl ?_
      show ps_To _ _ _ _ (31, [(1, .long _), (0, .ref _)], [], _)
      exact hk
    · exact absurd (show nI 9 ≤ nI 9 from nI_le (Nat.le_refl _) (by omega)) h1
  | succ n ih =>
    intro i hi
    refine e_2 rfl rfl ?_
    refine e_0 rfl ?_
    refine e_39 rfl (fun h1 => ?_) (fun h1 => ?_)
    · exact absurd (show nI 9 ≤ nI i from h1) (nI_ge (by omega) (by omega))
    · refine e_1 rfl ?_
      refine e_3 rfl rfl ?_
      refine e_21 rfl ?_
      refine e_4 rfl rfl ?_
      refine e_2 rfl rfl ?_
      refine e_v1 rfl (by first | exact hm.1 | assumption | rfl) rfl (by decide) rfl (Nat.le_of_ble_eq_true rfl) (mt_countOf hm hok _) ?_
      refine e_25 rfl ?_
      refine e_19 rfl ?_
      refine e_6 rfl rfl ?_
      refine e_8 rfl rfl rfl ?_
      refine e_42 rfl ?_
      refine e_lv [0, 1, 2] rfl rfl ?_
      show ps_To _ _ _ _ (6, [(3, .int _), (1, .long _), (0, .ref _)], [], _)
      have h2 := ih (i + 1) (by omega)
      rw [nI_1]
      exact h2
theorem mt_dg2 (hm : isMd μ m) (hok : shOK g σ) (h : Int64) (h7 : σ 7 = 0 ∨ σ 7 = 1) (h0 : ¬ σ 8 ≤ 0) {K : ps_F → Prop} {r' : Option Value} {μ' : ps_M} (hK : K = ps_rt j_X8_digest r' μ') (hk : ps_To (ps_XX L xs) (ps_Ev (ps_XX L xs) (d + 4)) j_X8_digest K (65, [(1, .long (dgF (fun k => ofShipF σ (nI k)) 9 h)), (0, .ref (m))], [], MS μ m 0 σ)) : ∀ (n i : Nat), i + n = 9 → ps_To (ps_XX L xs) (ps_Ev (ps_XX L xs) (d + 4)) j_X8_digest K (33, [(3, .int (nI i)), (1, .long (dgF (fun k => ofShipF σ (nI k)) i h)), (0, .ref (m))], [], MS μ m 0 σ) := by
  subst hK
  intro n
  induction n with
  | zero =>
    intro i hi
    obtain rfl : i = 9 := by omega
    skip
    refine e_2 rfl rfl ?_
    refine e_0 rfl ?_
    refine e_39 rfl (fun h1 => ?_) (fun h1 => ?_)
    · refine e_lv [1, 2] rfl rfl ?_
      show ps_To _ _ _ _ (65, [(1, .long _), (0, .ref _)], [], _)
      exact hk
    · exact absurd (show nI 9 ≤ nI 9 from nI_le (Nat.le_refl _) (by omega)) h1
  | succ n ih =>
    intro i hi
    refine e_2 rfl rfl ?_
    refine e_0 rfl ?_
    refine e_39 rfl (fun h1 => ?_) (fun h1 => ?_)
    · exact absurd (show nI 9 ≤ nI i from h1) (nI_ge (by omega) (by omega))
    · refine e_4 rfl rfl ?_
      refine m_gangs (by exact hm) rfl rfl ?_
      refine e_35 rfl (fun h2 => ?_) (fun h2 => ?_)
      · exact absurd h2 h0
      · refine e_1 rfl ?_
        refine e_3 rfl rfl ?_
        refine e_21 rfl ?_
        refine e_4 rfl rfl ?_
        refine e_2 rfl rfl ?_
        refine e_v1 rfl (by first | exact hm.1 | assumption | rfl) rfl (by decide) rfl (Nat.le_of_ble_eq_true rfl) (mt_tellOf hm hok h7 _) ?_
        refine e_25 rfl ?_
        refine e_19 rfl ?_
        refine e_6 rfl rfl ?_
        refine e_8 rfl rfl rfl ?_
        refine e_42 rfl ?_
        refine e_lv [0, 1, 2] rfl rfl ?_
        show ps_To _ _ _ _ (33, [(3, .int _), (1, .long _), (0, .ref _)], [], _)
        have h2 := ih (i + 1) (by omega)
        rw [nI_1]
        exact h2
theorem mt_dg3 (hm : isMd μ m) (hok : shOK g σ) (h : Int64) {K : ps_F → Prop} {r' : Option Value} {μ' : ps_M} (hK : K = ps_rt j_X8_digest r' μ') (hk : ps_To (ps_XX L xs) (ps_Ev (ps_XX L xs) (d + 5)) j_X8_digest K (101, [(1, .long (dgF (fun k => ofGangF σ (k / 5) (nI (k % 5))) (5 * g) h)), (0, .ref (m))], [], MS μ m 0 σ)) : ∀ (n i : Nat), i + n = 5 * g → ps_To (ps_XX L xs) (ps_Ev (ps_XX L xs) (d + 5)) j_X8_digest K (67, [(3, .int (nI i)), (1, .long (dgF (fun k => ofGangF σ (k / 5) (nI (k % 5))) i h)), (0, .ref (m))], [], MS μ m 0 σ) := by
  subst hK
  intro n
  induction n with
  | zero =>
    intro i hi
    obtain rfl : i = 5 * g := by omega
    have hg := hok.1
    refine e_2 rfl rfl ?_
    refine e_0 rfl ?_
    refine e_4 rfl rfl ?_
    refine m_gangs (by exact hm) rfl rfl ?_
    refine e_11 rfl ?_
    rw [hok.2.1, show (5 : Int32) = nI 5 from rfl, pk_mul]
    refine e_39 rfl (fun h1 => ?_) (fun h1 => ?_)
    · refine e_lv [1, 2] rfl rfl ?_
      show ps_To _ _ _ _ (101, [(1, .long _), (0, .ref _)], [], _)
      exact hk
    · exact absurd (nI_le (Nat.le_refl _) (by omega)) h1
  | succ n ih =>
    intro i hi
    have hg := hok.1
    refine e_2 rfl rfl ?_
    refine e_0 rfl ?_
    refine e_4 rfl rfl ?_
    refine m_gangs (by exact hm) rfl rfl ?_
    refine e_11 rfl ?_
    rw [hok.2.1, show (5 : Int32) = nI 5 from rfl, pk_mul]
    refine e_39 rfl (fun h1 => ?_) (fun h1 => ?_)
    · exact absurd h1 (nI_ge (by omega) (by omega))
    · refine e_1 rfl ?_
      refine e_3 rfl rfl ?_
      refine e_21 rfl ?_
      refine e_4 rfl rfl ?_
      refine e_2 rfl rfl ?_
      refine e_0 rfl ?_
      refine e_17 rfl (by first | decide | assumption) ?_
      rw [show (5 : Int32) = nI 5 from rfl, pk_div (by omega) (by omega) (by omega)]
      refine e_2 rfl rfl ?_
      refine e_0 rfl ?_
      refine e_18 rfl (by first | decide | assumption) ?_
      rw [show (5 : Int32) = nI 5 from rfl, pk_rem (by omega) (by omega) (by omega)]
      refine e_v2 rfl (by first | exact hm.1 | assumption | rfl) rfl (by decide) rfl (Nat.le_of_ble_eq_true rfl) (mt_toldOf hm hok (x := i / 5) (by omega) _) ?_
      refine e_25 rfl ?_
      refine e_19 rfl ?_
      refine e_6 rfl rfl ?_
      refine e_8 rfl rfl rfl ?_
      refine e_42 rfl ?_
      refine e_lv [0, 1, 2] rfl rfl ?_
      show ps_To _ _ _ _ (67, [(3, .int _), (1, .long _), (0, .ref _)], [], _)
      have h2 := ih (i + 1) (by omega)
      rw [nI_1]
      exact h2
theorem mt_dg4 (hm : isMd μ m) (h : Int64) {K : ps_F → Prop} {r' : Option Value} {μ' : ps_M} (hK : K = ps_rt j_X8_digest r' μ') (hk : ps_To (ps_XX L xs) (ps_Ev (ps_XX L xs) (d + 4)) j_X8_digest K (134, [(1, .long (dgF (fun k => ps_i μ (m + 1) (458 * (k + 1))) 3 h)), (0, .ref (m))], [], MS μ m 0 σ)) : ∀ (n i : Nat), i + n = 3 → ps_To (ps_XX L xs) (ps_Ev (ps_XX L xs) (d + 4)) j_X8_digest K (103, [(3, .int (nI (i + 1))), (1, .long (dgF (fun k => ps_i μ (m + 1) (458 * (k + 1))) i h)), (0, .ref (m))], [], MS μ m 0 σ) := by
  subst hK
  intro n
  induction n with
  | zero =>
    intro i hi
    obtain rfl : i = 3 := by omega
    skip
    refine e_2 rfl rfl ?_
    refine e_0 rfl ?_
    refine e_39 rfl (fun h1 => ?_) (fun h1 => ?_)
    · refine e_lv [1, 2] rfl rfl ?_
      show ps_To _ _ _ _ (134, [(1, .long _), (0, .ref _)], [], _)
      exact hk
    · exact absurd (show nI 4 ≤ nI 4 from nI_le (Nat.le_refl _) (by omega)) h1
  | succ n ih =>
    intro i hi
    refine e_2 rfl rfl ?_
    refine e_0 rfl ?_
    refine e_39 rfl (fun h1 => ?_) (fun h1 => ?_)
    · exact absurd (show nI 4 ≤ nI (i + 1) from h1) (nI_ge (by omega) (by omega))
    · refine e_1 rfl ?_
      refine e_3 rfl rfl ?_
      refine e_21 rfl ?_
      refine e_4 rfl rfl ?_
      refine e_gr rfl hm.1 rfl hm.2.2.2.2.2.2.2.2.2.1 ?_
      refine e_0 rfl ?_
      refine e_2 rfl rfl ?_
      refine e_11 rfl ?_
      refine e_0 rfl ?_
      refine e_9 rfl ?_
      refine m_r_ld (i := (458 * (i + 1))) (by exact hm) (by rw [Int32.add_zero, show (458 : Int32) = nI 458 from rfl, pk_mul]) (by omega) (by omega) rfl ?_
      refine e_25 rfl ?_
      refine e_19 rfl ?_
      refine e_6 rfl rfl ?_
      refine e_8 rfl rfl rfl ?_
      refine e_42 rfl ?_
      refine e_lv [0, 1, 2] rfl rfl ?_
      show ps_To _ _ _ _ (103, [(3, .int _), (1, .long _), (0, .ref _)], [], _)
      have h2 := ih (i + 1) (by omega)
      rw [nI_1]
      exact h2
theorem mt_dgr_in (hm : isMd μ m) (h : Int64) {k : Nat} (hk : k < 6) (hz : szP (ps_i μ (m + 3) k) 40) {K : ps_F → Prop} {r' : Option Value} {μ' : ps_M} (hK : K = ps_rt j_X8_digest r' μ') (hk : ps_To (ps_XX L xs) (ps_Ev (ps_XX L xs) (d + 4)) j_X8_digest K (196, [(1, .long (dgF (fun x => ps_i μ (m + 4) (40 * k + x)) (ps_i μ (m + 3) k).toNatClampNeg h)), (3, .int (nI k)), (0, .ref (m))], [], MS μ m 0 σ)) : ∀ (n i : Nat), i + n = (ps_i μ (m + 3) k).toNatClampNeg → ps_To (ps_XX L xs) (ps_Ev (ps_XX L xs) (d + 4)) j_X8_digest K (159, [(4, .int (nI i)), (1, .long (dgF (fun x => ps_i μ (m + 4) (40 * k + x)) i h)), (3, .int (nI k)), (0, .ref (m))], [], MS μ m 0 σ) := by
  subst hK
  intro n
  induction n with
  | zero =>
    intro i hi
    have hb := sz_bd (by omega) hz
    refine e_2 rfl rfl ?_
    refine e_4 rfl rfl ?_
    refine e_gr rfl hm.1 rfl hm.2.2.2.2.2.2.2.2.2.2.2.1 ?_
    refine e_2 rfl rfl ?_
    refine m_a_ld (i := k) (c := 3) (n := 6) (by first | rfl | (simp only [← nI_add, ← pk_mul]; rfl) | (simp only [nI_add, pk_mul, nI_1]; done)) (by omega) (by decide) rfl hm.2.2.2.1 (by decide) ?_
    refine e_39 rfl (fun h1 => ?_) (fun h1 => ?_)
    · refine e_lv [1, 2, 3] rfl rfl ?_
      show ps_To _ _ _ _ (196, [(1, .long _), (3, .int _), (0, .ref _)], [], _)
      have ei : i = (ps_i μ (m + 3) k).toNatClampNeg := by omega
      rw [← ei] at hk
      exact hk
    · exact absurd ((sz_le (by omega) hz (by omega)).mpr (by omega)) h1
  | succ n ih =>
    intro i hi
    have hb := sz_bd (by omega) hz
    refine e_2 rfl rfl ?_
    refine e_4 rfl rfl ?_
    refine e_gr rfl hm.1 rfl hm.2.2.2.2.2.2.2.2.2.2.2.1 ?_
    refine e_2 rfl rfl ?_
    refine m_a_ld (i := k) (c := 3) (n := 6) (by first | rfl | (simp only [← nI_add, ← pk_mul]; rfl) | (simp only [nI_add, pk_mul, nI_1]; done)) (by omega) (by decide) rfl hm.2.2.2.1 (by decide) ?_
    refine e_39 rfl (fun h1 => ?_) (fun h1 => ?_)
    · exact absurd ((sz_le (by omega) hz (by omega)).mp h1) (by omega)
    · refine e_1 rfl ?_
      refine e_3 rfl rfl ?_
      refine e_21 rfl ?_
      refine e_4 rfl rfl ?_
      refine e_gr rfl hm.1 rfl hm.2.2.2.2.2.2.2.2.2.2.2.2.1 ?_
      refine e_0 rfl ?_
      refine e_2 rfl rfl ?_
      refine e_11 rfl ?_
      refine e_2 rfl rfl ?_
      refine e_9 rfl ?_
      refine m_a_ld (i := ((40 * k) + i)) (c := 4) (n := 240) (by first | rfl | (simp only [← nI_add, ← pk_mul]; rfl) | (simp only [nI_add, pk_mul, nI_1]; done)) (by omega) (by decide) rfl hm.2.2.2.2.1 (by decide) ?_
      refine e_25 rfl ?_
      refine e_19 rfl ?_
      refine e_6 rfl rfl ?_
      refine e_8 rfl rfl rfl ?_
      refine e_42 rfl ?_
      refine e_lv [0, 1, 2, 3] rfl rfl ?_
      show ps_To _ _ _ _ (159, [(4, .int _), (1, .long _), (3, .int _), (0, .ref _)], [], _)
      have h2 := ih (i + 1) (by omega)
      rw [nI_1]
      exact h2
theorem mt_dgr (hm : isMd μ m) (h : Int64) (hz : ∀ k, k < 6 → szP (ps_i μ (m + 3) k) 40) {K : ps_F → Prop} {r' : Option Value} {μ' : ps_M} (hK : K = ps_rt j_X8_digest r' μ') (hk : ps_To (ps_XX L xs) (ps_Ev (ps_XX L xs) (d + 4)) j_X8_digest K (202, [(1, .long (rwF (fun k => ps_i μ (m + 3) k) (fun k x => ps_i μ (m + 4) (40 * k + x)) 6 h)), (0, .ref (m))], [], MS μ m 0 σ)) : ∀ (n i : Nat), i + n = 6 → ps_To (ps_XX L xs) (ps_Ev (ps_XX L xs) (d + 4)) j_X8_digest K (136, [(3, .int (nI i)), (1, .long (rwF (fun k => ps_i μ (m + 3) k) (fun k x => ps_i μ (m + 4) (40 * k + x)) i h)), (0, .ref (m))], [], MS μ m 0 σ) := by
  subst hK
  intro n
  induction n with
  | zero =>
    intro i hi
    obtain rfl : i = 6 := by omega
    skip
    refine e_2 rfl rfl ?_
    refine e_0 rfl ?_
    refine e_39 rfl (fun h1 => ?_) (fun h1 => ?_)
    · refine e_lv [1, 2] rfl rfl ?_
      show ps_To _ _ _ _ (202, [(1, .long _), (0, .ref _)], [], _)
      exact hk
    · exact absurd (show nI 6 ≤ nI 6 from nI_le (Nat.le_refl _) (by omega)) h1
  | succ n ih =>
    intro i hi
    refine e_2 rfl rfl ?_
    refine e_0 rfl ?_
    refine e_39 rfl (fun h1 => ?_) (fun h1 => ?_)
    · exact absurd (show nI 6 ≤ nI i from h1) (nI_ge (by omega) (by omega))
    · refine e_1 rfl ?_
      refine e_3 rfl rfl ?_
      refine e_21 rfl ?_
      refine e_4 rfl rfl ?_
      refine e_gr rfl hm.1 rfl hm.2.2.2.2.2.2.2.2.2.2.2.1 ?_
      refine e_2 rfl rfl ?_
      refine m_a_ld (i := i) (c := 3) (n := 6) (by first | rfl | (simp only [← nI_add, ← pk_mul]; rfl) | (simp only [nI_add, pk_mul, nI_1]; done)) (by omega) (by decide) rfl hm.2.2.2.1 (by decide) ?_
      refine e_25 rfl ?_
      refine e_19 rfl ?_
      refine e_6 rfl rfl ?_
      refine e_0 rfl ?_
      refine e_5 rfl rfl ?_
      refine e_lv [0, 1, 2, 3] rfl rfl ?_
      refine mt_dgr_in (L := L) (xs := xs) (d := d) hm (31 * rwF (fun k => ps_i μ (m + 3) k) (fun k x => ps_i μ (m + 4) (40 * k + x)) i h + (ps_i μ (m + 3) i).toInt64) (k := i) (by omega) (hz i (by omega)) rfl ?_ _ 0 (Nat.zero_add _)
      refine e_8 rfl rfl rfl ?_
      refine e_42 rfl ?_
      refine e_lv [0, 1, 2] rfl rfl ?_
      show ps_To _ _ _ _ (136, [(3, .int _), (1, .long _), (0, .ref _)], [], _)
      have h2 := ih (i + 1) (by omega)
      rw [nI_1]
      exact h2
theorem mt_dgt_in (hm : isMd μ m) (h : Int64) {k : Nat} (hk : k < 4) (hz : szP (ps_i μ (m + 5) k) 60) {K : ps_F → Prop} {r' : Option Value} {μ' : ps_M} (hK : K = ps_rt j_X8_digest r' μ') (hk : ps_To (ps_XX L xs) (ps_Ev (ps_XX L xs) (d + 4)) j_X8_digest K (263, [(1, .long (dgF (fun x => ps_i μ (m + 6) (60 * k + x)) (ps_i μ (m + 5) k).toNatClampNeg h)), (3, .int (nI k)), (0, .ref (m))], [], MS μ m 0 σ)) : ∀ (n i : Nat), i + n = (ps_i μ (m + 5) k).toNatClampNeg → ps_To (ps_XX L xs) (ps_Ev (ps_XX L xs) (d + 4)) j_X8_digest K (226, [(4, .int (nI i)), (1, .long (dgF (fun x => ps_i μ (m + 6) (60 * k + x)) i h)), (3, .int (nI k)), (0, .ref (m))], [], MS μ m 0 σ) := by
  subst hK
  intro n
  induction n with
  | zero =>
    intro i hi
    have hb := sz_bd (by omega) hz
    refine e_2 rfl rfl ?_
    refine e_4 rfl rfl ?_
    refine e_gr rfl hm.1 rfl hm.2.2.2.2.2.2.2.2.2.2.2.2.2.1 ?_
    refine e_2 rfl rfl ?_
    refine m_a_ld (i := k) (c := 5) (n := 4) (by first | rfl | (simp only [← nI_add, ← pk_mul]; rfl) | (simp only [nI_add, pk_mul, nI_1]; done)) (by omega) (by decide) rfl hm.2.2.2.2.2.1 (by decide) ?_
    refine e_39 rfl (fun h1 => ?_) (fun h1 => ?_)
    · refine e_lv [1, 2, 3] rfl rfl ?_
      show ps_To _ _ _ _ (263, [(1, .long _), (3, .int _), (0, .ref _)], [], _)
      have ei : i = (ps_i μ (m + 5) k).toNatClampNeg := by omega
      rw [← ei] at hk
      exact hk
    · exact absurd ((sz_le (by omega) hz (by omega)).mpr (by omega)) h1
  | succ n ih =>
    intro i hi
    have hb := sz_bd (by omega) hz
    refine e_2 rfl rfl ?_
    refine e_4 rfl rfl ?_
    refine e_gr rfl hm.1 rfl hm.2.2.2.2.2.2.2.2.2.2.2.2.2.1 ?_
    refine e_2 rfl rfl ?_
    refine m_a_ld (i := k) (c := 5) (n := 4) (by first | rfl | (simp only [← nI_add, ← pk_mul]; rfl) | (simp only [nI_add, pk_mul, nI_1]; done)) (by omega) (by decide) rfl hm.2.2.2.2.2.1 (by decide) ?_
    refine e_39 rfl (fun h1 => ?_) (fun h1 => ?_)
    · exact absurd ((sz_le (by omega) hz (by omega)).mp h1) (by omega)
    · refine e_1 rfl ?_
      refine e_3 rfl rfl ?_
      refine e_21 rfl ?_
      refine e_4 rfl rfl ?_
      refine e_gr rfl hm.1 rfl hm.2.2.2.2.2.2.2.2.2.2.2.2.2.2.1 ?_
      refine e_0 rfl ?_
      refine e_2 rfl rfl ?_
      refine e_11 rfl ?_
      refine e_2 rfl rfl ?_
      refine e_9 rfl ?_
      refine m_a_ld (i := ((60 * k) + i)) (c := 6) (n := 240) (by first | rfl | (simp only [← nI_add, ← pk_mul]; rfl) | (simp only [nI_add, pk_mul, nI_1]; done)) (by omega) (by decide) rfl hm.2.2.2.2.2.2.1 (by decide) ?_
      refine e_25 rfl ?_
      refine e_19 rfl ?_
      refine e_6 rfl rfl ?_
      refine e_8 rfl rfl rfl ?_
      refine e_42 rfl ?_
      refine e_lv [0, 1, 2, 3] rfl rfl ?_
      show ps_To _ _ _ _ (226, [(4, .int _), (1, .long _), (3, .int _), (0, .ref _)], [], _)
      have h2 := ih (i + 1) (by omega)
      rw [nI_1]
      exact h2
theorem mt_dgt (hm : isMd μ m) (h : Int64) (hz : ∀ k, k < 4 → szP (ps_i μ (m + 5) k) 60) {K : ps_F → Prop} {r' : Option Value} {μ' : ps_M} (hK : K = ps_rt j_X8_digest r' μ') (hk : ps_To (ps_XX L xs) (ps_Ev (ps_XX L xs) (d + 4)) j_X8_digest K (269, [(1, .long (rwF (fun k => ps_i μ (m + 5) k) (fun k x => ps_i μ (m + 6) (60 * k + x)) 4 h)), (0, .ref (m))], [], MS μ m 0 σ)) : ∀ (n i : Nat), i + n = 4 → ps_To (ps_XX L xs) (ps_Ev (ps_XX L xs) (d + 4)) j_X8_digest K (204, [(3, .int (nI i)), (1, .long (rwF (fun k => ps_i μ (m + 5) k) (fun k x => ps_i μ (m + 6) (60 * k + x)) i h)), (0, .ref (m))], [], MS μ m 0 σ) := by
  subst hK
  intro n
  induction n with
  | zero =>
    intro i hi
    obtain rfl : i = 4 := by omega
    skip
    refine e_2 rfl rfl ?_
    refine e_0 rfl ?_
    refine e_39 rfl (fun h1 => ?_) (fun h1 => ?_)
    · refine e_lv [1, 2] rfl rfl ?_
      show ps_To _ _ _ _ (269, [(1, .long _), (0, .ref _)], [], _)
      exact hk
    · exact absurd (show nI 4 ≤ nI 4 from nI_le (Nat.le_refl _) (by omega)) h1
  | succ n ih =>
    intro i hi
    refine e_2 rfl rfl ?_
    refine e_0 rfl ?_
    refine e_39 rfl (fun h1 => ?_) (fun h1 => ?_)
    · exact absurd (show nI 4 ≤ nI i from h1) (nI_ge (by omega) (by omega))
    · refine e_1 rfl ?_
      refine e_3 rfl rfl ?_
      refine e_21 rfl ?_
      refine e_4 rfl rfl ?_
      refine e_gr rfl hm.1 rfl hm.2.2.2.2.2.2.2.2.2.2.2.2.2.1 ?_
      refine e_2 rfl rfl ?_
      refine m_a_ld (i := i) (c := 5) (n := 4) (by first | rfl | (simp only [← nI_add, ← pk_mul]; rfl) | (simp only [nI_add, pk_mul, nI_1]; done)) (by omega) (by decide) rfl hm.2.2.2.2.2.1 (by decide) ?_
      refine e_25 rfl ?_
      refine e_19 rfl ?_
      refine e_6 rfl rfl ?_
      refine e_0 rfl ?_
      refine e_5 rfl rfl ?_
      refine e_lv [0, 1, 2, 3] rfl rfl ?_
      refine mt_dgt_in (L := L) (xs := xs) (d := d) hm (31 * rwF (fun k => ps_i μ (m + 5) k) (fun k x => ps_i μ (m + 6) (60 * k + x)) i h + (ps_i μ (m + 5) i).toInt64) (k := i) (by omega) (hz i (by omega)) rfl ?_ _ 0 (Nat.zero_add _)
      refine e_8 rfl rfl rfl ?_
      refine e_42 rfl ?_
      refine e_lv [0, 1, 2] rfl rfl ?_
      show ps_To _ _ _ _ (204, [(3, .int _), (1, .long _), (0, .ref _)], [], _)
      have h2 := ih (i + 1) (by omega)
      rw [nI_1]
      exact h2
def digM (μ : ps_M) (m g : Nat) (σ : Nat → Int32) : Int64 := rwF (fun k => ps_i μ (m + 5) k) (fun k x => ps_i μ (m + 6) (60 * k + x)) 4 (rwF (fun k => ps_i μ (m + 3) k) (fun k x => ps_i μ (m + 4) (40 * k + x)) 6 (dgF (fun k => ps_i μ (m + 1) (458 * (k + 1))) 3 (dgF (fun k => ofGangF σ (k / 5) (nI (k % 5))) (5 * g) (if σ 8 ≤ 0 then dgF (fun k => countM μ m g σ (nI k)) 9 17 else dgF (fun k => ofShipF σ (nI k)) 9 (dgF (fun k => countM μ m g σ (nI k)) 9 17)))))
theorem mt_digest_tail (hm : isMd μ m) (hok : shOK g σ) (hzr : ∀ k, k < 6 → szP (ps_i μ (m + 3) k) 40) (hzt : ∀ k, k < 4 → szP (ps_i μ (m + 5) k) 60) (h : Int64) : ps_To (ps_XX L xs) (ps_Ev (ps_XX L xs) (d + 5)) j_X8_digest (ps_rt j_X8_digest (some (.long (rwF (fun k => ps_i μ (m + 5) k) (fun k x => ps_i μ (m + 6) (60 * k + x)) 4 (rwF (fun k => ps_i μ (m + 3) k) (fun k x => ps_i μ (m + 4) (40 * k + x)) 6 (dgF (fun k => ps_i μ (m + 1) (458 * (k + 1))) 3 (dgF (fun k => ofGangF σ (k / 5) (nI (k % 5))) (5 * g) h)))))) (MS μ m 0 σ)) (65, [(1, .long h), (0, .ref m)], [], MS μ m 0 σ) := by
  refine e_0 rfl ?_
  refine e_5 rfl rfl ?_
  refine e_lv [0, 1, 2] rfl rfl ?_
  refine mt_dg3 (L := L) (xs := xs) (d := d) hm hok _ rfl ?_ (5 * g) 0 (by omega)
  refine e_0 rfl ?_
  refine e_5 rfl rfl ?_
  refine e_lv [0, 1, 2] rfl rfl ?_
  refine mt_dg4 (L := L) (xs := xs) (d := d + 1) hm _ rfl ?_ 3 0 (by omega)
  refine e_0 rfl ?_
  refine e_5 rfl rfl ?_
  refine e_lv [0, 1, 2] rfl rfl ?_
  refine mt_dgr (L := L) (xs := xs) (d := d + 1) hm _ hzr rfl ?_ 6 0 (by omega)
  refine e_0 rfl ?_
  refine e_5 rfl rfl ?_
  refine e_lv [0, 1, 2] rfl rfl ?_
  refine mt_dgt (L := L) (xs := xs) (d := d + 1) hm _ hzt rfl ?_ 4 0 (by omega)
  refine e_3 rfl rfl ?_
  exact e_rl rfl (by rfl) (rfl)
theorem mq_digest (hm : isMd μ m) (hok : shOK g σ) (h7 : σ 7 = 0 ∨ σ 7 = 1) (hzr : ∀ k, k < 6 → szP (ps_i μ (m + 3) k) 40) (hzt : ∀ k, k < 4 → szP (ps_i μ (m + 5) k) 60) : ps_Ev (ps_XX L xs) (d + 6) j_X8_digest [.ref m] (MS μ m 0 σ) (some (.long (digM μ m g σ))) (MS μ m 0 σ) := by
  refine ⟨Nat.le_of_ble_eq_true rfl, ?_⟩
  refine e_1 rfl ?_
  refine e_6 rfl rfl ?_
  refine e_0 rfl ?_
  refine e_5 rfl rfl ?_
  refine e_lv [0, 1, 2] rfl rfl ?_
  refine mt_dg1 (L := L) (xs := xs) (d := d + 1) hm hok _ rfl ?_ 9 0 (by omega)
  refine e_0 rfl ?_
  refine e_5 rfl rfl ?_
  by_cases h0 : σ 8 ≤ 0
  · unfold digM
    rw [if_pos h0]
    refine e_2 rfl rfl ?_
    refine e_0 rfl ?_
    refine e_39 rfl (fun h1 => absurd h1 (by decide)) (fun h1 => ?_)
    refine e_4 rfl rfl ?_
    refine m_gangs (by exact hm) rfl rfl ?_
    refine e_35 rfl (fun h2 => ?_) (fun h2 => absurd h0 h2)
    refine e_lv [1, 2] rfl rfl ?_
    exact mt_digest_tail hm hok hzr hzt _
  · unfold digM
    rw [if_neg h0]
    refine e_lv [0, 1, 2] rfl rfl ?_
    refine mt_dg2 (L := L) (xs := xs) (d := d + 1) hm hok _ h7 h0 rfl ?_ 9 0 (by omega)
    exact mt_digest_tail hm hok hzr hzt _
end MQE
