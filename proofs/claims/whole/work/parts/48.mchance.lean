-- ===== chances of the model =====
def bitN (s k : Nat) : Nat := s / 2 ^ k % 2
theorem bit_has {s k : Nat} (hs : s < 2 ^ 31) (hk : k < 32) : ((nI s >>> (nI k &&& 31)) &&& 1 = 1) ↔ bitN s k = 1 := by
  rw [b_sh hs hk]
  exact nI_eq (b := 1) (by omega) (by omega)
def chkS (σ : Nat → Int32) : Nat → Int32 := upd σ 6 (if σ 6 < 5 then 5 else σ 6)
def chF (g : Nat) (a : Int32) (s : Nat) : Nat → Nat → (Nat → Int32) → (Nat → Int32)
  | 0, _, σ => σ
  | n + 1, k, σ => if overF σ then σ else chF g a s n (k + 1) (restF g (if hasF σ a ∧ bitN s k = 1 then chkS σ else σ) a)
def wyF (p s : Nat) : Nat → Nat
  | 0 => 1
  | n + 1 => wyF p s n * (if bitN s n = 1 then p else 12 - p)
def byF (w : Int32) (σ : Nat → Int32) : Nat := if sunkF σ then (if w = 0 then 0 else 100) else (if w = 0 then 1 else (σ 0).toNatClampNeg)
def abF (g : Nat) (a : Int32) (p N : Nat) (w : Int32) (σ : Nat → Int32) : Nat → Nat
  | 0 => 0
  | n + 1 => abF g a p N w σ n + wyF p n N * byF w (chF g a n N 0 σ)
def blF (p N : Nat) : Nat → Nat
  | 0 => 0
  | n + 1 => blF p N n + wyF p n N
theorem bl_12 : ∀ N, N < 9 → ∀ p, p < 13 → blF p N (2 ^ N) = 12 ^ N := by decide +kernel
theorem i_clamp {x : Int32} (h : ¬ x < 0) : nI x.toNatClampNeg = x := by
  obtain ⟨j, hj, rfl⟩ := nI_of h
  rw [nI_clamp hj]
theorem clamp_lt (x : Int32) : x.toNatClampNeg < 2 ^ 31 := by
  have h := Int32.toInt_lt x
  show x.toInt.toNat < 2 ^ 31
  omega
theorem by_le {w : Int32} {σ : Nat → Int32} : byF w σ ≤ 100 := by
  unfold byF
  split
  · split <;> omega
  · rename_i h
    split
    · omega
    · have h := Classical.not_not.mp h
      rw [Int32.le_iff_toInt_le] at h
      have e : (99 : Int32).toInt = 99 := rfl
      show (σ 0).toInt.toNat ≤ 100
      omega
theorem ab_le {g : Nat} {a : Int32} {p N : Nat} {w : Int32} {σ : Nat → Int32} : ∀ n, abF g a p N w σ n ≤ 100 * blF p N n
  | 0 => Nat.zero_le _
  | n + 1 => by
    have h := ab_le (g := g) (a := a) (p := p) (N := N) (w := w) (σ := σ) n
    have h2 := Nat.mul_le_mul_left (wyF p n N) (by_le (w := w) (σ := chF g a n N 0 σ))
    unfold abF blF
    omega
theorem bl_mono {p N : Nat} : ∀ n k, blF p N n ≤ blF p N (n + k)
  | _, 0 => Nat.le_refl _
  | n, k + 1 => Nat.le_trans (bl_mono n k) (Nat.le_add_right _ _)
theorem shI_chk {g : Nat} {σ : Nat → Int32} (h : shI g σ) (v : Int32) : shI g (upd σ 6 v) := by
  obtain ⟨⟨hg, h8, hst⟩, hf, h7, ⟨c2, hc2, e2⟩, h0, p, q, hpq, hq, e5, e4⟩ := h
  refine ⟨⟨hg, (pk_un (by omega)).trans h8, fun i hi => ?_⟩, fun i hi => ?_, ?_, ⟨c2, hc2, (pk_un (by omega)).trans e2⟩, ?_, p, q, hpq, hq, (pk_un (by omega)).trans e5, (pk_un (by omega)).trans e4⟩
  · rw [pk_un (by omega), pk_un (by omega)]; exact hst i hi
  · rw [pk_un (by omega), pk_un (by omega)]; exact hf i hi
  · rw [pk_un (by omega)]; exact h7
  · rw [pk_un (by omega)]; exact h0
theorem upd_self {σ : Nat → Int32} {k : Nat} : upd σ k (σ k) = σ := by
  funext j
  by_cases z : j = k
  · subst z; exact pk_us
  · exact pk_un z
theorem same_6 {σ τ : Nat → Int32} (h : sameF σ τ) (v : Int32) : sameF (upd σ 6 v) τ := fun k h1 h2 => by rw [pk_un (by omega)]; exact h k h1 h2
theorem ch_same {g : Nat} {a : Int32} {s : Nat} {σ0 : Nat → Int32} : ∀ n k σ, sameF σ σ0 → sameF (chF g a s n k σ) σ0
  | 0, _, _, h => h
  | n + 1, k, σ, h => by
    unfold chF
    split
    · exact h
    · refine ch_same n _ _ (sameF.rest ?_)
      split
      · exact same_6 h _
      · exact h
theorem ch_step {g : Nat} {a : Int32} {s n k : Nat} {σ : Nat → Int32} {v : Int32} (ho : ¬ overF σ) (e : (if hasF σ a ∧ bitN s k = 1 then chkS σ else σ) = upd σ 6 v) : chF g a s (n + 1) k σ = chF g a s n (k + 1) (restF g (upd σ 6 v) a) := by
  rw [← e]
  exact if_neg ho
theorem tl_chk {σ : Nat → Int32} {v : Int32} : tlF (upd σ 6 v) = tlF σ := by
  unfold tlF
  rw [pk_un (by omega), pk_un (by omega)]
def lastC (g : Nat) (a : Int32) (N : Nat) (σ τ : Nat → Int32) : Nat → (Nat → Int32)
  | 0 => τ
  | n + 1 => chF g a n N 0 σ
theorem last_c {g : Nat} {a : Int32} {N : Nat} {σ τ : Nat → Int32} (h : sameF τ σ) : ∀ n, sameF (lastC g a N σ τ n) σ
  | 0 => h
  | _ + 1 => ch_same _ _ _ sameF.rf
/-- steps that Euclid wants -/
def esP : Nat → Nat → Nat → Prop
  | 0, _, y => y = 0
  | f + 1, x, y => y = 0 ∨ esP f y (x % y)
theorem es_mono : ∀ f k x y, esP f x y → esP (f + k) x y
  | 0, 0, _, _, h => h
  | 0, _ + 1, _, _, h => Or.inl h
  | f + 1, k, x, y, h => by
    rw [show f + 1 + k = (f + k) + 1 by omega]
    exact h.elim Or.inl (fun z => Or.inr (es_mono f k _ _ z))
theorem es_bd : ∀ n x y, y < 2 ^ n → esP (2 * n) x y
  | 0, _, y, h => by
    have : y = 0 := by omega
    exact this
  | n + 1, x, y, h => by
    rw [show 2 * (n + 1) = (2 * n + 1) + 1 by omega]
    by_cases hy : y = 0
    · exact Or.inl hy
    · refine Or.inr ?_
      by_cases hr : x % y = 0
      · exact Or.inl hr
      · refine Or.inr (es_bd n _ _ ?_)
        have h1 := Nat.mod_lt x (Nat.pos_of_ne_zero hy)
        have h2 := Nat.mod_lt y (Nat.pos_of_ne_zero hr)
        have h3 := Nat.div_add_mod y (x % y)
        have h4 : 1 ≤ y / (x % y) := Nat.div_pos (by omega) (by omega)
        have h5 := Nat.mul_le_mul_left (x % y) h4
        rw [Nat.pow_succ] at h
        omega
theorem gcd_step {x y : Nat} : Nat.gcd y (x % y) = Nat.gcd x y := by rw [Nat.gcd_comm, ← Nat.gcd_rec, Nat.gcd_comm]
section MQB
variable {L : Nat} {xs : Nat → Int32} {d : Nat} {μ : ps_M} {m : Nat} {σ : Nat → Int32} {g : Nat} {τ σ0 : Nat → Int32}
theorem sm_hasN {s k : Nat} (hs : s < 2 ^ 31) (hk : k < 32) : ps_Ev (ps_XX L xs) (d + 1) j_X8_has [.int (nI s), .int (nI k)] μ (some (.int (b2i (bitN s k = 1)))) μ := by
  rw [← b2i_c (bit_has hs hk)]
  exact sm_has _ _
theorem mt_try_loop (hm : isMd μ m) {a : Int32} (ha : ¬ a < 0) {N s : Nat} (hN : N ≤ 8) (hs31 : s < 2 ^ 31) : ∀ (n i : Nat) (σ : Nat → Int32), i + n = N → shI g σ → ps_To (ps_XX L xs) (ps_Ev (ps_XX L xs) (d + 5)) j_X8_tryChokes (ps_rt j_X8_tryChokes none (MS μ m 1832 (chF g a s n i σ))) (7, [(4, .int (nI i)), (0, .ref (m)), (1, .int (a)), (2, .int (nI N)), (3, .int (nI s))], [], MS μ m 1832 σ) := by
  intro n
  induction n with
  | zero =>
    intro i σ hi hI
    obtain rfl : i = N := by omega
    refine e_2 rfl rfl ?_
    refine e_2 rfl rfl ?_
    refine e_39 rfl (fun h1 => ?_) (fun h1 => ?_)
    · exact e_rv rfl (by first | rfl | (simp only [chF, eq_true h1, if_true, if_true, if_false, not_true_eq_false, not_false_eq_true, and_true, true_and, and_false, false_and, or_true, true_or, or_false, false_or, Int32.add_zero]; done) | (simp only [chF, eq_true h1, if_true, if_true, if_false, not_true_eq_false, not_false_eq_true, and_true, true_and, and_false, false_and, or_true, true_or, or_false, false_or, Int32.add_zero]; rfl))
    · exact absurd (nI_le (Nat.le_refl _) (by omega)) h1
  | succ n ih =>
    intro i σ hi hI
    refine e_2 rfl rfl ?_
    refine e_2 rfl rfl ?_
    refine e_39 rfl (fun h1 => ?_) (fun h1 => ?_)
    · exact absurd h1 (nI_ge (by omega) (by omega))
    · refine e_4 rfl rfl ?_
      refine e_0 rfl ?_
      refine e_v1 rfl (by first | exact hm.1 | assumption | rfl) rfl (by decide) rfl (Nat.le_of_ble_eq_true rfl) (mm_over (B := 1832) (by exact hm) (by decide) hI) ?_
      refine e_31b rfl (fun h2 => ?_) (fun h2 => ?_)
      · exact e_rv rfl (by first | rfl | (simp only [chF, eq_false h1, eq_true h2, if_true, if_true, if_false, not_true_eq_false, not_false_eq_true, and_true, true_and, and_false, false_and, or_true, true_or, or_false, false_or, Int32.add_zero]; done) | (simp only [chF, eq_false h1, eq_true h2, if_true, if_true, if_false, not_true_eq_false, not_false_eq_true, and_true, true_and, and_false, false_and, or_true, true_or, or_false, false_or, Int32.add_zero]; rfl))
      · refine e_2 rfl rfl ?_
        refine e_4 rfl rfl ?_
        refine m_gangs (by exact hm) rfl rfl ?_
        refine e_39 rfl (fun h3 => ?_) (fun h3 => ?_)
        · refine e_0 rfl ?_
          refine e_5 rfl rfl ?_
          refine e_4 rfl rfl ?_
          refine e_gr rfl hm.1 rfl hm.2.2.2.2.2.2.2.2.2.1 ?_
          refine e_0 rfl ?_
          refine e_2 rfl rfl ?_
          refine e_30 rfl (fun h4 => ?_) (fun h4 => ?_)
          · refine e_4 rfl rfl ?_
            refine e_gr rfl hm.1 rfl hm.2.2.2.2.2.2.2.2.2.1 ?_
            refine e_0 rfl ?_
            refine m_ald (k := 5) (x := 6) (by exact hm) (by omega) (by first | rfl | (simp only [nI_add, nI_1, Nat.zero_add]; first | done | exact congrArg nI (by omega))) (by omega) (by first | rfl | (rw [mdX_lo (by omega) (by omega)]; omega) | (rw [mdX_hi (by omega)]; omega)) rfl ?_
            refine m_ast (k := 5) (x := 6) (by exact hm) (by omega) (by first | rfl | (simp only [nI_add, nI_1, Nat.zero_add]; first | done | exact congrArg nI (by omega))) (by omega) (by first | rfl | (rw [mdX_lo (by omega) (by omega)]; omega) | (rw [mdX_hi (by omega)]; omega)) rfl ?_
            refine e_4 rfl rfl ?_
            refine e_2 rfl rfl ?_
            refine e_v1v rfl (by first | exact hm.1 | assumption | rfl) rfl (by decide) rfl (Nat.le_of_ble_eq_true rfl) (mm_turn (by exact hm) (shI_chk hI _) _) ?_
            refine e_8 rfl rfl rfl ?_
            refine e_42 rfl ?_
            refine e_lv [0, 2, 3, 4, 5] rfl rfl ?_
            show ps_To _ _ _ _ (7, [(4, .int _), (0, .ref _), (1, .int _), (2, .int _), (3, .int _)], [], _)
            rw [nI_1]
            rw [ch_step h2 (by rw [if_neg (fun z => z.1.2 h3), upd_self])]
            exact ih (i + 1) _ (by omega) (shI_rest (shI_chk hI _) (by rw [pk_un (by omega), pk_un (by omega)]; exact over_lt h2))
          · exact absurd rfl h4
        · refine e_2 rfl rfl ?_
          refine e_2 rfl rfl ?_
          refine e_s2 rfl rfl rfl (Nat.le_of_ble_eq_true rfl) (sm_hasN hs31 (by omega)) ?_
          refine e_30b rfl (fun h5 => ?_) (fun h5 => ?_)
          · refine e_0 rfl ?_
            refine e_5 rfl rfl ?_
            refine e_4 rfl rfl ?_
            refine e_gr rfl hm.1 rfl hm.2.2.2.2.2.2.2.2.2.1 ?_
            refine e_0 rfl ?_
            refine e_2 rfl rfl ?_
            refine e_30 rfl (fun h6 => ?_) (fun h6 => ?_)
            · refine e_4 rfl rfl ?_
              refine e_gr rfl hm.1 rfl hm.2.2.2.2.2.2.2.2.2.1 ?_
              refine e_0 rfl ?_
              refine m_ald (k := 5) (x := 6) (by exact hm) (by omega) (by first | rfl | (simp only [nI_add, nI_1, Nat.zero_add]; first | done | exact congrArg nI (by omega))) (by omega) (by first | rfl | (rw [mdX_lo (by omega) (by omega)]; omega) | (rw [mdX_hi (by omega)]; omega)) rfl ?_
              refine m_ast (k := 5) (x := 6) (by exact hm) (by omega) (by first | rfl | (simp only [nI_add, nI_1, Nat.zero_add]; first | done | exact congrArg nI (by omega))) (by omega) (by first | rfl | (rw [mdX_lo (by omega) (by omega)]; omega) | (rw [mdX_hi (by omega)]; omega)) rfl ?_
              refine e_4 rfl rfl ?_
              refine e_2 rfl rfl ?_
              refine e_v1v rfl (by first | exact hm.1 | assumption | rfl) rfl (by decide) rfl (Nat.le_of_ble_eq_true rfl) (mm_turn (by exact hm) (shI_chk hI _) _) ?_
              refine e_8 rfl rfl rfl ?_
              refine e_42 rfl ?_
              refine e_lv [0, 2, 3, 4, 5] rfl rfl ?_
              show ps_To _ _ _ _ (7, [(4, .int _), (0, .ref _), (1, .int _), (2, .int _), (3, .int _)], [], _)
              rw [nI_1]
              rw [ch_step h2 (by rw [if_neg (fun z => h5 z.2), upd_self])]
              exact ih (i + 1) _ (by omega) (shI_rest (shI_chk hI _) (by rw [pk_un (by omega), pk_un (by omega)]; exact over_lt h2))
            · exact absurd rfl h6
          · refine e_4 rfl rfl ?_
            refine e_gr rfl hm.1 rfl hm.2.2.2.2.2.2.2.2.2.1 ?_
            refine e_0 rfl ?_
            refine m_ald (k := 5) (x := 6) (by exact hm) (by omega) (by first | rfl | (simp only [nI_add, nI_1, Nat.zero_add]; first | done | exact congrArg nI (by omega))) (by omega) (by first | rfl | (rw [mdX_lo (by omega) (by omega)]; omega) | (rw [mdX_hi (by omega)]; omega)) rfl ?_
            refine e_0 rfl ?_
            refine e_39 rfl (fun h7 => ?_) (fun h7 => ?_)
            · refine e_0 rfl ?_
              refine e_5 rfl rfl ?_
              refine e_4 rfl rfl ?_
              refine e_gr rfl hm.1 rfl hm.2.2.2.2.2.2.2.2.2.1 ?_
              refine e_0 rfl ?_
              refine e_2 rfl rfl ?_
              refine e_30 rfl (fun h8 => ?_) (fun h8 => ?_)
              · refine e_4 rfl rfl ?_
                refine e_gr rfl hm.1 rfl hm.2.2.2.2.2.2.2.2.2.1 ?_
                refine e_0 rfl ?_
                refine m_ald (k := 5) (x := 6) (by exact hm) (by omega) (by first | rfl | (simp only [nI_add, nI_1, Nat.zero_add]; first | done | exact congrArg nI (by omega))) (by omega) (by first | rfl | (rw [mdX_lo (by omega) (by omega)]; omega) | (rw [mdX_hi (by omega)]; omega)) rfl ?_
                refine m_ast (k := 5) (x := 6) (by exact hm) (by omega) (by first | rfl | (simp only [nI_add, nI_1, Nat.zero_add]; first | done | exact congrArg nI (by omega))) (by omega) (by first | rfl | (rw [mdX_lo (by omega) (by omega)]; omega) | (rw [mdX_hi (by omega)]; omega)) rfl ?_
                refine e_4 rfl rfl ?_
                refine e_2 rfl rfl ?_
                refine e_v1v rfl (by first | exact hm.1 | assumption | rfl) rfl (by decide) rfl (Nat.le_of_ble_eq_true rfl) (mm_turn (by exact hm) (shI_chk hI _) _) ?_
                refine e_8 rfl rfl rfl ?_
                refine e_42 rfl ?_
                refine e_lv [0, 2, 3, 4, 5] rfl rfl ?_
                show ps_To _ _ _ _ (7, [(4, .int _), (0, .ref _), (1, .int _), (2, .int _), (3, .int _)], [], _)
                rw [nI_1]
                rw [ch_step h2 (by rw [if_pos ⟨⟨ha, h3⟩, h5⟩]; unfold chkS; rw [if_neg (Int32.not_lt.mpr h7)])]
                exact ih (i + 1) _ (by omega) (shI_rest (shI_chk hI _) (by rw [pk_un (by omega), pk_un (by omega)]; exact over_lt h2))
              · exact absurd rfl h8
            · refine e_0 rfl ?_
              refine e_42 rfl ?_
              refine e_5 rfl rfl ?_
              refine e_4 rfl rfl ?_
              refine e_gr rfl hm.1 rfl hm.2.2.2.2.2.2.2.2.2.1 ?_
              refine e_0 rfl ?_
              refine e_2 rfl rfl ?_
              refine e_30 rfl (fun h9 => ?_) (fun h9 => ?_)
              · exact absurd h9 (by decide)
              · refine e_0 rfl ?_
                refine e_42 rfl ?_
                refine m_ast (k := 5) (x := 6) (by exact hm) (by omega) (by first | rfl | (simp only [nI_add, nI_1, Nat.zero_add]; first | done | exact congrArg nI (by omega))) (by omega) (by first | rfl | (rw [mdX_lo (by omega) (by omega)]; omega) | (rw [mdX_hi (by omega)]; omega)) rfl ?_
                refine e_4 rfl rfl ?_
                refine e_2 rfl rfl ?_
                refine e_v1v rfl (by first | exact hm.1 | assumption | rfl) rfl (by decide) rfl (Nat.le_of_ble_eq_true rfl) (mm_turn (by exact hm) (shI_chk hI _) _) ?_
                refine e_8 rfl rfl rfl ?_
                refine e_42 rfl ?_
                refine e_lv [0, 2, 3, 4, 5] rfl rfl ?_
                show ps_To _ _ _ _ (7, [(4, .int _), (0, .ref _), (1, .int _), (2, .int _), (3, .int _)], [], _)
                rw [nI_1]
                rw [ch_step h2 (by rw [if_pos ⟨⟨ha, h3⟩, h5⟩]; unfold chkS; rw [if_pos (Int32.not_le.mp h7)])]
                exact ih (i + 1) _ (by omega) (shI_rest (shI_chk hI _) (by rw [pk_un (by omega), pk_un (by omega)]; exact over_lt h2))
theorem mt_tryChokes (hm : isMd μ m) (e0 : mdG (ps_i μ) m 0 = σ0) (hs : sameF τ σ0) (hI : shI g σ0) {a : Int32} (ha : ¬ a < 0) {N s : Nat} (hN : N ≤ 8) (hs31 : s < 2 ^ 31) : ps_Ev (ps_XX L xs) (d + 6) j_X8_tryChokes [.ref m, .int a, .int (nI N), .int (nI s)] (MS μ m 1832 τ) none (MS μ m 1832 (chF g a s N 0 σ0)) := by
  refine ⟨Nat.le_of_ble_eq_true rfl, ?_⟩
  refine e_4 rfl rfl ?_
  refine e_v0v rfl (by first | exact hm.1 | assumption | rfl) rfl (by decide) rfl (Nat.le_of_ble_eq_true rfl) (mt_lay hm e0 hs) ?_
  refine e_0 rfl ?_
  refine e_5 rfl rfl ?_
  exact mt_try_loop (L := L) (xs := xs) (d := d) hm ha hN hs31 N 0 σ0 (by omega) hI
theorem mt_ways_loop {N s p : Nat} (hN : N ≤ 8) (hs31 : s < 2 ^ 31) (hp : p ≤ 12) : ∀ (n i : Nat), i + n = N → ps_To (ps_XX L xs) (ps_Ev (ps_XX L xs) (d + 1)) j_X8_waysOf (ps_rt j_X8_waysOf (some (.long (lN (wyF p s N)))) μ) (5, [(5, .int (nI i)), (3, .long (lN (wyF p s i))), (0, .int (nI s)), (1, .int (nI N)), (2, .int (nI p))], [], μ) := by
  intro n
  induction n with
  | zero =>
    intro i hi
    obtain rfl : i = N := by omega
    refine e_2 rfl rfl ?_
    refine e_2 rfl rfl ?_
    refine e_39 rfl (fun h1 => ?_) (fun h1 => ?_)
    · refine e_3 rfl rfl ?_
      exact e_rl rfl (by rfl) (rfl)
    · exact absurd (nI_le (Nat.le_refl _) (by omega)) h1
  | succ n ih =>
    intro i hi
    refine e_2 rfl rfl ?_
    refine e_2 rfl rfl ?_
    refine e_39 rfl (fun h1 => ?_) (fun h1 => ?_)
    · exact absurd h1 (nI_ge (by omega) (by omega))
    · refine e_3 rfl rfl ?_
      refine e_2 rfl rfl ?_
      refine e_2 rfl rfl ?_
      refine e_s2 rfl rfl rfl (Nat.le_of_ble_eq_true rfl) (sm_hasN hs31 (by omega)) ?_
      refine e_30b rfl (fun h2 => ?_) (fun h2 => ?_)
      · refine e_0 rfl ?_
        refine e_2 rfl rfl ?_
        refine e_10 rfl ?_
        rw [show (12 : Int32) - nI p = nI (12 - p) from pk_sub (a := 12) hp]
        refine e_25 rfl ?_
        refine e_21 rfl ?_
        refine e_6 rfl rfl ?_
        refine e_8 rfl rfl rfl ?_
        refine e_42 rfl ?_
        refine e_lv [0, 1, 2, 3, 4] rfl rfl ?_
        show ps_To _ _ _ _ (5, [(5, .int _), (3, .long _), (0, .int _), (1, .int _), (2, .int _)], [], _)
        have h := ih (i + 1) (by omega)
        rw [show wyF p s (i + 1) = wyF p s i * (12 - p) from congrArg (wyF p s i * ·) (if_neg h2), ← lN_mul] at h
        rw [← nI_l (n := 12 - p) (by omega)] at h
        rw [nI_1]
        exact h
      · refine e_2 rfl rfl ?_
        refine e_25 rfl ?_
        rw [nI_l (by omega)]
        refine e_42 rfl ?_
        refine e_21 rfl ?_
        refine e_6 rfl rfl ?_
        refine e_8 rfl rfl rfl ?_
        refine e_42 rfl ?_
        refine e_lv [0, 1, 2, 3, 4] rfl rfl ?_
        show ps_To _ _ _ _ (5, [(5, .int _), (3, .long _), (0, .int _), (1, .int _), (2, .int _)], [], _)
        have h := ih (i + 1) (by omega)
        rw [show wyF p s (i + 1) = wyF p s i * p from congrArg (wyF p s i * ·) (if_pos h2), ← lN_mul] at h
        rw [nI_1]
        exact h
theorem mt_waysOf {N s p : Nat} (hN : N ≤ 8) (hs31 : s < 2 ^ 31) (hp : p ≤ 12) : ps_Ev (ps_XX L xs) (d + 2) j_X8_waysOf [.int (nI s), .int (nI N), .int (nI p)] μ (some (.long (lN (wyF p s N)))) μ := by
  refine ⟨Nat.le_of_ble_eq_true rfl, ?_⟩
  refine e_1 rfl ?_
  refine e_6 rfl rfl ?_
  refine e_0 rfl ?_
  refine e_5 rfl rfl ?_
  exact mt_ways_loop hN hs31 hp N 0 (by omega)
theorem lcmp0 {y : Nat} (h : y < 2 ^ 63) : lg_cmp (lN y) 0 = 0 ↔ y = 0 := by
  rw [lg_cmp_eq]
  exact pk_lEQ (b := 0) h (by omega)
theorem mt_parts_loop (hm : isMd μ m) {A B : Nat} (hA : A < 2 ^ 63) (hB : B < 2 ^ 63) (hB0 : 0 < B) : ∀ (f x y : Nat), x < 2 ^ 63 → y < 2 ^ 63 → esP f x y → Nat.gcd x y = Nat.gcd A B → ps_To (ps_XX L xs) (ps_Ev (ps_XX L xs) d) j_X8_tellParts (ps_rt j_X8_tellParts (some (.int 1)) (ps_sL (ps_sL μ m 10 (lN (A / Nat.gcd A B))) m 11 (lN (B / Nat.gcd A B)))) (6, [(7, .long (lN y)), (5, .long (lN x)), (0, .ref m), (1, .long (lN A)), (3, .long (lN B))], [], μ) := by
  have hg0 : 0 < Nat.gcd A B := Nat.gcd_pos_of_pos_right A hB0
  have hg1 : Nat.gcd A B ≤ B := Nat.gcd_le_right A hB0
  intro f
  induction f with
  | zero =>
    intro x y hx hy hf hxy
    obtain rfl : y = 0 := hf
    rw [Nat.gcd_zero_right] at hxy
    subst hxy
    refine e_3 rfl rfl ?_
    refine e_1 rfl ?_
    refine e_24 rfl ?_
    refine e_30 rfl (fun h1 => ?_) (fun h1 => ?_)
    · refine e_4 rfl rfl ?_
      refine e_3 rfl rfl ?_
      refine e_3 rfl rfl ?_
      refine e_22 rfl (by exact fun z => absurd ((pk_lEQ (b := 0) (by omega) (by omega)).mp z) (by omega)) ?_
      refine e_pl rfl hm.1 rfl ?_
      refine e_4 rfl rfl ?_
      refine e_3 rfl rfl ?_
      refine e_3 rfl rfl ?_
      refine e_22 rfl (by exact fun z => absurd ((pk_lEQ (b := 0) (by omega) (by omega)).mp z) (by omega)) ?_
      refine e_pl rfl hm.1 rfl ?_
      refine e_0 rfl ?_
      exact e_ri rfl rfl (by rfl) (by rw [pk_lDiv hA hg0 (by omega), pk_lDiv hB hg0 (by omega)])
    · exact absurd ((lcmp0 (by omega)).mpr rfl) h1
  | succ f ih =>
    intro x y hx hy hf hxy
    refine e_3 rfl rfl ?_
    refine e_1 rfl ?_
    refine e_24 rfl ?_
    refine e_30 rfl (fun h1 => ?_) (fun h1 => ?_)
    · obtain rfl : y = 0 := (lcmp0 hy).mp h1
      rw [Nat.gcd_zero_right] at hxy
      subst hxy
      refine e_4 rfl rfl ?_
      refine e_3 rfl rfl ?_
      refine e_3 rfl rfl ?_
      refine e_22 rfl (by exact fun z => absurd ((pk_lEQ (b := 0) (by omega) (by omega)).mp z) (by omega)) ?_
      refine e_pl rfl hm.1 rfl ?_
      refine e_4 rfl rfl ?_
      refine e_3 rfl rfl ?_
      refine e_3 rfl rfl ?_
      refine e_22 rfl (by exact fun z => absurd ((pk_lEQ (b := 0) (by omega) (by omega)).mp z) (by omega)) ?_
      refine e_pl rfl hm.1 rfl ?_
      refine e_0 rfl ?_
      exact e_ri rfl rfl (by rfl) (by rw [pk_lDiv hA hg0 (by omega), pk_lDiv hB hg0 (by omega)])
    · have hy0 : ¬ y = 0 := fun z => h1 ((lcmp0 hy).mpr z)
      have hlt := Nat.mod_lt x (Nat.pos_of_ne_zero hy0)
      refine e_3 rfl rfl ?_
      refine e_3 rfl rfl ?_
      refine e_23 rfl (by exact fun z => absurd ((pk_lEQ (b := 0) (by omega) (by omega)).mp z) (by omega)) ?_
      rw [pk_lRem hx (by omega) hy]
      refine e_6 rfl rfl ?_
      refine e_3 rfl rfl ?_
      refine e_6 rfl rfl ?_
      refine e_3 rfl rfl ?_
      refine e_6 rfl rfl ?_
      refine e_42 rfl ?_
      refine e_lv [0, 1, 3, 4, 5] rfl rfl ?_
      exact ih y (x % y) hy (by omega) (hf.resolve_left hy0) (gcd_step.trans hxy)
theorem mt_parts (hm : isMd μ m) {A B : Nat} (hA : A < 2 ^ 63) (hB : B < 2 ^ 40) (hB0 : 0 < B) : evI (ps_XX L xs) (d + 1) j_X8_tellParts [.ref m, .long (lN A), .long (lN B)] μ (1, ps_sL (ps_sL μ m 10 (lN (A / Nat.gcd A B))) m 11 (lN (B / Nat.gcd A B))) := by
  refine ⟨Nat.le_of_ble_eq_true rfl, ?_⟩
  refine e_3 rfl rfl ?_
  refine e_6 rfl rfl ?_
  refine e_3 rfl rfl ?_
  refine e_6 rfl rfl ?_
  refine e_lv [0, 1, 2, 3, 4] rfl rfl ?_
  exact mt_parts_loop hm hA (by omega) hB0 80 A B hA (by omega) (es_bd 40 A B hB) rfl
theorem p2_8 {N : Nat} (h : N ≤ 8) : 2 ^ N ≤ 256 := Nat.le_trans (Nat.pow_le_pow_right (by decide) h) (by decide)
theorem p12_8 {N : Nat} (h : N ≤ 8) : 12 ^ N ≤ 429981696 := Nat.le_trans (Nat.pow_le_pow_right (by decide) h) (by decide)
theorem byF_s0 {w : Int32} {σ : Nat → Int32} (h : sunkF σ) (hw : w = 0) : byF w σ = 0 := by unfold byF; rw [if_pos h, if_pos hw]
theorem byF_s1 {w : Int32} {σ : Nat → Int32} (h : sunkF σ) (hw : ¬ w = 0) : byF w σ = 100 := by unfold byF; rw [if_pos h, if_neg hw]
theorem byF_n0 {w : Int32} {σ : Nat → Int32} (h : ¬ sunkF σ) (hw : w = 0) : byF w σ = 1 := by unfold byF; rw [if_neg h, if_pos hw]
theorem byF_n1 {w : Int32} {σ : Nat → Int32} (h : ¬ sunkF σ) (hw : ¬ w = 0) : byF w σ = (σ 0).toNatClampNeg := by unfold byF; rw [if_neg h, if_neg hw]
theorem ch_shI {g : Nat} {a : Int32} {s : Nat} : ∀ n k σ, shI g σ → shI g (chF g a s n k σ)
  | 0, _, _, h => h
  | n + 1, k, σ, h => by
    unfold chF
    split
    · exact h
    · rename_i ho
      refine ch_shI n _ _ (shI_rest ?_ ?_)
      · split
        · exact shI_chk h _
        · exact h
      · split
        · unfold chkS; rw [pk_un (by omega), pk_un (by omega)]; exact over_lt ho
        · exact over_lt ho
theorem mt_chances_loop (hm : isMd μ m) (e0 : mdG (ps_i μ) m 0 = σ0) (hs : sameF τ σ0) (hI : shI g σ0) {a : Int32} (ha : ¬ a < 0) {N p P : Nat} (hN : N ≤ 8) (hp : p ≤ 12) (eP : P = 2 ^ N) (w : Int32) : ∀ (n i : Nat), i + n = P → ps_To (ps_XX L xs) (ps_Ev (ps_XX L xs) (d + 6)) j_X8_tellChances (ps_rt j_X8_tellChances (some (.int 1)) (MS (ps_sL (ps_sL μ m 10 (lN (abF g a p N w σ0 P / Nat.gcd (abF g a p N w σ0 P) (12 ^ N)))) m 11 (lN (12 ^ N / Nat.gcd (abF g a p N w σ0 P) (12 ^ N)))) m 1832 (lastC g a N σ0 τ P))) (9, [(9, .int (nI i)), (7, .long (lN (blF p N i))), (5, .long (lN (abF g a p N w σ0 i))), (0, .ref (m)), (1, .int (a)), (2, .int (nI N)), (3, .int (nI p)), (4, .int (w))], [], MS μ m 1832 (lastC g a N σ0 τ i)) := by
  intro n
  induction n with
  | zero =>
    intro i hi
    obtain rfl : i = P := by omega
    have hP := p2_8 hN
    rw [← eP] at hP
    have h12 := p12_8 hN
    have h12p : 0 < 12 ^ N := Nat.pow_pos (by decide)
    have hA := ab_le (g := g) (a := a) (p := p) (N := N) (w := w) (σ := σ0) i
    have eB : blF p N i = 12 ^ N := by rw [eP]; exact bl_12 N (by omega) p (by omega)
    refine e_2 rfl rfl ?_
    refine e_0 rfl ?_
    refine e_2 rfl rfl ?_
    refine e_14 rfl ?_
    rw [b_one (by omega), ← eP]
    refine e_39 rfl (fun h1 => ?_) (fun h1 => ?_)
    · rw [eB] at hA ⊢
      refine e_4 rfl rfl ?_
      refine e_3 rfl rfl ?_
      refine e_3 rfl rfl ?_
      refine e_v2 rfl (by first | exact hm.1 | assumption | rfl) rfl (by decide) rfl (Nat.le_of_ble_eq_true rfl) (evo (mt_parts (μ := MS μ m 1832 _) (by exact hm) (by omega) (by omega) h12p)) ?_
      exact e_ri rfl rfl (by rfl) (rfl)
    · exact absurd (nI_le (Nat.le_refl _) (by omega)) h1
  | succ n ih =>
    intro i hi
    have hP := p2_8 hN
    rw [← eP] at hP
    refine e_2 rfl rfl ?_
    refine e_0 rfl ?_
    refine e_2 rfl rfl ?_
    refine e_14 rfl ?_
    rw [b_one (by omega), ← eP]
    refine e_39 rfl (fun h1 => ?_) (fun h1 => ?_)
    · exact absurd h1 (nI_ge (by omega) (by omega))
    · refine e_4 rfl rfl ?_
      refine e_2 rfl rfl ?_
      refine e_2 rfl rfl ?_
      refine e_2 rfl rfl ?_
      refine e_v3v rfl (by first | exact hm.1 | assumption | rfl) rfl (by decide) rfl (Nat.le_of_ble_eq_true rfl) (mt_tryChokes hm e0 (last_c hs i) hI ha hN (by omega)) ?_
      refine e_2 rfl rfl ?_
      refine e_2 rfl rfl ?_
      refine e_2 rfl rfl ?_
      refine e_s3 rfl rfl rfl (Nat.le_of_ble_eq_true rfl) (mt_waysOf hN (by omega) hp) ?_
      refine e_6 rfl rfl ?_
      refine e_4 rfl rfl ?_
      refine e_0 rfl ?_
      refine e_v1 rfl (by first | exact hm.1 | assumption | rfl) rfl (by decide) rfl (Nat.le_of_ble_eq_true rfl) (mm_isSunk (B := 1832) (by exact hm) (by decide)) ?_
      refine e_30b rfl (fun h2 => ?_) (fun h2 => ?_)
      · refine e_2 rfl rfl ?_
        refine e_30 rfl (fun h3 => ?_) (fun h3 => ?_)
        · refine e_0 rfl ?_
          refine e_5 rfl rfl ?_
          refine e_3 rfl rfl ?_
          refine e_3 rfl rfl ?_
          refine e_2 rfl rfl ?_
          refine e_25 rfl ?_
          refine e_21 rfl ?_
          refine e_19 rfl ?_
          refine e_6 rfl rfl ?_
          refine e_3 rfl rfl ?_
          refine e_3 rfl rfl ?_
          refine e_19 rfl ?_
          refine e_6 rfl rfl ?_
          refine e_8 rfl rfl rfl ?_
          refine e_42 rfl ?_
          refine e_lv [0, 1, 2, 5, 6, 7, 8, 9] rfl rfl ?_
          show ps_To _ _ _ _ (9, [(9, .int _), (7, .long _), (5, .long _), (0, .ref _), (1, .int _), (2, .int _), (3, .int _), (4, .int _)], [], _)
          have h := ih (i + 1) (by omega)
          rw [show abF g a p N w σ0 (i + 1) = abF g a p N w σ0 i + wyF p i N * 1 from congrArg (fun z => abF g a p N w σ0 i + wyF p i N * z) (byF_n0 h2 h3), show blF p N (i + 1) = blF p N i + wyF p i N from rfl, ← lN_add, ← lN_add, ← lN_mul] at h
          rw [nI_1]
          exact h
        · refine e_4 rfl rfl ?_
          refine e_gr rfl hm.1 rfl hm.2.2.2.2.2.2.2.2.2.1 ?_
          refine e_0 rfl ?_
          refine m_ald (k := 1) (x := 0) (by exact hm) (by omega) (by first | rfl | (simp only [nI_add, nI_1, Nat.zero_add]; first | done | exact congrArg nI (by omega))) (by omega) (by first | rfl | (rw [mdX_lo (by omega) (by omega)]; omega) | (rw [mdX_hi (by omega)]; omega)) rfl ?_
          refine e_42 rfl ?_
          refine e_5 rfl rfl ?_
          refine e_3 rfl rfl ?_
          refine e_3 rfl rfl ?_
          refine e_2 rfl rfl ?_
          refine e_25 rfl ?_
          refine e_21 rfl ?_
          refine e_19 rfl ?_
          refine e_6 rfl rfl ?_
          refine e_3 rfl rfl ?_
          refine e_3 rfl rfl ?_
          refine e_19 rfl ?_
          refine e_6 rfl rfl ?_
          refine e_8 rfl rfl rfl ?_
          refine e_42 rfl ?_
          refine e_lv [0, 1, 2, 5, 6, 7, 8, 9] rfl rfl ?_
          show ps_To _ _ _ _ (9, [(9, .int _), (7, .long _), (5, .long _), (0, .ref _), (1, .int _), (2, .int _), (3, .int _), (4, .int _)], [], _)
          have hIc : ¬ (chF g a i N 0 σ0) 0 < 0 := (ch_shI (g := g) (a := a) (s := i) N 0 σ0 hI).2.2.2.2.1
          have h := ih (i + 1) (by omega)
          rw [show abF g a p N w σ0 (i + 1) = abF g a p N w σ0 i + wyF p i N * (chF g a i N 0 σ0 0).toNatClampNeg from congrArg (fun z => abF g a p N w σ0 i + wyF p i N * z) (byF_n1 h2 h3), show blF p N (i + 1) = blF p N i + wyF p i N from rfl, ← lN_add, ← lN_add, ← lN_mul] at h
          rw [← nI_l (clamp_lt _), i_clamp hIc] at h
          rw [nI_1]
          exact h
      · refine e_2 rfl rfl ?_
        refine e_30 rfl (fun h4 => ?_) (fun h4 => ?_)
        · refine e_0 rfl ?_
          refine e_42 rfl ?_
          refine e_5 rfl rfl ?_
          refine e_3 rfl rfl ?_
          refine e_3 rfl rfl ?_
          refine e_2 rfl rfl ?_
          refine e_25 rfl ?_
          refine e_21 rfl ?_
          refine e_19 rfl ?_
          refine e_6 rfl rfl ?_
          refine e_3 rfl rfl ?_
          refine e_3 rfl rfl ?_
          refine e_19 rfl ?_
          refine e_6 rfl rfl ?_
          refine e_8 rfl rfl rfl ?_
          refine e_42 rfl ?_
          refine e_lv [0, 1, 2, 5, 6, 7, 8, 9] rfl rfl ?_
          show ps_To _ _ _ _ (9, [(9, .int _), (7, .long _), (5, .long _), (0, .ref _), (1, .int _), (2, .int _), (3, .int _), (4, .int _)], [], _)
          have h := ih (i + 1) (by omega)
          rw [show abF g a p N w σ0 (i + 1) = abF g a p N w σ0 i + wyF p i N * 0 from congrArg (fun z => abF g a p N w σ0 i + wyF p i N * z) (byF_s0 h2 h4), show blF p N (i + 1) = blF p N i + wyF p i N from rfl, ← lN_add, ← lN_add, ← lN_mul] at h
          rw [nI_1]
          exact h
        · refine e_0 rfl ?_
          refine e_42 rfl ?_
          refine e_5 rfl rfl ?_
          refine e_3 rfl rfl ?_
          refine e_3 rfl rfl ?_
          refine e_2 rfl rfl ?_
          refine e_25 rfl ?_
          refine e_21 rfl ?_
          refine e_19 rfl ?_
          refine e_6 rfl rfl ?_
          refine e_3 rfl rfl ?_
          refine e_3 rfl rfl ?_
          refine e_19 rfl ?_
          refine e_6 rfl rfl ?_
          refine e_8 rfl rfl rfl ?_
          refine e_42 rfl ?_
          refine e_lv [0, 1, 2, 5, 6, 7, 8, 9] rfl rfl ?_
          show ps_To _ _ _ _ (9, [(9, .int _), (7, .long _), (5, .long _), (0, .ref _), (1, .int _), (2, .int _), (3, .int _), (4, .int _)], [], _)
          have h := ih (i + 1) (by omega)
          rw [show abF g a p N w σ0 (i + 1) = abF g a p N w σ0 i + wyF p i N * 100 from congrArg (fun z => abF g a p N w σ0 i + wyF p i N * z) (byF_s1 h2 h4), show blF p N (i + 1) = blF p N i + wyF p i N from rfl, ← lN_add, ← lN_add, ← lN_mul] at h
          rw [nI_1]
          exact h
theorem mt_chances (hm : isMd μ m) (e0 : mdG (ps_i μ) m 0 = σ0) (hs : sameF τ σ0) (hI : shI g σ0) {a : Int32} (ha : ¬ a < 0) {N p : Nat} (hN : N ≤ 8) (hp : p ≤ 12) (w : Int32) : ps_Ev (ps_XX L xs) (d + 7) j_X8_tellChances [.ref m, .int a, .int (nI N), .int (nI p), .int w] (MS μ m 1832 τ) (some (.int 1)) (MS (ps_sL (ps_sL μ m 10 (lN (abF g a p N w σ0 (2 ^ N) / Nat.gcd (abF g a p N w σ0 (2 ^ N)) (12 ^ N)))) m 11 (lN (12 ^ N / Nat.gcd (abF g a p N w σ0 (2 ^ N)) (12 ^ N)))) m 1832 (lastC g a N σ0 τ (2 ^ N))) := by
  refine ⟨Nat.le_of_ble_eq_true rfl, ?_⟩
  refine e_1 rfl ?_
  refine e_6 rfl rfl ?_
  refine e_1 rfl ?_
  refine e_6 rfl rfl ?_
  refine e_0 rfl ?_
  refine e_5 rfl rfl ?_
  refine e_lv [0, 1, 2, 3, 4, 5, 6, 7] rfl rfl ?_
  exact mt_chances_loop (L := L) (xs := xs) (d := d) hm e0 hs hI ha hN hp rfl w (2 ^ N) 0 (by omega)
theorem mq_odds (hm : isMd μ m) (e0 : mdG (ps_i μ) m 0 = σ0) (hs : sameF τ σ0) (hI : shI g σ0) (a : Int32) {n q : Int32} {N p : Nat} (hn : 0 ≤ n ∧ n ≤ 8 → n = nI N ∧ N ≤ 8) (hq : 0 ≤ q ∧ q ≤ 12 → q = nI p ∧ p ≤ 12) : evI (ps_XX L xs) (d + 8) j_X8_odds [.ref m, .int a, .int n, .int q] (MS μ m 1832 τ) (if ¬ ((0 ≤ a ∧ a ≤ 9) ∧ (0 ≤ n ∧ n ≤ 8) ∧ (0 ≤ q ∧ q ≤ 12)) then (-1, MS μ m 1832 τ) else if σ0 8 = 0 then (-4, MS μ m 1832 τ) else (1, (MS (ps_sL (ps_sL μ m 10 (lN (abF g a p N 0 σ0 (2 ^ N) / Nat.gcd (abF g a p N 0 σ0 (2 ^ N)) (12 ^ N)))) m 11 (lN (12 ^ N / Nat.gcd (abF g a p N 0 σ0 (2 ^ N)) (12 ^ N)))) m 1832 (lastC g a N σ0 τ (2 ^ N))))) := by
  refine ⟨Nat.le_of_ble_eq_true rfl, ?_⟩
  refine e_2 rfl rfl ?_
  refine e_2 rfl rfl ?_
  refine e_2 rfl rfl ?_
  refine e_s3 rfl rfl rfl (Nat.le_of_ble_eq_true rfl) (sm_isChance _ _ _) ?_
  refine e_31b rfl (fun h1 => ?_) (fun h1 => ?_)
  · obtain ⟨rfl, hN⟩ := hn h1.2.1
    obtain ⟨rfl, hp⟩ := hq h1.2.2
    refine e_4 rfl rfl ?_
    refine m_gangs (by exact hm) rfl rfl ?_
    rw [hs 8 (by omega) (by omega)]
    refine e_31 rfl (fun h2 => ?_) (fun h2 => ?_)
    · refine e_4 rfl rfl ?_
      refine e_2 rfl rfl ?_
      refine e_2 rfl rfl ?_
      refine e_2 rfl rfl ?_
      refine e_0 rfl ?_
      refine e_v4 rfl (by first | exact hm.1 | assumption | rfl) rfl (by decide) rfl (Nat.le_of_ble_eq_true rfl) (mt_chances hm e0 hs hI (Int32.not_lt.mpr h1.1.1) hN hp _) ?_
      exact e_ri rfl rfl (by first | (simp only [eq_true h1, eq_false h2, if_true, if_true, if_false, not_true_eq_false, not_false_eq_true, and_true, true_and, and_false, false_and, or_true, true_or, or_false, false_or, reduceIte]; done) | (simp only [eq_true h1, eq_false h2, if_true, if_true, if_false, not_true_eq_false, not_false_eq_true, and_true, true_and, and_false, false_and, or_true, true_or, or_false, false_or, reduceIte]; rfl) | rfl) (by first | (simp only [eq_true h1, eq_false h2, if_true, if_true, if_false, not_true_eq_false, not_false_eq_true, and_true, true_and, and_false, false_and, or_true, true_or, or_false, false_or, reduceIte]; done) | (simp only [eq_true h1, eq_false h2, if_true, if_true, if_false, not_true_eq_false, not_false_eq_true, and_true, true_and, and_false, false_and, or_true, true_or, or_false, false_or, reduceIte]; rfl) | rfl)
    · refine e_0 rfl ?_
      refine e_42 rfl ?_
      exact e_ri rfl rfl (by first | (simp only [eq_true h1, eq_true h2, if_true, if_true, if_false, not_true_eq_false, not_false_eq_true, and_true, true_and, and_false, false_and, or_true, true_or, or_false, false_or, reduceIte]; done) | (simp only [eq_true h1, eq_true h2, if_true, if_true, if_false, not_true_eq_false, not_false_eq_true, and_true, true_and, and_false, false_and, or_true, true_or, or_false, false_or, reduceIte]; rfl) | rfl) (by first | (simp only [eq_true h1, eq_true h2, if_true, if_true, if_false, not_true_eq_false, not_false_eq_true, and_true, true_and, and_false, false_and, or_true, true_or, or_false, false_or, reduceIte]; done) | (simp only [eq_true h1, eq_true h2, if_true, if_true, if_false, not_true_eq_false, not_false_eq_true, and_true, true_and, and_false, false_and, or_true, true_or, or_false, false_or, reduceIte]; rfl) | rfl)
  · refine e_0 rfl ?_
    exact e_ri rfl rfl (by first | (simp only [eq_false h1, if_true, if_true, if_false, not_true_eq_false, not_false_eq_true, and_true, true_and, and_false, false_and, or_true, true_or, or_false, false_or, reduceIte]; done) | (simp only [eq_false h1, if_true, if_true, if_false, not_true_eq_false, not_false_eq_true, and_true, true_and, and_false, false_and, or_true, true_or, or_false, false_or, reduceIte]; rfl) | rfl) (by first | (simp only [eq_false h1, if_true, if_true, if_false, not_true_eq_false, not_false_eq_true, and_true, true_and, and_false, false_and, or_true, true_or, or_false, false_or, reduceIte]; done) | (simp only [eq_false h1, if_true, if_true, if_false, not_true_eq_false, not_false_eq_true, and_true, true_and, and_false, false_and, or_true, true_or, or_false, false_or, reduceIte]; rfl) | rfl)
theorem mq_mid (hm : isMd μ m) (e0 : mdG (ps_i μ) m 0 = σ0) (hs : sameF τ σ0) (hI : shI g σ0) (a : Int32) {n q : Int32} {N p : Nat} (hn : 0 ≤ n ∧ n ≤ 8 → n = nI N ∧ N ≤ 8) (hq : 0 ≤ q ∧ q ≤ 12 → q = nI p ∧ p ≤ 12) : evI (ps_XX L xs) (d + 8) j_X8_mid [.ref m, .int a, .int n, .int q] (MS μ m 1832 τ) (if ¬ ((0 ≤ a ∧ a ≤ 9) ∧ (0 ≤ n ∧ n ≤ 8) ∧ (0 ≤ q ∧ q ≤ 12)) then (-1, MS μ m 1832 τ) else if σ0 8 = 0 then (-4, MS μ m 1832 τ) else (1, (MS (ps_sL (ps_sL μ m 10 (lN (abF g a p N 1 σ0 (2 ^ N) / Nat.gcd (abF g a p N 1 σ0 (2 ^ N)) (12 ^ N)))) m 11 (lN (12 ^ N / Nat.gcd (abF g a p N 1 σ0 (2 ^ N)) (12 ^ N)))) m 1832 (lastC g a N σ0 τ (2 ^ N))))) := by
  refine ⟨Nat.le_of_ble_eq_true rfl, ?_⟩
  refine e_2 rfl rfl ?_
  refine e_2 rfl rfl ?_
  refine e_2 rfl rfl ?_
  refine e_s3 rfl rfl rfl (Nat.le_of_ble_eq_true rfl) (sm_isChance _ _ _) ?_
  refine e_31b rfl (fun h1 => ?_) (fun h1 => ?_)
  · obtain ⟨rfl, hN⟩ := hn h1.2.1
    obtain ⟨rfl, hp⟩ := hq h1.2.2
    refine e_4 rfl rfl ?_
    refine m_gangs (by exact hm) rfl rfl ?_
    rw [hs 8 (by omega) (by omega)]
    refine e_31 rfl (fun h2 => ?_) (fun h2 => ?_)
    · refine e_4 rfl rfl ?_
      refine e_2 rfl rfl ?_
      refine e_2 rfl rfl ?_
      refine e_2 rfl rfl ?_
      refine e_0 rfl ?_
      refine e_v4 rfl (by first | exact hm.1 | assumption | rfl) rfl (by decide) rfl (Nat.le_of_ble_eq_true rfl) (mt_chances hm e0 hs hI (Int32.not_lt.mpr h1.1.1) hN hp _) ?_
      exact e_ri rfl rfl (by first | (simp only [eq_true h1, eq_false h2, if_true, if_true, if_false, not_true_eq_false, not_false_eq_true, and_true, true_and, and_false, false_and, or_true, true_or, or_false, false_or, reduceIte]; done) | (simp only [eq_true h1, eq_false h2, if_true, if_true, if_false, not_true_eq_false, not_false_eq_true, and_true, true_and, and_false, false_and, or_true, true_or, or_false, false_or, reduceIte]; rfl) | rfl) (by first | (simp only [eq_true h1, eq_false h2, if_true, if_true, if_false, not_true_eq_false, not_false_eq_true, and_true, true_and, and_false, false_and, or_true, true_or, or_false, false_or, reduceIte]; done) | (simp only [eq_true h1, eq_false h2, if_true, if_true, if_false, not_true_eq_false, not_false_eq_true, and_true, true_and, and_false, false_and, or_true, true_or, or_false, false_or, reduceIte]; rfl) | rfl)
    · refine e_0 rfl ?_
      refine e_42 rfl ?_
      exact e_ri rfl rfl (by first | (simp only [eq_true h1, eq_true h2, if_true, if_true, if_false, not_true_eq_false, not_false_eq_true, and_true, true_and, and_false, false_and, or_true, true_or, or_false, false_or, reduceIte]; done) | (simp only [eq_true h1, eq_true h2, if_true, if_true, if_false, not_true_eq_false, not_false_eq_true, and_true, true_and, and_false, false_and, or_true, true_or, or_false, false_or, reduceIte]; rfl) | rfl) (by first | (simp only [eq_true h1, eq_true h2, if_true, if_true, if_false, not_true_eq_false, not_false_eq_true, and_true, true_and, and_false, false_and, or_true, true_or, or_false, false_or, reduceIte]; done) | (simp only [eq_true h1, eq_true h2, if_true, if_true, if_false, not_true_eq_false, not_false_eq_true, and_true, true_and, and_false, false_and, or_true, true_or, or_false, false_or, reduceIte]; rfl) | rfl)
  · refine e_0 rfl ?_
    exact e_ri rfl rfl (by first | (simp only [eq_false h1, if_true, if_true, if_false, not_true_eq_false, not_false_eq_true, and_true, true_and, and_false, false_and, or_true, true_or, or_false, false_or, reduceIte]; done) | (simp only [eq_false h1, if_true, if_true, if_false, not_true_eq_false, not_false_eq_true, and_true, true_and, and_false, false_and, or_true, true_or, or_false, false_or, reduceIte]; rfl) | rfl) (by first | (simp only [eq_false h1, if_true, if_true, if_false, not_true_eq_false, not_false_eq_true, and_true, true_and, and_false, false_and, or_true, true_or, or_false, false_or, reduceIte]; done) | (simp only [eq_false h1, if_true, if_true, if_false, not_true_eq_false, not_false_eq_true, and_true, true_and, and_false, false_and, or_true, true_or, or_false, false_or, reduceIte]; rfl) | rfl)
end MQB
