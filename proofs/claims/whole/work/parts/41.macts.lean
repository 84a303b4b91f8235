-- ===== bits; acts, undone, kept =====
theorem b_sl : ∀ n, n < 32 → ((nI n &&& 31).toBitVec.smod 32).toNat = n := by decide
theorem b_one {n : Nat} (hn : n < 31) : (1 : Int32) <<< (nI n &&& 31) = nI (2 ^ n) := by
  have h2 : 2 ^ n < 2 ^ 31 := Nat.pow_lt_pow_right (by decide) hn
  rw [show (1 : Int32) = nI 1 from rfl, pk_shlN _ n (b_sl n (by omega)) (by omega), Nat.one_mul]
theorem b_orN {s n : Nat} (hs : s < 2 ^ n) (hn : n < 31) : nI s ||| nI (2 ^ n) = nI (s + 2 ^ n) := by
  have h2 : 2 ^ n < 2 ^ 31 := Nat.pow_lt_pow_right (by decide) hn
  have e := Nat.two_pow_add_eq_or_of_lt hs 1
  rw [Nat.mul_one] at e
  apply Int32.toBitVec_inj.mp
  apply BitVec.eq_of_toNat_eq
  rw [Int32.toBitVec_or, BitVec.toNat_or, pk_tn (by omega), pk_tn (by omega), pk_tn (by omega), Nat.or_comm, Nat.add_comm]
  exact e.symm
theorem b_or {s n : Nat} (hs : s < 2 ^ n) (hn : n < 31) : nI s ||| ((1 : Int32) <<< (nI n &&& 31)) = nI (s + 2 ^ n) := by
  rw [b_one hn, b_orN hs hn]
theorem b_sh {s k : Nat} (hs : s < 2 ^ 31) (hk : k < 32) : (nI s >>> (nI k &&& 31)) &&& 1 = nI (s / 2 ^ k % 2) := by
  rw [pk_shrN hs _ k (b_sl k hk), pk_andN (Nat.lt_of_le_of_lt (Nat.div_le_self _ _) (by omega)) 1 rfl]
/-- a set as a number -/
def bnN (p : Nat → Prop) [DecidablePred p] : Nat → Nat
  | 0 => 0
  | n + 1 => if p n then bnN p n + 2 ^ n else bnN p n
theorem bnN_lt {p : Nat → Prop} [DecidablePred p] : ∀ n, bnN p n < 2 ^ n
  | 0 => Nat.one_pos
  | n + 1 => by
    have h := bnN_lt (p := p) n
    have e : 2 ^ (n + 1) = 2 ^ n + 2 ^ n := by rw [Nat.pow_succ]; omega
    show (if p n then bnN p n + 2 ^ n else bnN p n) < _
    split <;> omega
theorem bits_bn {p : Nat → Prop} [DecidablePred p] : ∀ n, n ≤ 31 → bitsN p n = nI (bnN p n)
  | 0, _ => rfl
  | n + 1, h => by
    show (if p n then bitsN p n ||| ((1 : Int32) <<< (nI n &&& 31)) else bitsN p n) = nI (if p n then bnN p n + 2 ^ n else bnN p n)
    rw [bits_bn n (by omega)]
    split
    · exact b_or (bnN_lt n) (by omega)
    · rfl
theorem bnN_bit {p : Nat → Prop} [DecidablePred p] : ∀ n k, bnN p n / 2 ^ k % 2 = if k < n ∧ p k then 1 else 0
  | 0, k => by
    rw [if_neg (by omega)]
    show 0 / 2 ^ k % 2 = 0
    rw [Nat.zero_div]
  | n + 1, k => by
    have ih := bnN_bit (p := p) n k
    have hl := bnN_lt (p := p) n
    show (if p n then bnN p n + 2 ^ n else bnN p n) / 2 ^ k % 2 = _
    rcases Nat.lt_trichotomy k n with h | h | h
    · have e2 : (bnN p n + 2 ^ n) / 2 ^ k % 2 = bnN p n / 2 ^ k % 2 := by
        obtain ⟨c, rfl⟩ : ∃ c, n = k + (c + 1) := ⟨n - k - 1, by omega⟩
        rw [show 2 ^ (k + (c + 1)) = 2 ^ k * (2 * 2 ^ c) by rw [Nat.pow_add, Nat.pow_succ]; congr 1; omega, Nat.add_mul_div_left _ _ (Nat.two_pow_pos k)]
        omega
      have e3 : (k < n + 1 ∧ p k) ↔ (k < n ∧ p k) := by constructor <;> rintro ⟨a, b⟩ <;> exact ⟨by omega, b⟩
      simp only [e3]
      split
      · rw [e2, ih]
      · exact ih
    · subst h
      rw [if_neg (by omega)] at ih
      by_cases hp : p k
      · rw [if_pos hp, if_pos ⟨by omega, hp⟩, Nat.add_div_right _ (Nat.two_pow_pos k), Nat.div_eq_of_lt hl]
      · rw [if_neg hp, if_neg (fun z => hp z.2)]; exact ih
    · have hz : (if p n then bnN p n + 2 ^ n else bnN p n) < 2 ^ (n + 1) := bnN_lt (p := p) (n + 1)
      have : 2 ^ (n + 1) ≤ 2 ^ k := Nat.pow_le_pow_right (by decide) h
      rw [if_neg (show ¬ (k < n + 1 ∧ p k) by omega), Nat.div_eq_of_lt (by omega)]
theorem bits_has {p : Nat → Prop} [DecidablePred p] {n k : Nat} (hn : n ≤ 31) (hk : k < n) : ((bitsN p n >>> (nI k &&& 31)) &&& 1 = 1) ↔ p k := by
  have h2 : 2 ^ n ≤ 2 ^ 31 := Nat.pow_le_pow_right (by decide) hn
  rw [bits_bn n hn, b_sh (Nat.lt_of_lt_of_le (bnN_lt n) h2) (by omega), bnN_bit]
  by_cases hp : p k
  · rw [if_pos ⟨hk, hp⟩]; exact ⟨fun _ => hp, fun _ => rfl⟩
  · rw [if_neg (fun z => hp z.2)]; exact ⟨fun z => absurd z (by decide), fun z => absurd z hp⟩
/-- what was is laid into the past -/
def PA (μ : ps_M) (m p : Nat) (σ : Nat → Int32) (c : Nat) : ps_M := ps_wI μ (fun x i => if x = m + 1 ∧ 18 + 11 * p ≤ i ∧ i < 18 + 11 * p + c then σ (mdX (1 + (i - (18 + 11 * p)))) else ps_i μ x i)
theorem PA_0 {μ : ps_M} {m p : Nat} {σ : Nat → Int32} : PA μ m p σ 0 = μ := by
  refine ps_M_ext rfl rfl rfl ?_ rfl rfl
  funext x i
  exact if_neg (by omega)
theorem PA_s {μ : ps_M} {m p c : Nat} {σ : Nat → Int32} : ps_sI (PA μ m p σ c) (m + 1) (18 + 11 * p + c) (σ (mdX (1 + c))) = PA μ m p σ (c + 1) := by
  refine ps_M_ext rfl rfl rfl ?_ rfl rfl
  funext x i
  show ps_up (fun x i => if x = m + 1 ∧ 18 + 11 * p ≤ i ∧ i < 18 + 11 * p + c then σ (mdX (1 + (i - (18 + 11 * p)))) else ps_i μ x i) (m + 1) (18 + 11 * p + c) (σ (mdX (1 + c))) x i = (if x = m + 1 ∧ 18 + 11 * p ≤ i ∧ i < 18 + 11 * p + (c + 1) then σ (mdX (1 + (i - (18 + 11 * p)))) else ps_i μ x i)
  unfold ps_up
  grind
section MQ5
variable {L : Nat} {xs : Nat → Int32} {d : Nat} {μ : ps_M} {m : Nat} {σ : Nat → Int32} {g : Nat}
theorem PA_md {p c : Nat} (hm : isMd μ m) : isMd (PA μ m p σ c) m := hm
theorem mt_doAct_loop (hm : isMd μ m) (hI : shI g σ) {p : Nat} (e5 : σ 5 = nI p) (hp : p < 40) {a : Int32} (ha : allowsF σ a) : ∀ (n i : Nat), i + n = 11 → ps_To (ps_XX L xs) (ps_Ev (ps_XX L xs) (d + 4)) j_X8_doAct (ps_rt j_X8_doAct none (MS (PA μ m p σ 11) m 0 (passF g σ a))) (2, [(2, .int (nI i)), (0, .ref (m)), (1, .int (a))], [], MS (PA μ m p σ i) m 0 σ) := by
  intro n
  induction n with
  | zero =>
    intro i hi
    obtain rfl : i = 11 := by omega
    skip
    refine e_2 rfl rfl ?_
    refine e_0 rfl ?_
    refine e_39 rfl (fun h1 => ?_) (fun h1 => ?_)
    · refine e_4 rfl rfl ?_
      refine e_0 rfl ?_
      refine e_2 rfl rfl ?_
      refine e_v2v rfl (by first | exact hm.1 | assumption | rfl) rfl (by decide) rfl (Nat.le_of_ble_eq_true rfl) (mm_passA (B := 0) (PA_md hm) (by decide) hI ha) ?_
      exact e_rv rfl (rfl)
    · exact absurd (show nI 11 ≤ nI 11 from nI_le (Nat.le_refl _) (by omega)) h1
  | succ n ih =>
    intro i hi
    refine e_2 rfl rfl ?_
    refine e_0 rfl ?_
    refine e_39 rfl (fun h1 => ?_) (fun h1 => ?_)
    · exact absurd (show nI 11 ≤ nI i from h1) (nI_ge (by omega) (by omega))
    · refine e_4 rfl rfl ?_
      refine e_gr rfl hm.1 rfl hm.2.2.2.2.2.2.2.2.2.1 ?_
      refine e_0 rfl ?_
      refine e_0 rfl ?_
      refine e_4 rfl rfl ?_
      refine e_gr rfl hm.1 rfl hm.2.2.2.2.2.2.2.2.2.1 ?_
      refine e_0 rfl ?_
      refine m_ald (k := 0) (x := 5) (by exact hm) (by omega) (by first | rfl | (simp only [← nI_add, ← pk_mul, Nat.zero_add]; rfl)) (by omega) (by first | rfl | (rw [mdX_lo (by omega) (by omega)]; omega) | (rw [mdX_hi (by omega)]; omega)) rfl ?_
      rw [e5]
      refine e_11 rfl ?_
      refine e_9 rfl ?_
      refine e_2 rfl rfl ?_
      refine e_9 rfl ?_
      refine e_4 rfl rfl ?_
      refine e_gr rfl hm.1 rfl hm.2.2.2.2.2.2.2.2.2.1 ?_
      refine e_0 rfl ?_
      refine e_2 rfl rfl ?_
      refine e_9 rfl ?_
      refine m_ald (k := (1 + i)) (x := mdX (1 + i)) (by exact hm) (by omega) (by first | rfl | (simp only [← nI_add, ← pk_mul, Nat.zero_add]; rfl)) (by omega) (by first | rfl | (rw [mdX_lo (by omega) (by omega)]; omega) | (rw [mdX_hi (by omega)]; omega)) rfl ?_
      refine m_r_st (i := (18 + 11 * p + i)) (by exact hm) (by first | rfl | (simp only [← nI_add, ← pk_mul]; rfl)) (by omega) (by omega) rfl ?_
      refine e_8 rfl rfl rfl ?_
      refine e_42 rfl ?_
      refine e_lv [0, 1, 2] rfl rfl ?_
      show ps_To _ _ _ _ (2, [(2, .int _), (0, .ref _), (1, .int _)], [], _)
      have h := ih (i + 1) (by omega)
      rw [← PA_s (c := i)] at h
      rw [nI_1]
      exact h
theorem mt_doAct (hm : isMd μ m) (hI : shI g σ) {p : Nat} (e5 : σ 5 = nI p) (hp : p < 40) {a : Int32} (ha : allowsF σ a) : ps_Ev (ps_XX L xs) (d + 5) j_X8_doAct [.ref m, .int a] (MS μ m 0 σ) none (MS (PA μ m p σ 11) m 0 (passF g σ a)) := by
  refine ⟨Nat.le_of_ble_eq_true rfl, ?_⟩
  refine e_0 rfl ?_
  refine e_5 rfl rfl ?_
  have h := mt_doAct_loop (L := L) (xs := xs) (d := d) (μ := μ) hm hI e5 hp ha 11 0 (by omega)
  rw [PA_0] at h
  exact h
theorem mq_act (hm : isMd μ m) (hI : shI g σ) {p : Nat} (e5 : σ 5 = nI p) (hp31 : p ≤ 40) {a : Int32} {a' : Nat} (ha : actP a → a = nI a' ∧ a' < 10) : evI (ps_XX L xs) (d + 6) j_X8_act [.ref m, .int a] (MS μ m 0 σ) (if ¬ actP a then (-1, MS μ m 0 σ) else if σ 8 = 0 ∨ ¬ canF σ a then (-4, MS μ m 0 σ) else (passF g σ a 0, MS (PA μ m p σ 11) m 0 (passF g σ a))) := by
  refine ⟨Nat.le_of_ble_eq_true rfl, ?_⟩
  refine e_2 rfl rfl ?_
  refine e_s1 rfl rfl rfl (Nat.le_of_ble_eq_true rfl) (sm_isAct _) ?_
  refine e_31b rfl (fun h1 => ?_) (fun h1 => ?_)
  · obtain ⟨rfl, ha10⟩ := ha h1
    have hb := bits_has (p := fun k => canF σ (nI k)) (n := 10) (by decide) ha10
    refine e_4 rfl rfl ?_
    refine m_gangs (by exact hm) rfl rfl ?_
    refine e_30 rfl (fun h2 => ?_) (fun h2 => ?_)
    · try rw [show ((canS σ >>> (nI a' &&& 31)) &&& 1 = 1) = canF σ (nI a') from propext hb] at h3
      refine e_0 rfl ?_
      exact e_ri rfl rfl (by first | (simp only [eq_true h1, eq_true h2, if_true, if_true, if_false, not_true_eq_false, not_false_eq_true, and_true, true_and, and_false, false_and, or_true, true_or, or_false, false_or, reduceIte]; done) | (rw [if_neg (Classical.not_not.mpr h1), if_neg (fun z => z.elim h2 (fun q => q hc))])) (by first | (simp only [eq_true h1, eq_true h2, if_true, if_true, if_false, not_true_eq_false, not_false_eq_true, and_true, true_and, and_false, false_and, or_true, true_or, or_false, false_or, reduceIte]; done) | (rw [if_neg (Classical.not_not.mpr h1), if_neg (fun z => z.elim h2 (fun q => q hc))]))
    · refine e_4 rfl rfl ?_
      refine e_v0 rfl (by first | exact hm.1 | assumption | rfl) rfl (by decide) rfl (Nat.le_of_ble_eq_true rfl) (mt_canNow hm hI (g_pos hI.1 h2)) ?_
      refine e_2 rfl rfl ?_
      refine e_s2 rfl rfl rfl (Nat.le_of_ble_eq_true rfl) (sm_has _ _) ?_
      refine e_31b rfl (fun h3 => ?_) (fun h3 => ?_)
      · have hc := hb.mp h3
        have hp40 : p < 40 := by
          obtain ⟨p2, q2, hpq, hq40, f5, f4⟩ := hI.2.2.2.2.2
          have hlt := over_lt hc.2.1
          rw [f5, f4] at hlt
          rw [e5] at f5
          have := (nI_ltI (by omega) (by omega)).mp hlt
          have := (nI_eq (by omega) (by omega)).mp f5
          omega
        refine e_4 rfl rfl ?_
        refine e_2 rfl rfl ?_
        refine e_v1v rfl (by first | exact hm.1 | assumption | rfl) rfl (by decide) rfl (Nat.le_of_ble_eq_true rfl) (mt_doAct hm hI e5 hp40 hc.2.2) ?_
        refine e_4 rfl rfl ?_
        refine e_gr rfl hm.1 rfl hm.2.2.2.2.2.2.2.2.2.1 ?_
        refine e_0 rfl ?_
        refine m_ald (k := 1) (x := 0) (by exact hm) (by omega) (by first | rfl | (simp only [← nI_add, ← pk_mul, Nat.zero_add]; rfl)) (by omega) (by first | rfl | (rw [mdX_lo (by omega) (by omega)]; omega) | (rw [mdX_hi (by omega)]; omega)) rfl ?_
        exact e_ri rfl rfl (by first | (simp only [eq_true h1, eq_false h2, eq_true h3, if_true, if_true, if_false, not_true_eq_false, not_false_eq_true, and_true, true_and, and_false, false_and, or_true, true_or, or_false, false_or, reduceIte]; done) | (rw [if_neg (Classical.not_not.mpr h1), if_neg (fun z => z.elim h2 (fun q => q hc))])) (by first | (simp only [eq_true h1, eq_false h2, eq_true h3, if_true, if_true, if_false, not_true_eq_false, not_false_eq_true, and_true, true_and, and_false, false_and, or_true, true_or, or_false, false_or, reduceIte]; done) | (rw [if_neg (Classical.not_not.mpr h1), if_neg (fun z => z.elim h2 (fun q => q hc))]))
      · try rw [show ((canS σ >>> (nI a' &&& 31)) &&& 1 = 1) = canF σ (nI a') from propext hb] at h3
        refine e_0 rfl ?_
        exact e_ri rfl rfl (by first | (simp only [eq_true h1, eq_false h2, eq_false h3, if_true, if_true, if_false, not_true_eq_false, not_false_eq_true, and_true, true_and, and_false, false_and, or_true, true_or, or_false, false_or, reduceIte]; done) | (rw [if_neg (Classical.not_not.mpr h1), if_neg (fun z => z.elim h2 (fun q => q hc))])) (by first | (simp only [eq_true h1, eq_false h2, eq_false h3, if_true, if_true, if_false, not_true_eq_false, not_false_eq_true, and_true, true_and, and_false, false_and, or_true, true_or, or_false, false_or, reduceIte]; done) | (rw [if_neg (Classical.not_not.mpr h1), if_neg (fun z => z.elim h2 (fun q => q hc))]))
  · refine e_0 rfl ?_
    exact e_ri rfl rfl (by first | (simp only [eq_false h1, if_true, if_true, if_false, not_true_eq_false, not_false_eq_true, and_true, true_and, and_false, false_and, or_true, true_or, or_false, false_or, reduceIte]; done) | (rw [if_neg (Classical.not_not.mpr h1), if_neg (fun z => z.elim h2 (fun q => q hc))])) (by first | (simp only [eq_false h1, if_true, if_true, if_false, not_true_eq_false, not_false_eq_true, and_true, true_and, and_false, false_and, or_true, true_or, or_false, false_or, reduceIte]; done) | (rw [if_neg (Classical.not_not.mpr h1), if_neg (fun z => z.elim h2 (fun q => q hc))]))
/-- the past of an hour laid back: from place b on -/
def unU (μ : ps_M) (m b : Nat) (σ : Nat → Int32) (c : Nat) : Nat → Int32 := fun k => if k = 0 then (if 0 < c then ps_i μ (m + 1) b else σ 0) else if k = 2 then (if 1 < c then ps_i μ (m + 1) (b + 1) else σ 2) else if k = 3 then (if 2 < c then ps_i μ (m + 1) (b + 2) else σ 3) else if k = 7 then (if 3 < c then ps_i μ (m + 1) (b + 3) else σ 7) else if k = 6 then (if 4 < c then ps_i μ (m + 1) (b + 4) else σ 6) else if 21 ≤ k ∧ k < 27 then (if k - 16 < c then ps_i μ (m + 1) (b + (k - 16)) else σ k) else σ k
theorem unU_0 {b : Nat} : unU μ m b σ 0 = σ := by
  funext k
  unfold unU
  grind
theorem mdX_1 : ∀ c, c < 11 → mdX (1 + c) = if c = 0 then 0 else if c = 1 then 2 else if c = 2 then 3 else if c = 3 then 7 else if c = 4 then 6 else 16 + c := by decide
theorem unU_s {b c : Nat} (hc : c < 11) : upd (unU μ m b σ c) (mdX (1 + c)) (ps_i μ (m + 1) (b + c)) = unU μ m b σ (c + 1) := by
  funext k
  rw [mdX_1 c hc]
  unfold unU upd
  rcases (show c = 0 ∨ c = 1 ∨ c = 2 ∨ c = 3 ∨ c = 4 ∨ 5 ≤ c by omega) with rfl | rfl | rfl | rfl | rfl | h
  · grind
  · grind
  · grind
  · grind
  · grind
  · rw [if_neg (show ¬ c = 0 by omega), if_neg (show ¬ c = 1 by omega), if_neg (show ¬ c = 2 by omega), if_neg (show ¬ c = 3 by omega), if_neg (show ¬ c = 4 by omega)]
    by_cases hk : k = 16 + c
    · subst hk
      rw [if_pos rfl, if_neg (by omega), if_neg (by omega), if_neg (by omega), if_neg (by omega), if_neg (by omega), if_pos (by omega), if_pos (by omega), show 16 + c - 16 = c by omega]
    · rw [if_neg hk, if_pos (show 0 < c by omega), if_pos (show 1 < c by omega), if_pos (show 2 < c by omega), if_pos (show 3 < c by omega), if_pos (show 4 < c by omega), if_pos (show 0 < c + 1 by omega), if_pos (show 1 < c + 1 by omega), if_pos (show 2 < c + 1 by omega), if_pos (show 3 < c + 1 by omega), if_pos (show 4 < c + 1 by omega)]
      have e : (k - 16 < c) = (k - 16 < c + 1) ∨ ¬ (21 ≤ k ∧ k < 27) := by
        by_cases z : 21 ≤ k ∧ k < 27
        · left; apply propext; omega
        · right; exact z
      rcases e with e | e
      · simp only [e]
      · simp only [eq_false e, if_false]
theorem unU_8 {b c : Nat} : unU μ m b σ c 8 = σ 8 := by
  unfold unU
  rw [if_neg (by decide), if_neg (by decide), if_neg (by decide), if_neg (by decide), if_neg (by decide), if_neg (by decide)]
theorem lim_cut {τ : Nat → Int32} {i : Nat} (hi : i < 6) : upd (limU τ i) (21 + i) (if limU τ i (21 + i) ≤ limU τ i (15 + i) then limU τ i (21 + i) else limU τ i (15 + i)) = limU τ (i + 1) := by
  refine limU_s ?_
  rw [limU_hi (Nat.le_refl i)]
  rw [limU_lo (show 15 + i < 21 by omega)]
  by_cases h : τ (15 + i) < τ (21 + i)
  · rw [if_pos h, if_neg (Int32.not_le.mpr h)]
  · rw [if_neg h, if_pos (Int32.not_lt.mp h)]
theorem shOK.lim {τ : Nat → Int32} {i : Nat} (h : shOK g τ) (hf : ∀ i, i < g → ∃ f, f ≤ 9 ∧ τ (15 + i) = nI f) : shOK g (limU τ i) := by
  have hg := h.1
  refine ⟨h.1, (limU_lo (by decide)).trans h.2.1, fun x hx => ⟨?_, ?_⟩⟩
  · rw [limU_lo (by omega)]; exact (h.2.2 x hx).1
  · obtain ⟨s, hs, es⟩ := (h.2.2 x hx).2
    obtain ⟨f, hf9, ef⟩ := hf x hx
    unfold limU
    by_cases hi : 21 ≤ 21 + x ∧ 21 + x < 21 + i
    · rw [if_pos hi, show 21 + x - 6 = 15 + x by omega, ef, es]
      split
      · exact ⟨f, hf9, rfl⟩
      · exact ⟨s, hs, rfl⟩
    · rw [if_neg hi]; exact ⟨s, hs, es⟩
theorem mt_undo_l2 (hm : isMd μ m) {τ : Nat → Int32} (hok : shOK g τ) (hf : ∀ i, i < g → ∃ f, f ≤ 9 ∧ τ (15 + i) = nI f) {N : Nat} (w : Int32) : ∀ (n i : Nat), i + n = g → ps_To (ps_XX L xs) (ps_Ev (ps_XX L xs) (d + 1)) j_X8_undo (ps_rt j_X8_undo (some (.int w)) (MS μ m 0 (upd (limU τ g) 5 (nI N)))) (69, [(3, .int (nI i)), (2, .int (w)), (0, .ref (m)), (1, .int (nI N))], [], MS μ m 0 (limU τ i)) := by
  intro n
  induction n with
  | zero =>
    intro i hi
    obtain rfl : i = g := by omega
    have hg := hok.1
    have h8 := hok.2.1
    refine e_2 rfl rfl ?_
    refine e_4 rfl rfl ?_
    refine m_gangs (by exact hm) rfl rfl ?_
    rw [limU_lo (by decide), h8]
    refine e_39 rfl (fun h1 => ?_) (fun h1 => ?_)
    · refine e_4 rfl rfl ?_
      refine e_gr rfl hm.1 rfl hm.2.2.2.2.2.2.2.2.2.1 ?_
      refine e_0 rfl ?_
      refine e_2 rfl rfl ?_
      refine m_ast (k := 0) (x := 5) (by exact hm) (by omega) (by first | rfl | (simp only [← nI_add, ← pk_mul, Nat.zero_add]; rfl)) (by omega) (by first | rfl | (rw [mdX_lo (by omega) (by omega)]; omega) | (rw [mdX_hi (by omega)]; omega)) rfl ?_
      refine e_2 rfl rfl ?_
      exact e_ri rfl rfl (by rfl) (rfl)
    · exact absurd (nI_le (Nat.le_refl _) (by omega)) h1
  | succ n ih =>
    intro i hi
    have hg := hok.1
    have h8 := hok.2.1
    refine e_2 rfl rfl ?_
    refine e_4 rfl rfl ?_
    refine m_gangs (by exact hm) rfl rfl ?_
    rw [limU_lo (by decide), h8]
    refine e_39 rfl (fun h1 => ?_) (fun h1 => ?_)
    · exact absurd h1 (nI_ge (by omega) (by omega))
    · refine e_4 rfl rfl ?_
      refine e_2 rfl rfl ?_
      refine e_v1v rfl (by first | exact hm.1 | assumption | rfl) rfl (by decide) rfl (Nat.le_of_ble_eq_true rfl) (mt_cut (x := i) hm (hok.lim hf) (by omega)) ?_
      refine e_8 rfl rfl rfl ?_
      refine e_42 rfl ?_
      refine e_lv [0, 1, 2, 3] rfl rfl ?_
      show ps_To _ _ _ _ (69, [(3, .int _), (2, .int _), (0, .ref _), (1, .int _)], [], _)
      have h := ih (i + 1) (by omega)
      rw [← lim_cut (by omega)] at h
      rw [nI_1]
      exact h
theorem mt_undo_l1 (hm : isMd μ m) {N : Nat} (hN : N < 40) {w : Int32} (hw : ¬ w ≤ 0) (hok : shOK g (unU μ m (18 + 11 * N) σ 11)) (hf : ∀ i, i < g → ∃ f, f ≤ 9 ∧ unU μ m (18 + 11 * N) σ 11 (15 + i) = nI f) : ∀ (n i : Nat), i + n = 11 → ps_To (ps_XX L xs) (ps_Ev (ps_XX L xs) (d + 1)) j_X8_undo (ps_rt j_X8_undo (some (.int w)) (MS μ m 0 (upd (limU (unU μ m (18 + 11 * N) σ 11) g) 5 (nI N)))) (29, [(3, .int (nI i)), (2, .int (w)), (0, .ref (m)), (1, .int (nI N))], [], MS μ m 0 (unU μ m (18 + 11 * N) σ i)) := by
  intro n
  induction n with
  | zero =>
    intro i hi
    obtain rfl : i = 11 := by omega
    refine e_2 rfl rfl ?_
    refine e_0 rfl ?_
    refine e_39 rfl (fun h1 => ?_) (fun h1 => ?_)
    · refine e_0 rfl ?_
      refine e_5 rfl rfl ?_
      have h := mt_undo_l2 (L := L) (xs := xs) (d := d) hm hok hf (N := N) w g 0 (by omega)
      rw [limU_0] at h
      exact h
    · exact absurd (show nI 11 ≤ nI 11 from nI_le (Nat.le_refl _) (by omega)) h1
  | succ n ih =>
    intro i hi
    refine e_2 rfl rfl ?_
    refine e_0 rfl ?_
    refine e_39 rfl (fun h1 => ?_) (fun h1 => ?_)
    · exact absurd (show nI 11 ≤ nI i from h1) (nI_ge (by omega) (by omega))
    · refine e_2 rfl rfl ?_
      refine e_35 rfl (fun h2 => ?_) (fun h2 => ?_)
      · exact absurd h2 hw
      · refine e_4 rfl rfl ?_
        refine e_gr rfl hm.1 rfl hm.2.2.2.2.2.2.2.2.2.1 ?_
        refine e_0 rfl ?_
        refine e_2 rfl rfl ?_
        refine e_9 rfl ?_
        refine e_4 rfl rfl ?_
        refine e_gr rfl hm.1 rfl hm.2.2.2.2.2.2.2.2.2.1 ?_
        refine e_0 rfl ?_
        refine e_0 rfl ?_
        refine e_2 rfl rfl ?_
        refine e_11 rfl ?_
        refine e_9 rfl ?_
        refine e_2 rfl rfl ?_
        refine e_9 rfl ?_
        refine m_r_ld (i := (18 + 11 * N + i)) (by exact hm) (by first | rfl | (simp only [← nI_add, ← pk_mul]; rfl)) (by omega) (by omega) rfl ?_
        refine m_ast (k := (1 + i)) (x := mdX (1 + i)) (by exact hm) (by omega) (by first | rfl | (simp only [← nI_add, ← pk_mul, Nat.zero_add]; rfl)) (by omega) (by first | rfl | (rw [mdX_lo (by omega) (by omega)]; omega) | (rw [mdX_hi (by omega)]; omega)) rfl ?_
        refine e_8 rfl rfl rfl ?_
        refine e_42 rfl ?_
        show ps_To _ _ _ _ (29, [(3, .int _), (2, .int _), (0, .ref _), (1, .int _)], [], _)
        have h := ih (i + 1) (by omega)
        rw [← unU_s (c := i) (by omega)] at h
        rw [nI_1]
        exact h
theorem mq_undo (hm : isMd μ m) {p N : Nat} (e5 : σ 5 = nI p) (hp : p ≤ 40) {n : Int32} (hn : 0 ≤ n ∧ n ≤ σ 5 → n = nI N ∧ N ≤ p) (hok : shOK g (unU μ m (18 + 11 * N) σ 11)) (hf : ∀ i, i < g → ∃ f, f ≤ 9 ∧ unU μ m (18 + 11 * N) σ 11 (15 + i) = nI f) (hok2 : shI g σ) : evI (ps_XX L xs) (d + 3) j_X8_undo [.ref m, .int n] (MS μ m 0 σ) (if ¬ (0 ≤ n ∧ n ≤ σ 5) then (-1, MS μ m 0 σ) else (nI p - nI N, MS μ m 0 (upd (limU (if p = N then σ else unU μ m (18 + 11 * N) σ 11) g) 5 (nI N)))) := by
  refine ⟨Nat.le_of_ble_eq_true rfl, ?_⟩
  have hf2 : ∀ i, i < g → ∃ f, f ≤ 9 ∧ σ (15 + i) = nI f := fun i hi => by
    obtain ⟨f, a, b, -⟩ := hok2.2.1 i hi
    exact ⟨f, a, b⟩
  refine e_2 rfl rfl ?_
  refine e_25 rfl ?_
  refine e_1 rfl ?_
  refine e_4 rfl rfl ?_
  refine e_gr rfl hm.1 rfl hm.2.2.2.2.2.2.2.2.2.1 ?_
  refine e_0 rfl ?_
  refine m_ald (k := 0) (x := 5) (by exact hm) (by omega) (by first | rfl | (simp only [← nI_add, ← pk_mul, Nat.zero_add]; rfl)) (by omega) (by first | rfl | (rw [mdX_lo (by omega) (by omega)]; omega) | (rw [mdX_hi (by omega)]; omega)) rfl ?_
  refine e_25 rfl ?_
  refine e_s3 rfl rfl rfl (Nat.le_of_ble_eq_true rfl) (sm_in n 0 (σ 5) (by decide) rfl) ?_
  refine e_31b rfl (fun h1 => ?_) (fun h1 => ?_)
  · obtain ⟨rfl, hN⟩ := hn h1
    rw [e5] at h1 ⊢
    refine e_4 rfl rfl ?_
    refine e_gr rfl hm.1 rfl hm.2.2.2.2.2.2.2.2.2.1 ?_
    refine e_0 rfl ?_
    refine m_ald (k := 0) (x := 5) (by exact hm) (by omega) (by first | rfl | (simp only [← nI_add, ← pk_mul, Nat.zero_add]; rfl)) (by omega) (by first | rfl | (rw [mdX_lo (by omega) (by omega)]; omega) | (rw [mdX_hi (by omega)]; omega)) rfl ?_
    refine e_2 rfl rfl ?_
    refine e_10 rfl ?_
    rw [e5]
    refine e_5 rfl rfl ?_
    refine e_0 rfl ?_
    refine e_5 rfl rfl ?_
    by_cases hpN : p = N
    · subst hpN
      rw [if_neg (Classical.not_not.mpr h1), if_pos rfl]
      have h := mt_undo_l2 (L := L) (xs := xs) (d := d + 1) hm hok2.1 hf2 (N := p) (nI p - nI p) g 0 (by omega)
      rw [limU_0] at h
      refine e_2 rfl rfl ?_
      refine e_0 rfl ?_
      refine e_39 rfl (fun z => absurd z (by decide)) (fun _ => ?_)
      refine e_2 rfl rfl ?_
      refine e_35 rfl (fun _ => ?_) (fun z => absurd (show nI p - nI p ≤ 0 by rw [pk_sub (Nat.le_refl p), Nat.sub_self]; decide) z)
      refine e_0 rfl ?_
      refine e_5 rfl rfl ?_
      exact h
    · rw [if_neg (Classical.not_not.mpr h1), if_neg hpN]
      have h := mt_undo_l1 (L := L) (xs := xs) (d := d + 1) hm (N := N) (by omega) (w := nI p - nI N) (by rw [pk_sub hN]; exact nI_nle (by omega) (by omega)) hok hf 11 0 (by omega)
      rw [unU_0] at h
      exact h
  · refine e_0 rfl ?_
    exact e_ri rfl rfl (by first | (simp only [eq_false h1, if_true, if_true, if_false, not_true_eq_false, not_false_eq_true, and_true, true_and, and_false, false_and, or_true, true_or, or_false, false_or, reduceIte]; done) | (simp only [eq_false h1, if_true, if_true, if_false, not_true_eq_false, not_false_eq_true, and_true, true_and, and_false, false_and, or_true, true_or, or_false, false_or, reduceIte]; rfl) | rfl) (by first | (simp only [eq_false h1, if_true, if_true, if_false, not_true_eq_false, not_false_eq_true, and_true, true_and, and_false, false_and, or_true, true_or, or_false, false_or, reduceIte]; done) | (simp only [eq_false h1, if_true, if_true, if_false, not_true_eq_false, not_false_eq_true, and_true, true_and, and_false, false_and, or_true, true_or, or_false, false_or, reduceIte]; rfl) | rfl)
theorem mq_keep (hm : isMd μ m) {k : Int32} {t : Nat} (hk : 0 ≤ k ∧ k ≤ 2 → k = nI t ∧ t < 3) : evI (ps_XX L xs) (d + 3) j_X8_keep [.ref m, .int k] (μ) (if ¬ (0 ≤ k ∧ k ≤ 2) then (-1, μ) else if ps_i μ m 1 = 0 then (-4, μ) else (ps_i μ (m + 1) 0, ps_wI μ (cpR (ps_i μ) (m + 1) 0 (458 * (1 + t)) 458))) := by
  refine ⟨Nat.le_of_ble_eq_true rfl, ?_⟩
  refine e_2 rfl rfl ?_
  refine e_25 rfl ?_
  refine e_1 rfl ?_
  refine e_1 rfl ?_
  refine e_s3 rfl rfl rfl (Nat.le_of_ble_eq_true rfl) (sm_in k 0 2 (by decide) (by decide)) ?_
  refine e_31b rfl (fun h1 => ?_) (fun h1 => ?_)
  · refine e_4 rfl rfl ?_
    refine e_gi rfl hm.1 rfl (by decide) ?_
    refine e_31 rfl (fun h2 => ?_) (fun h2 => ?_)
    · obtain ⟨rfl, ht⟩ := hk h1
      refine e_4 rfl rfl ?_
      refine e_0 rfl ?_
      refine e_0 rfl ?_
      refine e_0 rfl ?_
      refine e_2 rfl rfl ?_
      refine e_9 rfl ?_
      refine e_11 rfl ?_
      refine e_0 rfl ?_
      rw [show (458 : Int32) * (1 + nI t) = nI (458 * (1 + t)) from (by rw [show (458 : Int32) = nI 458 from rfl, show (1 : Int32) = nI 1 from rfl, nI_add, pk_mul])]
      refine e_v3v rfl (by first | exact hm.1 | assumption | rfl) rfl (by decide) rfl (Nat.le_of_ble_eq_true rfl) (mm_copyShip hm (a := 0) (b := 458 * (1 + t)) (N := 458) (by omega) (by omega) (by omega)) ?_
      refine e_4 rfl rfl ?_
      refine e_gr rfl hm.1 rfl hm.2.2.2.2.2.2.2.2.2.1 ?_
      refine e_0 rfl ?_
      refine e_48q (i := 0) rfl hm.2.1 (by first | rfl | (simp only [← nI_add, ← pk_mul]; rfl) | (simp only [nI_add, pk_mul, nI_1]; done)) (by omega) (by decide) ?_
      exact e_ri rfl rfl (by first | (simp only [eq_true h1, eq_false h2, if_true, if_true, if_false, not_true_eq_false, not_false_eq_true, and_true, true_and, and_false, false_and, or_true, true_or, or_false, false_or, reduceIte]; done) | (simp only [eq_true h1, eq_false h2, if_true, if_true, if_false, not_true_eq_false, not_false_eq_true, and_true, true_and, and_false, false_and, or_true, true_or, or_false, false_or, reduceIte]; exact if_neg (by omega))) (by first | (simp only [eq_true h1, eq_false h2, if_true, if_true, if_false, not_true_eq_false, not_false_eq_true, and_true, true_and, and_false, false_and, or_true, true_or, or_false, false_or, reduceIte]; done) | (simp only [eq_true h1, eq_false h2, if_true, if_true, if_false, not_true_eq_false, not_false_eq_true, and_true, true_and, and_false, false_and, or_true, true_or, or_false, false_or, reduceIte]; rfl) | rfl)
    · refine e_0 rfl ?_
      exact e_ri rfl rfl (by first | (simp only [eq_true h1, eq_true h2, if_true, if_true, if_false, not_true_eq_false, not_false_eq_true, and_true, true_and, and_false, false_and, or_true, true_or, or_false, false_or, reduceIte]; done) | (simp only [eq_true h1, eq_true h2, if_true, if_true, if_false, not_true_eq_false, not_false_eq_true, and_true, true_and, and_false, false_and, or_true, true_or, or_false, false_or, reduceIte]; exact if_neg (by omega))) (by first | (simp only [eq_true h1, eq_true h2, if_true, if_true, if_false, not_true_eq_false, not_false_eq_true, and_true, true_and, and_false, false_and, or_true, true_or, or_false, false_or, reduceIte]; done) | (simp only [eq_true h1, eq_true h2, if_true, if_true, if_false, not_true_eq_false, not_false_eq_true, and_true, true_and, and_false, false_and, or_true, true_or, or_false, false_or, reduceIte]; rfl) | rfl)
  · refine e_0 rfl ?_
    exact e_ri rfl rfl (by first | (simp only [eq_false h1, if_true, if_true, if_false, not_true_eq_false, not_false_eq_true, and_true, true_and, and_false, false_and, or_true, true_or, or_false, false_or, reduceIte]; done) | (simp only [eq_false h1, if_true, if_true, if_false, not_true_eq_false, not_false_eq_true, and_true, true_and, and_false, false_and, or_true, true_or, or_false, false_or, reduceIte]; exact if_neg (by omega))) (by first | (simp only [eq_false h1, if_true, if_true, if_false, not_true_eq_false, not_false_eq_true, and_true, true_and, and_false, false_and, or_true, true_or, or_false, false_or, reduceIte]; done) | (simp only [eq_false h1, if_true, if_true, if_false, not_true_eq_false, not_false_eq_true, and_true, true_and, and_false, false_and, or_true, true_or, or_false, false_or, reduceIte]; rfl) | rfl)
theorem mq_on (hm : isMd μ m) {k : Int32} {t : Nat} (hk : 0 ≤ k ∧ k ≤ 2 → k = nI t ∧ t < 3) : evI (ps_XX L xs) (d + 3) j_X8_on [.ref m, .int k] (μ) (if ¬ (0 ≤ k ∧ k ≤ 2) then (-1, μ) else if ¬ 0 ≤ ps_i μ (m + 1) (458 * (1 + t)) then (-3, FM μ m 1) else (ps_i μ (m + 1) (458 * (1 + t)), ps_wI μ (cpR (ps_i μ) (m + 1) (458 * (1 + t)) 0 458))) := by
  refine ⟨Nat.le_of_ble_eq_true rfl, ?_⟩
  refine e_2 rfl rfl ?_
  refine e_25 rfl ?_
  refine e_1 rfl ?_
  refine e_1 rfl ?_
  refine e_s3 rfl rfl rfl (Nat.le_of_ble_eq_true rfl) (sm_in k 0 2 (by decide) (by decide)) ?_
  refine e_31b rfl (fun h1 => ?_) (fun h1 => ?_)
  · obtain ⟨rfl, ht⟩ := hk h1
    refine e_4 rfl rfl ?_
    refine e_gr rfl hm.1 rfl hm.2.2.2.2.2.2.2.2.2.1 ?_
    refine e_0 rfl ?_
    refine e_0 rfl ?_
    refine e_2 rfl rfl ?_
    refine e_9 rfl ?_
    refine e_11 rfl ?_
    refine e_0 rfl ?_
    refine e_9 rfl ?_
    refine e_48q (i := (458 * (1 + t))) rfl hm.2.1 (by rw [show (458 : Int32) = nI 458 from rfl, show (1 : Int32) = nI 1 from rfl, nI_add, pk_mul, show (0 : Int32) = nI 0 from rfl, nI_add]; rfl) (by omega) (by decide) ?_
    refine e_33 rfl (fun h2 => ?_) (fun h2 => ?_)
    · refine e_4 rfl rfl ?_
      refine e_0 rfl ?_
      refine e_0 rfl ?_
      refine e_2 rfl rfl ?_
      refine e_9 rfl ?_
      refine e_11 rfl ?_
      rw [show (458 : Int32) * (1 + nI t) = nI (458 * (1 + t)) from (by rw [show (458 : Int32) = nI 458 from rfl, show (1 : Int32) = nI 1 from rfl, nI_add, pk_mul])]
      refine e_0 rfl ?_
      refine e_0 rfl ?_
      refine e_v3v rfl (by first | exact hm.1 | assumption | rfl) rfl (by decide) rfl (Nat.le_of_ble_eq_true rfl) (mm_copyShip hm (b := 0) (a := 458 * (1 + t)) (N := 458) (by omega) (by omega) (by omega)) ?_
      refine e_4 rfl rfl ?_
      refine e_gr rfl hm.1 rfl hm.2.2.2.2.2.2.2.2.2.1 ?_
      refine e_0 rfl ?_
      refine e_48q (i := 0) rfl hm.2.1 (by first | rfl | (simp only [← nI_add, ← pk_mul]; rfl) | (simp only [nI_add, pk_mul, nI_1]; done)) (by omega) (by decide) ?_
      exact e_ri rfl rfl (by first | (simp only [eq_true h1, eq_true h2, if_true, if_true, if_false, not_true_eq_false, not_false_eq_true, and_true, true_and, and_false, false_and, or_true, true_or, or_false, false_or, reduceIte]; done) | (simp only [eq_true h1, eq_true h2, if_true, if_true, if_false, not_true_eq_false, not_false_eq_true, and_true, true_and, and_false, false_and, or_true, true_or, or_false, false_or, reduceIte]; exact if_pos (by omega))) (by first | (simp only [eq_true h1, eq_true h2, if_true, if_true, if_false, not_true_eq_false, not_false_eq_true, and_true, true_and, and_false, false_and, or_true, true_or, or_false, false_or, reduceIte]; done) | (simp only [eq_true h1, eq_true h2, if_true, if_true, if_false, not_true_eq_false, not_false_eq_true, and_true, true_and, and_false, false_and, or_true, true_or, or_false, false_or, reduceIte]; rfl) | rfl)
    · refine e_4 rfl rfl ?_
      refine e_0 rfl ?_
      refine e_v1 rfl (by first | exact hm.1 | assumption | rfl) rfl (by decide) rfl (Nat.le_of_ble_eq_true rfl) (evo (mq_find (by exact hm) (by decide))) ?_
      exact e_ri rfl rfl (by first | (simp only [eq_true h1, eq_false h2, if_true, if_true, if_false, not_true_eq_false, not_false_eq_true, and_true, true_and, and_false, false_and, or_true, true_or, or_false, false_or, reduceIte]; done) | (simp only [eq_true h1, eq_false h2, if_true, if_true, if_false, not_true_eq_false, not_false_eq_true, and_true, true_and, and_false, false_and, or_true, true_or, or_false, false_or, reduceIte]; exact if_pos (by omega))) (by first | (simp only [eq_true h1, eq_false h2, if_true, if_true, if_false, not_true_eq_false, not_false_eq_true, and_true, true_and, and_false, false_and, or_true, true_or, or_false, false_or, reduceIte]; done) | (simp only [eq_true h1, eq_false h2, if_true, if_true, if_false, not_true_eq_false, not_false_eq_true, and_true, true_and, and_false, false_and, or_true, true_or, or_false, false_or, reduceIte]; rfl) | rfl)
  · refine e_0 rfl ?_
    exact e_ri rfl rfl (by first | (simp only [eq_false h1, if_true, if_true, if_false, not_true_eq_false, not_false_eq_true, and_true, true_and, and_false, false_and, or_true, true_or, or_false, false_or, reduceIte]; done) | (simp only [eq_false h1, if_true, if_true, if_false, not_true_eq_false, not_false_eq_true, and_true, true_and, and_false, false_and, or_true, true_or, or_false, false_or, reduceIte]; exact if_pos (by omega))) (by first | (simp only [eq_false h1, if_true, if_true, if_false, not_true_eq_false, not_false_eq_true, and_true, true_and, and_false, false_and, or_true, true_or, or_false, false_or, reduceIte]; done) | (simp only [eq_false h1, if_true, if_true, if_false, not_true_eq_false, not_false_eq_true, and_true, true_and, and_false, false_and, or_true, true_or, or_false, false_or, reduceIte]; rfl) | rfl)
end MQ5
