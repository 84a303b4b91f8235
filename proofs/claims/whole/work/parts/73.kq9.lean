-- ===== the class: watch =====
def SP (μ : ps_M) (N x c : Nat) : ps_M := ps_wI μ (fun a i => if a = 43 ∧ c ≤ i ∧ i < N then nI (dig N x i) else ps_i μ a i)
theorem SP_N {μ : ps_M} {N x : Nat} : SP μ N x N = μ := by
  refine ps_M_ext rfl rfl rfl ?_ rfl rfl
  funext a i
  exact if_neg (by omega)
theorem SP_s {μ : ps_M} {N x c : Nat} (h : c < N) : ps_sI (SP μ N x (c + 1)) 43 c (nI (dig N x c)) = SP μ N x c := by
  refine ps_M_ext rfl rfl rfl ?_ rfl rfl
  funext a i
  show ps_up (fun a i => if a = 43 ∧ c + 1 ≤ i ∧ i < N then nI (dig N x i) else ps_i μ a i) 43 c (nI (dig N x c)) a i = if a = 43 ∧ c ≤ i ∧ i < N then nI (dig N x i) else ps_i μ a i
  unfold ps_up
  dsimp only
  by_cases h1 : a = 43 ∧ i = c
  · rw [if_pos h1, if_pos (by omega), h1.2]
  · rw [if_neg h1]
    by_cases h2 : a = 43 ∧ c + 1 ≤ i ∧ i < N
    · rw [if_pos h2, if_pos (by omega)]
    · rw [if_neg h2, if_neg (by omega)]
theorem SP_43 {μ : ps_M} {N x j : Nat} (h : j < N) : ps_i (SP μ N x 0) 43 j = nI (dig N x j) := if_pos (by omega)
def WEf (μ0 μ : ps_M) : Prop := ps_n μ = ps_n μ0 ∧ ps_w μ = ps_w μ0 ∧ ps_s μ = ps_s μ0 ∧ ps_l μ = ps_l μ0 ∧ ps_r μ = ps_r μ0 ∧ ∀ a i, ¬ (10 ≤ a ∧ a ≤ 13 ∨ a = 43) → ps_i μ a i = ps_i μ0 a i
theorem WEf.rf {μ : ps_M} : WEf μ μ := ⟨rfl, rfl, rfl, rfl, rfl, fun _ _ _ => rfl⟩
theorem WEf.tr {μ ν ξ : ps_M} (h : WEf μ ν) (h2 : WEf ν ξ) : WEf μ ξ := ⟨h2.1.trans h.1, h2.2.1.trans h.2.1, h2.2.2.1.trans h.2.2.1, h2.2.2.2.1.trans h.2.2.2.1, h2.2.2.2.2.1.trans h.2.2.2.2.1, fun a i z => (h2.2.2.2.2.2 a i z).trans (h.2.2.2.2.2 a i z)⟩
theorem WEf.SP {μ : ps_M} {N x c : Nat} : WEf μ (SP μ N x c) := ⟨rfl, rfl, rfl, rfl, rfl, fun a j z => if_neg (by omega)⟩
theorem WEf.SM {μ : ps_M} {σ : Nat → Int32} : WEf μ (SM μ 10 σ) := ⟨rfl, rfl, rfl, rfl, rfl, fun a j z => SM_off (by omega)⟩
theorem isPs.we {μ ν : ps_M} (hp : isPs μ) (h : WEf μ ν) : isPs ν := by
  unfold isPs
  rw [h.2.2.1, h.2.2.2.2.1]
  exact hp
theorem WEf.sh4 {μ ν : ps_M} (h : WEf μ ν) : shG (ps_i ν) 4 = shG (ps_i μ) 4 := shG_cells (fun a i h1 h2 => h.2.2.2.2.2 a i (by omega))
theorem TK_c {μ : ps_M} {r N : Nat} {f k : Nat → Int32} (h : ∀ j, j < N → f j = k j) : TK μ r N f = TK μ r N k := by
  refine ps_M_ext rfl rfl rfl ?_ rfl rfl
  funext a i
  show (if a = r + 1 ∧ i < N then f i else _) = (if a = r + 1 ∧ i < N then k i else _)
  by_cases z : a = r + 1 ∧ i < N
  · rw [if_pos z, if_pos z, h i z.2]
  · rw [if_neg z, if_neg z]
theorem rota_fc {g m : Nat} {p q : Nat → Int32} (hm : 0 < m) (h : ∀ j, j < m → p j = q j) : ∀ n x σ, x < m → rotaF g p m n x σ = rotaF g q m n x σ
  | 0, _, _, _ => rfl
  | n + 1, x, σ, hx => by
    unfold rotaF
    rw [h x hx, rota_fc hm h n _ _ (by split <;> omega)]
def lsF (kp : Nat → Int32 × (Nat → Int32)) (i : Nat) : Int32 := if (bestF kp i).1 = -9 then -9 else (bestF kp i).2
def fnF (kp : Nat → Int32 × (Nat → Int32)) (i : Nat) : Nat := if (bestF kp i).1 = -9 then 0 else (bestF kp i).1.toNatClampNeg
theorem best_2 {kp : Nat → Int32 × (Nat → Int32)} (hkp : ∀ x, ¬ (kp x).1 = 0 → ¬ (kp x).2 0 < 0) : ∀ n, ¬ (bestF kp n).1 = -9 → ¬ (bestF kp n).2 < 0
  | 0, h => absurd rfl h
  | n + 1, h => by
    unfold bestF at h ⊢
    split
    · rename_i z; exact hkp n z.1
    · rename_i z
      rw [if_neg z] at h
      exact best_2 hkp n h
theorem best_stop {kp : Nat → Int32 × (Nat → Int32)} (hkp : ∀ x, ¬ (kp x).1 = 0 → ¬ (kp x).2 0 < 0) {i : Nat} (h1 : ¬ (bestF kp i).1 = -9) (h2 : (bestF kp i).2 = 0) : ∀ n, bestF kp (i + n) = bestF kp i
  | 0 => rfl
  | n + 1 => by
    have e := best_stop hkp h1 h2 n
    show bestF kp (i + n + 1) = _
    have eb : bestF kp (i + n + 1) = bestF kp (i + n) := if_neg (fun z => by
      rw [e, h2] at z
      rcases z.2 with q | q
      · exact h1 q
      · exact q (Int32.not_lt.mp (hkp _ z.1)))
    rw [eb, e]
theorem ls_stop {kp : Nat → Int32 × (Nat → Int32)} (hkp : ∀ x, ¬ (kp x).1 = 0 → ¬ (kp x).2 0 < 0) {i n : Nat} (h : lsF kp i = 0) : bestF kp (i + n) = bestF kp i := by
  unfold lsF at h
  split at h
  · exact absurd h (by decide)
  · rename_i z; exact best_stop hkp z h n
theorem ld_ne {g N x : Nat} {σ : Nat → Int32} (h : ¬ sunkF (ldF g N σ x).2) : ¬ (ldF g N σ x).1 = 0 := by
  show ¬ (if sunkF (ldF g N σ x).2 then (0 : Int32) else 1) = 0
  rw [if_neg h]; decide
section KQ9
variable {L : Nat} {xs : Nat → Int32} {d : Nat} {μ : ps_M} {g N : Nat} {σ0 : Nat → Int32}
theorem k_10_loop {N : Nat} (hN : N ≤ 8) : ∀ (n i : Nat), i + n = N → ps_To (ps_XX L xs) (ps_Ev (ps_XX L xs) (d + 0)) j_X7_tenTo (ps_rt j_X7_tenTo (some (.int (nI (10 ^ N)))) μ) (4, [(2, .int (nI i)), (1, .int (nI (10 ^ i))), (0, .int (nI N))], [], μ) := by
  intro n
  induction n with
  | zero =>
    intro i hi
    obtain rfl : i = N := by omega
    refine e_2 rfl rfl ?_
    refine e_2 rfl rfl ?_
    refine e_39 rfl (fun h1 => ?_) (fun h1 => ?_)
    · refine e_2 rfl rfl ?_
      exact e_ri rfl rfl (by rfl) (rfl)
    · exact absurd (nI_le (Nat.le_refl _) (by omega)) h1
  | succ n ih =>
    intro i hi
    refine e_2 rfl rfl ?_
    refine e_2 rfl rfl ?_
    refine e_39 rfl (fun h1 => ?_) (fun h1 => ?_)
    · exact absurd h1 (nI_ge (by omega) (by omega))
    · refine e_2 rfl rfl ?_
      refine e_0 rfl ?_
      refine e_11 rfl ?_
      refine e_5 rfl rfl ?_
      refine e_8 rfl rfl rfl ?_
      refine e_42 rfl ?_
      refine e_lv [0, 1, 2] rfl rfl ?_
      show ps_To _ _ _ _ (4, [(2, .int _), (1, .int _), (0, .int _)], [], _)
      rw [nI_1, show (10 : Int32) = nI 10 from rfl, pk_mul, ← Nat.pow_succ]
      exact ih (i + 1) (by omega)
theorem k_10 {N : Nat} (hN : N ≤ 8) : ps_Ev (ps_XX L xs) (d + 1) j_X7_tenTo [.int (nI N)] μ (some (.int (nI (10 ^ N)))) μ := by
  refine ⟨Nat.le_of_ble_eq_true rfl, ?_⟩
  refine e_0 rfl ?_
  refine e_5 rfl rfl ?_
  refine e_0 rfl ?_
  refine e_5 rfl rfl ?_
  exact k_10_loop hN N 0 (by omega)
theorem k_spell_loop (hp : isPs μ) (hN : N ≤ 3) {x : Nat} (hx : x < 2 ^ 31) {y z : Int32} : ∀ c, c ≤ N → ps_To (ps_XX L xs) (ps_Ev (ps_XX L xs) d) j_X7_spellOut (ps_rt j_X7_spellOut none (SP μ N x 0)) (11, [(4, .int (nI c - 1)), (3, .int (nI (x / 10 ^ (N - c)))), (0, .ref 0), (1, .int y), (2, .int z)], [], SP μ N x c) := by
  intro c
  induction c with
  | zero =>
    intro hc
    refine e_2 rfl rfl ?_
    refine e_32 rfl (fun h1 => ?_) (fun h1 => ?_)
    · exact e_rv rfl (rfl)
    · exact absurd (by decide) h1
  | succ c ih =>
    intro hc
    have hdx : x / 10 ^ (N - (c + 1)) < 2 ^ 31 := Nat.lt_of_le_of_lt (Nat.div_le_self _ _) hx
    rw [nI_pred]
    refine e_2 rfl rfl ?_
    refine e_32 rfl (fun h1 => ?_) (fun h1 => ?_)
    · exact absurd h1 (nI_pos (by omega))
    · refine e_4 rfl rfl ?_
      refine e_gr rfl (p_0 hp) rfl (p_f8 hp) ?_
      refine e_2 rfl rfl ?_
      refine e_2 rfl rfl ?_
      refine e_0 rfl ?_
      refine e_18 rfl (by first | decide | assumption) ?_
      rw [show (10 : Int32) = nI 10 from rfl, pk_rem hdx (by omega) (by omega), show x / 10 ^ (N - (c + 1)) % 10 = dig N x c from (by unfold dig; rw [show N - (c + 1) = N - 1 - c by omega])]
      refine e_49q (i := c) rfl (p_43 hp) (by first | rfl | (simp only [← nI_add, ← pk_mul]; rfl) | (simp only [nI_add, pk_mul, nI_1]; done)) (by omega) (by decide) ?_
      rw [SP_s (by omega)]
      refine e_2 rfl rfl ?_
      refine e_0 rfl ?_
      refine e_17 rfl (by first | decide | assumption) ?_
      rw [show (10 : Int32) = nI 10 from rfl, pk_div hdx (by omega) (by omega), Nat.div_div_eq_div_mul, ← Nat.pow_succ, show (N - (c + 1)).succ = N - c by omega]
      refine e_5 rfl rfl ?_
      refine e_8 rfl rfl rfl ?_
      refine e_42 rfl ?_
      refine e_lv [0, 1, 2, 3, 4] rfl rfl ?_
      have h := ih (by omega)
      rw [Int32.sub_eq_add_neg] at h
      exact h
theorem k_spell (hp : isPs μ) (hN : N ≤ 3) {x : Nat} (hx : x < 2 ^ 31) : ps_Ev (ps_XX L xs) (d + 1) j_X7_spellOut [.ref 0, .int (nI x), .int (nI N)] μ none (SP μ N x 0) := by
  refine ⟨Nat.le_of_ble_eq_true rfl, ?_⟩
  refine e_2 rfl rfl ?_
  refine e_5 rfl rfl ?_
  refine e_2 rfl rfl ?_
  refine e_0 rfl ?_
  refine e_67 rfl (Nat.le_of_ble_eq_true rfl) ?_
  rw [show (if (3 : Int32) < nI N then (3 : Int32) else nI N) = nI N from if_neg (nI_nlt (a := 3) hN (by omega))]
  refine e_0 rfl ?_
  refine e_10 rfl ?_
  refine e_5 rfl rfl ?_
  refine e_lv [0, 1, 2, 3, 4] rfl rfl ?_
  have h := k_spell_loop (L := L) (xs := xs) (d := d) (y := nI x) (z := nI N) hp hN hx N (Nat.le_refl _)
  rw [SP_N, Nat.sub_self, Nat.pow_zero, Nat.div_one] at h
  exact h
theorem k10_followR (hp : isPs μ) (e0 : shG (ps_i μ) 4 = σ0) (h7 : σ0 7 = 0 ∨ σ0 7 = 1) : ps_Ev (ps_XX L xs) (d + 1) j_X3_follow [.ref 10, .ref 4] μ none (SM μ 10 σ0) := by
  have h := k10_follow (L := L) (xs := xs) (d := d) (τ := shG (ps_i μ) 10) hp e0 h7
  rw [SM_self] at h
  exact h
theorem k_watch_end (hp : isPs μ) (hN : N ≤ 3) {P k : Nat} (hk : k < 6) (hf : fnF (ldF g N σ0) P < 2 ^ 31) {y z : Int32} : ∃ μ', ps_To (ps_XX L xs) (ps_Ev (ps_XX L xs) (d + 6)) j_X7_watch (ps_rt j_X7_watch (some (.int (lsF (ldF g N σ0) P))) (if lsF (ldF g N σ0) P = -9 then μ' else TK μ' (45 + 2 * k) N (fun j => nI (dig N (fnF (ldF g N σ0) P) j)))) (136, [(6, .int y), (5, .int (nI (fnF (ldF g N σ0) P))), (4, .int (lsF (ldF g N σ0) P)), (3, .int z), (0, .ref 0), (1, .int (nI N)), (2, .int (nI k))], [], μ) ∧ WEf μ μ' := by
  by_cases hl : lsF (ldF g N σ0) P = -9
  · refine ⟨μ, ?_, WEf.rf⟩
    rw [if_pos hl]
    refine e_2 rfl rfl ?_
    refine e_0 rfl ?_
    refine e_36 rfl (fun h1 => ?_) (fun h1 => ?_)
    · refine e_2 rfl rfl ?_
      exact e_ri rfl rfl (by rfl) (rfl)
    · exact absurd hl h1
  · refine ⟨SP μ N (fnF (ldF g N σ0) P) 0, ?_, WEf.SP⟩
    rw [if_neg hl, ← TK_c (f := ps_i (SP μ N (fnF (ldF g N σ0) P) 0) 43) (fun j hj => SP_43 hj)]
    refine e_2 rfl rfl ?_
    refine e_0 rfl ?_
    refine e_36 rfl (fun h1 => ?_) (fun h1 => ?_)
    · exact absurd h1 hl
    · refine e_4 rfl rfl ?_
      refine e_2 rfl rfl ?_
      refine e_2 rfl rfl ?_
      refine e_v2v rfl (by first | exact p_0 hp | exact (p_sh10 hp).1 | exact (p_ro hp (by omega)).1 | exact (p_sh4 hp).1) rfl (by decide) rfl (Nat.le_of_ble_eq_true rfl) (k_spell hp hN hf) ?_
      refine e_4 rfl rfl ?_
      refine e_gr rfl (p_0 hp) rfl (p_f0 hp) ?_
      refine e_2 rfl rfl ?_
      refine e_gaq (i := k) rfl (p_1 hp) (by decide) (by decide) (by first | rfl | (simp only [← nI_add, ← pk_mul]; rfl) | (simp only [nI_add, pk_mul, nI_1]; done)) (by omega) (by decide) (p_r1 hp (by omega)) ?_
      refine e_4 rfl rfl ?_
      refine e_gr rfl (p_0 hp) rfl (p_f8 hp) ?_
      refine e_2 rfl rfl ?_
      refine e_v2v rfl (by first | exact p_0 hp | exact (p_sh10 hp).1 | exact (p_ro hp (by omega)).1 | exact (p_sh4 hp).1) rfl (by decide) rfl (Nat.le_of_ble_eq_true rfl) (kr_take (μ := SP μ N (fnF (ldF g N σ0) P) 0) (by exact p_ro hp hk) (by exact p_43 hp) (by omega) hN (by omega)) ?_
      refine e_2 rfl rfl ?_
      exact e_ri rfl rfl (by rfl) (rfl)
theorem ls9 {kp : Nat → Int32 × (Nat → Int32)} (hkp : ∀ x, ¬ (kp x).1 = 0 → ¬ (kp x).2 0 < 0) {i : Nat} (h : lsF kp i = -9) : (bestF kp i).1 = -9 := by
  refine Classical.byContradiction fun z => ?_
  unfold lsF at h
  rw [if_neg z] at h
  exact best_2 hkp i z (by rw [h]; decide)
theorem ls9b {kp : Nat → Int32 × (Nat → Int32)} {i : Nat} (h : (bestF kp i).1 = -9) : lsF kp i = -9 := if_pos h
theorem lsN {kp : Nat → Int32 × (Nat → Int32)} {i : Nat} (h : ¬ lsF kp i = -9) : lsF kp i = (bestF kp i).2 := if_neg (fun z => h (ls9b z))
theorem k_watch_loop (hN : N ≤ 3) (hN0 : 0 < N) {P k : Nat} (hk : k < 6) (hP : P ≤ 1000) (hI : shI g σ0) (hkp : ∀ x, ¬ (ldF g N σ0 x).1 = 0 → ¬ (ldF g N σ0 x).2 0 < 0) (hfn : ∀ i, i ≤ P → fnF (ldF g N σ0) i < 2 ^ 31) : ∀ (n i : Nat) (μ : ps_M), i + n = P → isPs μ → shG (ps_i μ) 4 = σ0 → ∃ μ', ps_To (ps_XX L xs) (ps_Ev (ps_XX L xs) (d + 6)) j_X7_watch (ps_rt j_X7_watch (some (.int (lsF (ldF g N σ0) P))) (if lsF (ldF g N σ0) P = -9 then μ' else TK μ' (45 + 2 * k) N (fun j => nI (dig N (fnF (ldF g N σ0) P) j)))) (47, [(6, .int (nI i)), (5, .int (nI (fnF (ldF g N σ0) i))), (4, .int (lsF (ldF g N σ0) i)), (3, .int (nI P)), (0, .ref 0), (1, .int (nI N)), (2, .int (nI k))], [], μ) ∧ WEf μ μ' := by
  have hg := hI.1.1
  have h8 := hI.1.2.1
  intro n
  induction n with
  | zero =>
    intro i μ hi hp e0
    obtain rfl : i = P := by omega
    obtain ⟨μ', y1, y2⟩ := k_watch_end (L := L) (xs := xs) (d := d) (g := g) (σ0 := σ0) (P := i) (y := nI i) (z := nI i) hp hN hk (hfn i (Nat.le_refl _))
    refine ⟨μ', ?_, y2⟩
    refine e_2 rfl rfl ?_
    refine e_2 rfl rfl ?_
    refine e_39 rfl (fun h1 => ?_) (fun h1 => ?_)
    · exact y1
    · exact absurd (nI_le (Nat.le_refl _) (by omega)) h1
  | succ n ih =>
    intro i μ hi hp e0
    by_cases hz : lsF (ldF g N σ0) i = 0
    · have eb : bestF (ldF g N σ0) P = bestF (ldF g N σ0) i := by rw [← hi]; exact ls_stop hkp hz
      have e1 : lsF (ldF g N σ0) i = lsF (ldF g N σ0) P := by unfold lsF; rw [eb]
      have e2 : fnF (ldF g N σ0) i = fnF (ldF g N σ0) P := by unfold fnF; rw [eb]
      obtain ⟨μ', y1, y2⟩ := k_watch_end (L := L) (xs := xs) (d := d) (g := g) (σ0 := σ0) (P := P) (y := nI i) (z := nI P) hp hN hk (hfn P (Nat.le_refl _))
      refine ⟨μ', ?_, y2⟩
      rw [e1] at hz ⊢
      rw [e2]
      refine e_2 rfl rfl ?_
      refine e_2 rfl rfl ?_
      refine e_39 rfl (fun h1 => ?_) (fun h1 => ?_)
      · exact absurd h1 (nI_ge (by omega) (by omega))
      · refine e_2 rfl rfl ?_
        refine e_30 rfl (fun h2 => ?_) (fun h2 => ?_)
        · exact y1
        · exact absurd hz h2
    · have er : rotaF g (ps_i (SP μ N i 0) 43) N 40 0 σ0 = (ldF g N σ0 i).2 := rota_fc hN0 (fun j hj => SP_43 hj) 40 0 σ0 hN0
      have e0' : shG (ps_i (SP μ N i 0)) 4 = σ0 := (WEf.SP.sh4).trans e0
      have rt := ss_rota (L := L) (xs := xs) (d := d) (μ := SP μ N i 0) (q := 10) (k := 43) (len := 3) (σ := σ0) (g := g) (m := N) (by exact p_sh10 hp) hg h8 (by exact p_43 hp) (by omega) (by omega) hN0 hN
      rw [er] at rt
      have hw : WEf μ (SM (SP μ N i 0) 10 (ldF g N σ0 i).2) := WEf.SP.tr WEf.SM
      obtain ⟨μ', y1, y2⟩ := ih (i + 1) (SM (SP μ N i 0) 10 (ldF g N σ0 i).2) (by omega) (hp.we hw) (hw.sh4.trans e0)
      refine ⟨μ', ?_, hw.tr y2⟩
      refine e_2 rfl rfl ?_
      refine e_2 rfl rfl ?_
      refine e_39 rfl (fun h1 => ?_) (fun h1 => ?_)
      · exact absurd h1 (nI_ge (by omega) (by omega))
      · refine e_2 rfl rfl ?_
        refine e_30 rfl (fun h2 => ?_) (fun h2 => ?_)
        · exact absurd h2 hz
        · refine e_4 rfl rfl ?_
          refine e_2 rfl rfl ?_
          refine e_2 rfl rfl ?_
          refine e_v2v rfl (by first | exact p_0 hp | exact (p_sh10 hp).1 | exact (p_sh4 hp).1) rfl (by decide) rfl (Nat.le_of_ble_eq_true rfl) (k_spell hp hN (by omega)) ?_
          refine e_4 rfl rfl ?_
          refine e_gr rfl (p_0 hp) rfl (p_f5 hp) ?_
          refine e_4 rfl rfl ?_
          refine e_gr rfl (p_0 hp) rfl (p_f4 hp) ?_
          refine e_v1v rfl (by first | exact p_0 hp | exact (p_sh10 hp).1 | exact (p_sh4 hp).1) rfl (by decide) rfl (Nat.le_of_ble_eq_true rfl) (k10_followR (by exact hp) e0' hI.2.2.1) ?_
          refine e_4 rfl rfl ?_
          refine e_gr rfl (p_0 hp) rfl (p_f5 hp) ?_
          refine e_4 rfl rfl ?_
          refine e_gr rfl (p_0 hp) rfl (p_f8 hp) ?_
          refine e_2 rfl rfl ?_
          refine e_v2v rfl (by first | exact p_0 hp | exact (p_sh10 hp).1 | exact (p_sh4 hp).1) rfl (by decide) rfl (Nat.le_of_ble_eq_true rfl) (rt) ?_
          refine e_4 rfl rfl ?_
          refine e_gr rfl (p_0 hp) rfl (p_f5 hp) ?_
          refine e_v0 rfl (by first | exact p_0 hp | exact (p_sh10 hp).1 | exact (p_sh4 hp).1) rfl (by decide) rfl (Nat.le_of_ble_eq_true rfl) (ss_isSunk (by exact p_sh10 hp)) ?_
          refine e_31b rfl (fun h3 => ?_) (fun h3 => ?_)
          · refine e_8 rfl rfl rfl ?_
            refine e_42 rfl ?_
            have eb : bestF (ldF g N σ0) (i + 1) = bestF (ldF g N σ0) i := if_neg (fun z => z.1 (if_pos h3))
            have e1 : lsF (ldF g N σ0) (i + 1) = lsF (ldF g N σ0) i := by unfold lsF; rw [eb]
            have e2 : fnF (ldF g N σ0) (i + 1) = fnF (ldF g N σ0) i := by unfold fnF; rw [eb]
            refine e_lv [0, 1, 2, 3, 4, 5, 6] rfl rfl ?_
            rw [nI_1]
            rw [e1, e2] at y1
            exact y1
          · refine e_2 rfl rfl ?_
            refine e_0 rfl ?_
            refine e_36 rfl (fun h4 => ?_) (fun h4 => ?_)
            · refine e_4 rfl rfl ?_
              refine e_gr rfl (p_0 hp) rfl (p_f5 hp) ?_
              refine s_gi (p_sh10 hp) rfl rfl (by decide) (by decide) ?_
              refine e_5 rfl rfl ?_
              refine e_2 rfl rfl ?_
              refine e_5 rfl rfl ?_
              refine e_8 rfl rfl rfl ?_
              refine e_42 rfl ?_
              have eb : bestF (ldF g N σ0) (i + 1) = (nI i, (ldF g N σ0 i).2 0) := if_pos ⟨(ld_ne h3), Or.inl (ls9 hkp h4)⟩
              have e1 : lsF (ldF g N σ0) (i + 1) = (ldF g N σ0 i).2 0 := by unfold lsF; rw [eb, if_neg (show ¬ (nI i, (ldF g N σ0 i).2 0).1 = -9 from nI_n9 (by omega))]
              have e2 : fnF (ldF g N σ0) (i + 1) = i := by unfold fnF; rw [eb, if_neg (show ¬ (nI i, (ldF g N σ0 i).2 0).1 = -9 from nI_n9 (by omega))]; exact nI_clamp (by omega)
              refine e_lv [0, 1, 2, 3, 4, 5, 6] rfl rfl ?_
              rw [nI_1]
              rw [e1, e2] at y1
              exact y1
            · refine e_4 rfl rfl ?_
              refine e_gr rfl (p_0 hp) rfl (p_f5 hp) ?_
              refine s_gi (p_sh10 hp) rfl rfl (by decide) (by decide) ?_
              refine e_2 rfl rfl ?_
              refine e_39 rfl (fun h5 => ?_) (fun h5 => ?_)
              · refine e_8 rfl rfl rfl ?_
                refine e_42 rfl ?_
                have eb : bestF (ldF g N σ0) (i + 1) = bestF (ldF g N σ0) i := if_neg (fun z => z.2.elim (fun q => h4 (ls9b q)) (fun q => q (by rw [← lsN h4]; exact h5)))
                have e1 : lsF (ldF g N σ0) (i + 1) = lsF (ldF g N σ0) i := by unfold lsF; rw [eb]
                have e2 : fnF (ldF g N σ0) (i + 1) = fnF (ldF g N σ0) i := by unfold fnF; rw [eb]
                refine e_lv [0, 1, 2, 3, 4, 5, 6] rfl rfl ?_
                rw [nI_1]
                rw [e1, e2] at y1
                exact y1
              · refine e_4 rfl rfl ?_
                refine e_gr rfl (p_0 hp) rfl (p_f5 hp) ?_
                refine s_gi (p_sh10 hp) rfl rfl (by decide) (by decide) ?_
                refine e_5 rfl rfl ?_
                refine e_2 rfl rfl ?_
                refine e_5 rfl rfl ?_
                refine e_8 rfl rfl rfl ?_
                refine e_42 rfl ?_
                have eb : bestF (ldF g N σ0) (i + 1) = (nI i, (ldF g N σ0 i).2 0) := if_pos ⟨(ld_ne h3), Or.inr (by rw [← lsN h4]; exact h5)⟩
                have e1 : lsF (ldF g N σ0) (i + 1) = (ldF g N σ0 i).2 0 := by unfold lsF; rw [eb, if_neg (show ¬ (nI i, (ldF g N σ0 i).2 0).1 = -9 from nI_n9 (by omega))]
                have e2 : fnF (ldF g N σ0) (i + 1) = i := by unfold fnF; rw [eb, if_neg (show ¬ (nI i, (ldF g N σ0 i).2 0).1 = -9 from nI_n9 (by omega))]; exact nI_clamp (by omega)
                refine e_lv [0, 1, 2, 3, 4, 5, 6] rfl rfl ?_
                rw [nI_1]
                rw [e1, e2] at y1
                exact y1
theorem kq_watch_bad (hp : isPs μ) {n r : Int32} (hb : ¬ ((¬ n < 1 ∧ ¬ 3 < n) ∧ rowP r)) : evI (ps_XX L xs) (d + 2) j_X7_watch [.ref 0, .int n, .int r] (μ) (-1, μ) := by
  refine ⟨Nat.le_of_ble_eq_true rfl, ?_⟩
  refine e_2 rfl rfl ?_
  refine e_0 rfl ?_
  refine e_38 rfl (fun h1 => ?_) (fun h1 => ?_)
  · refine e_0 rfl ?_
    exact e_ri rfl rfl (by rfl) (rfl)
  · refine e_2 rfl rfl ?_
    refine e_0 rfl ?_
    refine e_40 rfl (fun h2 => ?_) (fun h2 => ?_)
    · refine e_0 rfl ?_
      exact e_ri rfl rfl (by rfl) (rfl)
    · refine e_2 rfl rfl ?_
      refine e_s1 rfl rfl rfl (Nat.le_of_ble_eq_true rfl) (k_isRow _) ?_
      refine e_31b rfl (fun h3 => ?_) (fun h3 => ?_)
      · exact absurd ⟨⟨h1, h2⟩, h3⟩ hb
      · refine e_0 rfl ?_
        exact e_ri rfl rfl (by rfl) (rfl)
theorem kq_watch_no (hp : isPs μ) (e0 : shG (ps_i μ) 4 = σ0) {n r : Int32} (hb : (¬ n < 1 ∧ ¬ 3 < n) ∧ rowP r) (h0 : σ0 8 = 0) : evI (ps_XX L xs) (d + 2) j_X7_watch [.ref 0, .int n, .int r] (μ) (-4, μ) := by
  refine ⟨Nat.le_of_ble_eq_true rfl, ?_⟩
  refine e_2 rfl rfl ?_
  refine e_0 rfl ?_
  refine e_38 rfl (fun h1 => ?_) (fun h1 => ?_)
  · exact absurd h1 hb.1.1
  · refine e_2 rfl rfl ?_
    refine e_0 rfl ?_
    refine e_40 rfl (fun h2 => ?_) (fun h2 => ?_)
    · exact absurd h2 hb.1.2
    · refine e_2 rfl rfl ?_
      refine e_s1 rfl rfl rfl (Nat.le_of_ble_eq_true rfl) (k_isRow _) ?_
      refine e_31b rfl (fun h3 => ?_) (fun h3 => ?_)
      · refine e_4 rfl rfl ?_
        refine e_gr rfl (p_0 hp) rfl (p_f4 hp) ?_
        refine e_gi rfl (p_sh4 hp).1 rfl (by decide) ?_
        rw [show ps_i μ 4 8 = σ0 8 by rw [← e0]; rfl]
        refine e_31 rfl (fun h4 => ?_) (fun h4 => ?_)
        · exact absurd h0 h4
        · refine e_0 rfl ?_
          exact e_ri rfl rfl (by rfl) (rfl)
      · exact absurd hb.2 h3
theorem kq_watch_ok (hp : isPs μ) (e0 : shG (ps_i μ) 4 = σ0) (h0 : ¬ σ0 8 = 0) (hN : N ≤ 3) (hN0 : 0 < N) {k : Nat} (hk : k < 6) (hI : shI g σ0) (hkp : ∀ x, ¬ (ldF g N σ0 x).1 = 0 → ¬ (ldF g N σ0 x).2 0 < 0) (hb : (¬ nI N < 1 ∧ ¬ 3 < nI N) ∧ rowP (nI k)) : ∃ μ', evI (ps_XX L xs) (d + 7) j_X7_watch [.ref 0, .int (nI N), .int (nI k)] μ (lsF (ldF g N σ0) (10 ^ N), if lsF (ldF g N σ0) (10 ^ N) = -9 then μ' else TK μ' (45 + 2 * k) N (fun j => nI (dig N (fnF (ldF g N σ0) (10 ^ N)) j))) ∧ WEf μ μ' := by
  have hP : 10 ^ N ≤ 1000 := Nat.le_trans (Nat.pow_le_pow_right (by decide) hN) (by decide)
  have hfn : ∀ i, i ≤ 10 ^ N → fnF (ldF g N σ0) i < 2 ^ 31 := fun i _ => by
    unfold fnF
    split
    · omega
    · exact clamp_lt _
  obtain ⟨μ', y1, y2⟩ := k_watch_loop (L := L) (xs := xs) (d := d) (P := 10 ^ N) hN hN0 hk hP hI hkp hfn (10 ^ N) 0 μ (by omega) hp e0
  refine ⟨μ', ⟨Nat.le_of_ble_eq_true rfl, ?_⟩, y2⟩
  refine e_2 rfl rfl ?_
  refine e_0 rfl ?_
  refine e_38 rfl (fun h1 => ?_) (fun h1 => ?_)
  · exact absurd h1 hb.1.1
  · refine e_2 rfl rfl ?_
    refine e_0 rfl ?_
    refine e_40 rfl (fun h2 => ?_) (fun h2 => ?_)
    · exact absurd h2 hb.1.2
    · refine e_2 rfl rfl ?_
      refine e_s1 rfl rfl rfl (Nat.le_of_ble_eq_true rfl) (k_isRow _) ?_
      refine e_31b rfl (fun h3 => ?_) (fun h3 => ?_)
      · refine e_4 rfl rfl ?_
        refine e_gr rfl (p_0 hp) rfl (p_f4 hp) ?_
        refine e_gi rfl (p_sh4 hp).1 rfl (by decide) ?_
        rw [show ps_i μ 4 8 = σ0 8 by rw [← e0]; rfl]
        refine e_31 rfl (fun h4 => ?_) (fun h4 => ?_)
        · refine e_2 rfl rfl ?_
          refine e_s1 rfl rfl rfl (Nat.le_of_ble_eq_true rfl) (k_10 (by omega)) ?_
          refine e_5 rfl rfl ?_
          refine e_0 rfl ?_
          refine e_5 rfl rfl ?_
          refine e_0 rfl ?_
          refine e_5 rfl rfl ?_
          refine e_0 rfl ?_
          refine e_5 rfl rfl ?_
          exact y1
        · exact absurd h4 h0
      · exact absurd hb.2 h3
end KQ9
