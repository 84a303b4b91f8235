-- ===== the class: what was sounded =====
theorem alw_act {g : Nat} {σ : Nat → Int32} (hok : shOK g σ) {a : Int32} (ha : allowsF σ a) : actP a := by
  rcases ha with rfl | rfl | h | h | h
  · decide
  · decide
  · rw [h.1]; decide
  · rw [h.1]; decide
  · obtain ⟨x, hx, rfl⟩ := has_of hok.1 hok.2.1 h.1
    have := hok.1
    exact ⟨nI_pos' (by omega), nI_le (b := 9) (by omega) (by omega)⟩
theorem all_cond {g : Nat} {σ : Nat → Int32} (h : shOK g σ) {a : Int32} : (actP a ∧ ¬ σ 4 ≤ σ 5 ∧ allowsF σ a) ↔ (σ 5 < σ 4 ∧ allowsF σ a) := ⟨fun z => ⟨Int32.not_le.mp z.2.1, z.2.2⟩, fun z => ⟨alw_act h z.2, Int32.not_le.mpr z.1, z.2⟩⟩
theorem all_n {g : Nat} {p : Nat → Int32} {n i : Nat} {σ : Nat → Int32} (h : shOK g σ) (hn : ¬ (σ 5 < σ 4 ∧ allowsF σ (p i))) : allF g p (n + 1) i σ = (0, σ) := if_pos (fun z => hn ((all_cond h).mp z))
theorem all_y {g : Nat} {p : Nat → Int32} {n i : Nat} {σ : Nat → Int32} (h : shOK g σ) (h1 : σ 5 < σ 4) (h2 : allowsF σ (p i)) : allF g p (n + 1) i σ = allF g p n (i + 2) (passF g σ (p i)) := if_neg (Classical.not_not.mpr ((all_cond h).mpr ⟨h1, h2⟩))
section KQ4
variable {L : Nat} {xs : Nat → Int32} {d : Nat} {μ : ps_M} {σ0 τ : Nat → Int32} {g : Nat}
theorem k_fp_loop (hp : isPs μ) {k S : Nat} (hk : k < 6) (eS : ps_i μ (45 + 2 * k) 0 = nI (2 * S)) (hS : S ≤ 20) : ∀ (n i : Nat) (σ : Nat → Int32), i + n = S → shI g σ → ps_To (ps_XX L xs) (ps_Ev (ps_XX L xs) (d + 4)) j_X7_findingOfPairs (ps_rt j_X7_findingOfPairs (some (.int (if (allF g (ps_i μ (45 + 2 * k + 1)) n (2 * i) σ).1 = 0 then 3 else 0))) (SM μ 10 (allF g (ps_i μ (45 + 2 * k + 1)) n (2 * i) σ).2)) (33, [(2, .int (nI (2 * i))), (0, .ref (0)), (1, .ref (45 + 2 * k))], [], SM μ 10 σ) := by
  intro n
  induction n with
  | zero =>
    intro i σ hi hI
    obtain rfl : i = S := by omega
    skip
    refine e_2 rfl rfl ?_
    refine e_4 rfl rfl ?_
    refine e_gi rfl (p_ro hp hk).1 rfl (by decide) ?_
    rw [SM_off (by omega), eS]
    refine e_39 rfl (fun h1 => ?_) (fun h1 => ?_)
    · refine e_0 rfl ?_
      exact e_ri rfl rfl (by first | rfl | (rw [all_n hI.1 (fun z => h2 z.1)]; rfl) | (rw [all_n hI.1 (fun z => h3 z.2)]; rfl)) (by first | rfl | (rw [all_n hI.1 (fun z => h2 z.1)]) | (rw [all_n hI.1 (fun z => h3 z.2)]))
    · exact absurd (nI_le (Nat.le_refl _) (by omega)) h1
  | succ n ih =>
    intro i σ hi hI
    refine e_2 rfl rfl ?_
    refine e_4 rfl rfl ?_
    refine e_gi rfl (p_ro hp hk).1 rfl (by decide) ?_
    rw [SM_off (by omega), eS]
    refine e_39 rfl (fun h1 => ?_) (fun h1 => ?_)
    · exact absurd h1 (nI_ge (by omega) (by omega))
    · refine e_4 rfl rfl ?_
      refine e_gr rfl (p_ro hp hk).1 rfl (p_ro hp hk).2.2 ?_
      refine e_2 rfl rfl ?_
      refine e_48q (i := (2 * i)) rfl (p_ro hp hk).2.1 (by first | rfl | (simp only [← nI_add, ← pk_mul]; rfl) | (simp only [nI_add, pk_mul, nI_1]; done)) (by omega) (by decide) ?_
      rw [SM_off (by omega)]
      refine e_5 rfl rfl ?_
      refine e_4 rfl rfl ?_
      refine e_gr rfl (p_0 hp) rfl (p_f5 hp) ?_
      refine e_v0 rfl (by first | exact p_0 hp | exact (p_ro hp (by omega)).1 | exact (p_sh10 hp).1 | exact (p_sh4 hp).1) rfl (by decide) rfl (Nat.le_of_ble_eq_true rfl) (ss_isTimeUp (p_sh10 hp)) ?_
      refine e_31b rfl (fun h2 => ?_) (fun h2 => ?_)
      · refine e_0 rfl ?_
        exact e_ri rfl rfl (by first | rfl | (rw [all_n hI.1 (fun z => h2 z.1)]; rfl) | (rw [all_n hI.1 (fun z => h3 z.2)]; rfl)) (by first | rfl | (rw [all_n hI.1 (fun z => h2 z.1)]) | (rw [all_n hI.1 (fun z => h3 z.2)]))
      · refine e_4 rfl rfl ?_
        refine e_gr rfl (p_0 hp) rfl (p_f5 hp) ?_
        refine e_2 rfl rfl ?_
        refine e_v1 rfl (by first | exact p_0 hp | exact (p_ro hp (by omega)).1 | exact (p_sh10 hp).1 | exact (p_sh4 hp).1) rfl (by decide) rfl (Nat.le_of_ble_eq_true rfl) (ss_allows (p_sh10 hp) _) ?_
        refine e_31b rfl (fun h3 => ?_) (fun h3 => ?_)
        · refine e_4 rfl rfl ?_
          refine e_gr rfl (p_0 hp) rfl (p_f5 hp) ?_
          refine e_2 rfl rfl ?_
          refine e_v1v rfl (by first | exact p_0 hp | exact (p_ro hp (by omega)).1 | exact (p_sh10 hp).1 | exact (p_sh4 hp).1) rfl (by decide) rfl (Nat.le_of_ble_eq_true rfl) (ss_pass (p_sh10 hp) hI.1.1 hI.1.2.1 _) ?_
          refine e_8 rfl rfl rfl ?_
          refine e_42 rfl ?_
          refine e_lv [0, 2, 3] rfl rfl ?_
          show ps_To _ _ _ _ (33, [(2, .int _), (0, .ref _), (1, .ref _)], [], _)
          rw [show nI (2 * i) + 2 = nI (2 * (i + 1)) from nI_add (2 * i) 2]
          have hlt := Classical.not_not.mp h2
          have h := ih (i + 1) _ (by omega) (shI_pass hI h3 hlt)
          rw [all_y hI.1 hlt h3]
          exact h
        · refine e_0 rfl ?_
          exact e_ri rfl rfl (by first | rfl | (rw [all_n hI.1 (fun z => h2 z.1)]; rfl) | (rw [all_n hI.1 (fun z => h3 z.2)]; rfl)) (by first | rfl | (rw [all_n hI.1 (fun z => h2 z.1)]) | (rw [all_n hI.1 (fun z => h3 z.2)]))
theorem k_fp_no (hp : isPs μ) (e0 : shG (ps_i μ) 4 = σ0) (hI : shI g σ0) {k : Nat} (hk : k < 6) (h : ¬ 0 ≤ ps_i μ (45 + 2 * k) 0) : evI (ps_XX L xs) (d + 5) j_X7_findingOfPairs [.ref 0, .ref (45 + 2 * k)] (SM μ 10 τ) (1, SM μ 10 τ) := by
  refine ⟨Nat.le_of_ble_eq_true rfl, ?_⟩
  have hg := hI.1.1
  have h8 := hI.1.2.1
  have h7 := hI.2.2.1
  have e8 : ps_i μ 4 8 = σ0 8 := by rw [← e0]; rfl
  refine e_4 rfl rfl ?_
  refine e_v0 rfl (by first | exact p_0 hp | exact (p_ro hp (by omega)).1 | exact (p_sh10 hp).1 | exact (p_sh4 hp).1) rfl (by decide) rfl (Nat.le_of_ble_eq_true rfl) (k10_missing hp hk) ?_
  refine e_30b rfl (fun h1 => ?_) (fun h1 => ?_)
  · exact absurd h h1
  · refine e_0 rfl ?_
    exact e_ri rfl rfl (by rfl) (rfl)
theorem k_fp_odd (hp : isPs μ) (e0 : shG (ps_i μ) 4 = σ0) (hI : shI g σ0) {k : Nat} (hk : k < 6) {N : Nat} (eN : ps_i μ (45 + 2 * k) 0 = nI N) (hN : N ≤ 40) (ho : ¬ N % 2 = 0) : evI (ps_XX L xs) (d + 5) j_X7_findingOfPairs [.ref 0, .ref (45 + 2 * k)] (SM μ 10 τ) (5, SM μ 10 τ) := by
  refine ⟨Nat.le_of_ble_eq_true rfl, ?_⟩
  have hg := hI.1.1
  have h8 := hI.1.2.1
  have h7 := hI.2.2.1
  have e8 : ps_i μ 4 8 = σ0 8 := by rw [← e0]; rfl
  refine e_4 rfl rfl ?_
  refine e_v0 rfl (by first | exact p_0 hp | exact (p_ro hp (by omega)).1 | exact (p_sh10 hp).1 | exact (p_sh4 hp).1) rfl (by decide) rfl (Nat.le_of_ble_eq_true rfl) (k10_missing hp hk) ?_
  refine e_30b rfl (fun h1 => ?_) (fun h1 => ?_)
  · refine e_4 rfl rfl ?_
    refine e_gi rfl (p_ro hp hk).1 rfl (by decide) ?_
    rw [SM_off (by omega)]
    rw [eN]
    refine e_0 rfl ?_
    refine e_18 rfl (by first | decide | assumption) ?_
    rw [show (2 : Int32) = nI 2 from rfl, pk_rem (by omega) (by omega) (by omega)]
    refine e_30 rfl (fun h2 => ?_) (fun h2 => ?_)
    · exact absurd ((nI_eq (b := 0) (by omega) (by omega)).mp h2) ho
    · refine e_0 rfl ?_
      exact e_ri rfl rfl (by rfl) (rfl)
  · exact absurd (by rw [eN]; exact nI_pos' (by omega)) h1
theorem k_fp_pairs (hp : isPs μ) (e0 : shG (ps_i μ) 4 = σ0) (hI : shI g σ0) {k : Nat} (hk : k < 6) {S : Nat} (eS : ps_i μ (45 + 2 * k) 0 = nI (2 * S)) (hS : S ≤ 20) : evI (ps_XX L xs) (d + 5) j_X7_findingOfPairs [.ref 0, .ref (45 + 2 * k)] (SM μ 10 τ) (if (allF g (ps_i μ (45 + 2 * k + 1)) S 0 σ0).1 = 0 then 3 else 0, SM μ 10 (allF g (ps_i μ (45 + 2 * k + 1)) S 0 σ0).2) := by
  refine ⟨Nat.le_of_ble_eq_true rfl, ?_⟩
  have hg := hI.1.1
  have h8 := hI.1.2.1
  have h7 := hI.2.2.1
  have e8 : ps_i μ 4 8 = σ0 8 := by rw [← e0]; rfl
  refine e_4 rfl rfl ?_
  refine e_v0 rfl (by first | exact p_0 hp | exact (p_ro hp (by omega)).1 | exact (p_sh10 hp).1 | exact (p_sh4 hp).1) rfl (by decide) rfl (Nat.le_of_ble_eq_true rfl) (k10_missing hp hk) ?_
  refine e_30b rfl (fun h1 => ?_) (fun h1 => ?_)
  · refine e_4 rfl rfl ?_
    refine e_gi rfl (p_ro hp hk).1 rfl (by decide) ?_
    rw [SM_off (by omega)]
    rw [eS]
    refine e_0 rfl ?_
    refine e_18 rfl (by first | decide | assumption) ?_
    rw [show (2 : Int32) = nI 2 from rfl, pk_rem (by omega) (by omega) (by omega)]
    refine e_30 rfl (fun h2 => ?_) (fun h2 => ?_)
    · refine e_4 rfl rfl ?_
      refine e_gr rfl (p_0 hp) rfl (p_f5 hp) ?_
      refine e_4 rfl rfl ?_
      refine e_gr rfl (p_0 hp) rfl (p_f4 hp) ?_
      refine e_v1v rfl (by first | exact p_0 hp | exact (p_ro hp (by omega)).1 | exact (p_sh10 hp).1 | exact (p_sh4 hp).1) rfl (by decide) rfl (Nat.le_of_ble_eq_true rfl) (k10_follow hp e0 h7) ?_
      refine e_0 rfl ?_
      refine e_5 rfl rfl ?_
      refine e_lv [0, 1, 2] rfl rfl ?_
      exact k_fp_loop (L := L) (xs := xs) (d := d) hp hk eS hS S 0 σ0 (by omega) hI
    · exact absurd (by rw [Nat.mul_mod_right]; rfl) h2
  · exact absurd (by rw [eS]; exact nI_pos' (by omega)) h1
theorem k_isSoIf (hp : isPs μ) (e0 : shG (ps_i μ) 4 = σ0) (hI : shI g σ0) {k S : Nat} (hk : k < 6) (eS : ps_i μ (45 + 2 * k) 0 = nI (2 * S)) (hS : S ≤ 20) {x : Nat} (hx : x < 6) (kind : Int32) : ps_Ev (ps_XX L xs) (d + 6) j_X7_isSoIfOf [.ref 0, .int (nI x), .int kind, .ref (45 + 2 * k)] (SM μ 10 τ) (some (.int (soF g (ps_i μ (45 + 2 * k + 1)) S 0 (upd σ0 (9 + x) kind)).1)) (SM μ 10 (soF g (ps_i μ (45 + 2 * k + 1)) S 0 (upd σ0 (9 + x) kind)).2) := by
  refine ⟨Nat.le_of_ble_eq_true rfl, ?_⟩
  have hg := hI.1.1
  have h8 := hI.1.2.1
  have h7 := hI.2.2.1
  have e8 : ps_i μ 4 8 = σ0 8 := by rw [← e0]; rfl
  refine e_4 rfl rfl ?_
  refine e_gr rfl (p_0 hp) rfl (p_f5 hp) ?_
  refine e_4 rfl rfl ?_
  refine e_gr rfl (p_0 hp) rfl (p_f4 hp) ?_
  refine e_v1v rfl (by first | exact p_0 hp | exact (p_ro hp (by omega)).1 | exact (p_sh10 hp).1 | exact (p_sh4 hp).1) rfl (by decide) rfl (Nat.le_of_ble_eq_true rfl) (k10_follow hp e0 h7) ?_
  refine e_4 rfl rfl ?_
  refine e_gr rfl (p_0 hp) rfl (p_f5 hp) ?_
  refine s_g9 (p_sh10 hp) rfl rfl ?_
  refine e_2 rfl rfl ?_
  refine e_2 rfl rfl ?_
  refine s_p1q (i := x) (by exact (p_sh10 hp)) (by first | rfl | (simp only [← nI_add, ← pk_mul]; rfl) | (simp only [nI_add, pk_mul, nI_1]; done)) (by omega) rfl ?_
  refine e_4 rfl rfl ?_
  refine e_gr rfl (p_0 hp) rfl (p_f5 hp) ?_
  refine e_4 rfl rfl ?_
  refine e_v1 rfl (by first | exact p_0 hp | exact (p_ro hp (by omega)).1 | exact (p_sh10 hp).1 | exact (p_sh4 hp).1) rfl (by decide) rfl (Nat.le_of_ble_eq_true rfl) (ss_so (p_sh10 hp) hg ((pk_un (by omega)).trans h8) (p_ro hp hk) (by omega) eS hS) ?_
  exact e_rz rfl rfl (so_01 _ _ _) (by rfl) (rfl)
theorem k_feigns_loop (hp : isPs μ) (e0 : shG (ps_i μ) 4 = σ0) (hI : shI g σ0) {k S : Nat} (hk : k < 6) (eS : ps_i μ (45 + 2 * k) 0 = nI (2 * S)) (hS : S ≤ 20) (c : Int32) : ∀ (n i : Nat), i + n = g → ps_To (ps_XX L xs) (ps_Ev (ps_XX L xs) (d + 6)) j_X7_feigns (ps_rt j_X7_feigns (some (.int (bitsN (fun y => (sasF g (ps_i μ (45 + 2 * k + 1)) S σ0 y 3).1 = 1) g))) (ps_sI (SM μ 10 (soF g (ps_i μ (45 + 2 * k + 1)) S 0 σ0).2) 0 11 (soF g (ps_i μ (45 + 2 * k + 1)) S 0 σ0).1)) (48, [(4, .int (nI i)), (3, .int (bitsN (fun y => (sasF g (ps_i μ (45 + 2 * k + 1)) S σ0 y 3).1 = 1) i)), (0, .ref (0)), (1, .int (nI k))], [], SM μ 10 (lastS (fun y => (soF g (ps_i μ (45 + 2 * k + 1)) S 0 (upd σ0 (9 + y) 3)).2) τ i)) := by
  intro n
  induction n with
  | zero =>
    intro i hi
    have hg := hI.1.1
    have h8 := hI.1.2.1
    have h7 := hI.2.2.1
    have e8 : ps_i μ 4 8 = σ0 8 := by rw [← e0]; rfl
    refine e_2 rfl rfl ?_
    refine e_4 rfl rfl ?_
    refine e_gr rfl (p_0 hp) rfl (p_f4 hp) ?_
    refine e_gi rfl (p_sh4 hp).1 rfl (by decide) ?_
    rw [SM_off (by omega), e8]
    rw [h8]
    refine e_39 rfl (fun h1 => ?_) (fun h1 => ?_)
    · refine e_4 rfl rfl ?_
      refine e_gr rfl (p_0 hp) rfl (p_f5 hp) ?_
      refine e_4 rfl rfl ?_
      refine e_gr rfl (p_0 hp) rfl (p_f4 hp) ?_
      refine e_v1v rfl (by first | exact p_0 hp | exact (p_ro hp (by omega)).1 | exact (p_sh10 hp).1 | exact (p_sh4 hp).1) rfl (by decide) rfl (Nat.le_of_ble_eq_true rfl) (k10_follow hp e0 h7) ?_
      refine e_4 rfl rfl ?_
      refine e_4 rfl rfl ?_
      refine e_gr rfl (p_0 hp) rfl (p_f5 hp) ?_
      refine e_4 rfl rfl ?_
      refine e_gr rfl (p_0 hp) rfl (p_f0 hp) ?_
      refine e_2 rfl rfl ?_
      refine e_gaq (i := k) rfl (p_1 hp) (by decide) (by decide) (by first | rfl | (simp only [← nI_add, ← pk_mul]; rfl) | (simp only [nI_add, pk_mul, nI_1]; done)) (by omega) (by decide) (p_r1 hp (by omega)) ?_
      refine e_v1 rfl (by first | exact p_0 hp | exact (p_ro hp (by omega)).1 | exact (p_sh10 hp).1 | exact (p_sh4 hp).1) rfl (by decide) rfl (Nat.le_of_ble_eq_true rfl) (ss_so (p_sh10 hp) hg h8 (p_ro hp hk) (by omega) eS hS) ?_
      refine e_30 rfl (fun h2 => ?_) (fun h2 => ?_)
      · refine e_0 rfl ?_
        refine e_pi rfl (p_0 hp) rfl (Or.inl rfl) ?_
        refine e_2 rfl rfl ?_
        exact e_ri rfl rfl (by rw [show i = g by omega]) (by first | (rw [h2]; done) | (rw [ne0_1 (so_01 _ _ _) h2]; done))
      · refine e_0 rfl ?_
        refine e_42 rfl ?_
        refine e_pi rfl (p_0 hp) rfl (Or.inl rfl) ?_
        refine e_2 rfl rfl ?_
        exact e_ri rfl rfl (by rw [show i = g by omega]) (by first | (rw [h2]; done) | (rw [ne0_1 (so_01 _ _ _) h2]; done))
    · exact absurd (nI_le (by omega) (by omega)) h1
  | succ n ih =>
    intro i hi
    have hg := hI.1.1
    have h8 := hI.1.2.1
    have h7 := hI.2.2.1
    have e8 : ps_i μ 4 8 = σ0 8 := by rw [← e0]; rfl
    refine e_2 rfl rfl ?_
    refine e_4 rfl rfl ?_
    refine e_gr rfl (p_0 hp) rfl (p_f4 hp) ?_
    refine e_gi rfl (p_sh4 hp).1 rfl (by decide) ?_
    rw [SM_off (by omega), e8]
    rw [h8]
    refine e_39 rfl (fun h1 => ?_) (fun h1 => ?_)
    · exact absurd h1 (nI_ge (by omega) (by omega))
    · refine e_4 rfl rfl ?_
      refine e_2 rfl rfl ?_
      refine e_0 rfl ?_
      refine e_4 rfl rfl ?_
      refine e_gr rfl (p_0 hp) rfl (p_f0 hp) ?_
      refine e_2 rfl rfl ?_
      refine e_gaq (i := k) rfl (p_1 hp) (by decide) (by decide) (by first | rfl | (simp only [← nI_add, ← pk_mul]; rfl) | (simp only [nI_add, pk_mul, nI_1]; done)) (by omega) (by decide) (p_r1 hp (by omega)) ?_
      refine e_v3 rfl (by first | exact p_0 hp | exact (p_ro hp (by omega)).1 | exact (p_sh10 hp).1 | exact (p_sh4 hp).1) rfl (by decide) rfl (Nat.le_of_ble_eq_true rfl) (k_isSoIf hp e0 hI hk eS hS (by omega) 3) ?_
      refine e_30 rfl (fun h2 => ?_) (fun h2 => ?_)
      · refine e_8 rfl rfl rfl ?_
        refine e_42 rfl ?_
        refine e_lv [0, 1, 2, 3] rfl rfl ?_
        show ps_To _ _ _ _ (48, [(4, .int _), (3, .int _), (0, .ref _), (1, .int _)], [], _)
        have h := ih (i + 1) (by omega)
        rw [show bitsN (fun y => (sasF g (ps_i μ (45 + 2 * k + 1)) S σ0 y 3).1 = 1) (i + 1) = bitsN (fun y => (sasF g (ps_i μ (45 + 2 * k + 1)) S σ0 y 3).1 = 1) i from if_neg (fun z => absurd (z.symm.trans h2) (by decide))] at h
        rw [nI_1]
        exact h
      · refine e_2 rfl rfl ?_
        refine e_0 rfl ?_
        refine e_2 rfl rfl ?_
        refine e_14 rfl ?_
        refine e_13 rfl ?_
        refine e_5 rfl rfl ?_
        refine e_8 rfl rfl rfl ?_
        refine e_42 rfl ?_
        refine e_lv [0, 1, 2, 3] rfl rfl ?_
        show ps_To _ _ _ _ (48, [(4, .int _), (3, .int _), (0, .ref _), (1, .int _)], [], _)
        have h := ih (i + 1) (by omega)
        rw [show bitsN (fun y => (sasF g (ps_i μ (45 + 2 * k + 1)) S σ0 y 3).1 = 1) (i + 1) = bitsN (fun y => (sasF g (ps_i μ (45 + 2 * k + 1)) S σ0 y 3).1 = 1) i ||| ((1 : Int32) <<< (nI i &&& 31)) from if_pos (ne0_1 (so_01 _ _ _) h2)] at h
        rw [nI_1]
        exact h
theorem k_kinds_loop (hp : isPs μ) (e0 : shG (ps_i μ) 4 = σ0) (hI : shI g σ0) {k S : Nat} (hk : k < 6) (eS : ps_i μ (45 + 2 * k) 0 = nI (2 * S)) (hS : S ≤ 20) {x : Nat} (hx : x < g) : ∀ (n i : Nat), i + n = 6 → ps_To (ps_XX L xs) (ps_Ev (ps_XX L xs) (d + 6)) j_X7_kinds (ps_rt j_X7_kinds (some (.int (bitsN (fun y => (sasF g (ps_i μ (45 + 2 * k + 1)) S σ0 x (nI y)).1 = 1) 6))) (SM μ 10 (lastS (fun y => (soF g (ps_i μ (45 + 2 * k + 1)) S 0 (upd σ0 (9 + x) (nI y))).2) τ 6))) (47, [(5, .int (nI i)), (4, .int (bitsN (fun y => (sasF g (ps_i μ (45 + 2 * k + 1)) S σ0 x (nI y)).1 = 1) i)), (0, .ref (0)), (1, .int (nI x)), (2, .int (nI k))], [], SM μ 10 (lastS (fun y => (soF g (ps_i μ (45 + 2 * k + 1)) S 0 (upd σ0 (9 + x) (nI y))).2) τ i)) := by
  intro n
  induction n with
  | zero =>
    intro i hi
    obtain rfl : i = 6 := by omega
    skip
    refine e_2 rfl rfl ?_
    refine e_0 rfl ?_
    refine e_39 rfl (fun h1 => ?_) (fun h1 => ?_)
    · refine e_2 rfl rfl ?_
      exact e_ri rfl rfl (by rfl) (rfl)
    · exact absurd (show nI 6 ≤ nI 6 from nI_le (Nat.le_refl _) (by omega)) h1
  | succ n ih =>
    intro i hi
    have hg := hI.1.1
    have h8 := hI.1.2.1
    have h7 := hI.2.2.1
    have e8 : ps_i μ 4 8 = σ0 8 := by rw [← e0]; rfl
    refine e_2 rfl rfl ?_
    refine e_0 rfl ?_
    refine e_39 rfl (fun h1 => ?_) (fun h1 => ?_)
    · exact absurd (show nI 6 ≤ nI i from h1) (nI_ge (by omega) (by omega))
    · refine e_4 rfl rfl ?_
      refine e_2 rfl rfl ?_
      refine e_2 rfl rfl ?_
      refine e_4 rfl rfl ?_
      refine e_gr rfl (p_0 hp) rfl (p_f0 hp) ?_
      refine e_2 rfl rfl ?_
      refine e_gaq (i := k) rfl (p_1 hp) (by decide) (by decide) (by first | rfl | (simp only [← nI_add, ← pk_mul]; rfl) | (simp only [nI_add, pk_mul, nI_1]; done)) (by omega) (by decide) (p_r1 hp (by omega)) ?_
      refine e_v3 rfl (by first | exact p_0 hp | exact (p_ro hp (by omega)).1 | exact (p_sh10 hp).1 | exact (p_sh4 hp).1) rfl (by decide) rfl (Nat.le_of_ble_eq_true rfl) (k_isSoIf hp e0 hI hk eS hS (by omega) (nI i)) ?_
      refine e_30 rfl (fun h2 => ?_) (fun h2 => ?_)
      · refine e_8 rfl rfl rfl ?_
        refine e_42 rfl ?_
        refine e_lv [0, 1, 2, 3, 4] rfl rfl ?_
        show ps_To _ _ _ _ (47, [(5, .int _), (4, .int _), (0, .ref _), (1, .int _), (2, .int _)], [], _)
        have h := ih (i + 1) (by omega)
        rw [show bitsN (fun y => (sasF g (ps_i μ (45 + 2 * k + 1)) S σ0 x (nI y)).1 = 1) (i + 1) = bitsN (fun y => (sasF g (ps_i μ (45 + 2 * k + 1)) S σ0 x (nI y)).1 = 1) i from if_neg (fun z => absurd (z.symm.trans h2) (by decide))] at h
        rw [nI_1]
        exact h
      · refine e_2 rfl rfl ?_
        refine e_0 rfl ?_
        refine e_2 rfl rfl ?_
        refine e_14 rfl ?_
        refine e_13 rfl ?_
        refine e_5 rfl rfl ?_
        refine e_8 rfl rfl rfl ?_
        refine e_42 rfl ?_
        refine e_lv [0, 1, 2, 3, 4] rfl rfl ?_
        show ps_To _ _ _ _ (47, [(5, .int _), (4, .int _), (0, .ref _), (1, .int _), (2, .int _)], [], _)
        have h := ih (i + 1) (by omega)
        rw [show bitsN (fun y => (sasF g (ps_i μ (45 + 2 * k + 1)) S σ0 x (nI y)).1 = 1) (i + 1) = bitsN (fun y => (sasF g (ps_i μ (45 + 2 * k + 1)) S σ0 x (nI y)).1 = 1) i ||| ((1 : Int32) <<< (nI i &&& 31)) from if_pos (ne0_1 (so_01 _ _ _) h2)] at h
        rw [nI_1]
        exact h
theorem k_leaks_loop (hp : isPs μ) (e0 : shG (ps_i μ) 4 = σ0) (hI : shI g σ0) {k S : Nat} (hk : k < 6) (eS : ps_i μ (45 + 2 * k) 0 = nI (2 * S)) (hS : S ≤ 20) : ∀ (n i : Nat), i + n = 9 → ps_To (ps_XX L xs) (ps_Ev (ps_XX L xs) (d + 5)) j_X7_leaks (ps_rt j_X7_leaks (some (.int (bits1 (fun y => (lkF g (ps_i μ (45 + 2 * k + 1)) S σ0 y).1 = 1) 9))) (SM μ 10 (lastS (fun y => (lkF g (ps_i μ (45 + 2 * k + 1)) S σ0 (y + 1)).2) τ 9))) (48, [(4, .int (nI (i + 1))), (3, .int (bits1 (fun y => (lkF g (ps_i μ (45 + 2 * k + 1)) S σ0 y).1 = 1) i)), (0, .ref (0)), (1, .int (nI k))], [], SM μ 10 (lastS (fun y => (lkF g (ps_i μ (45 + 2 * k + 1)) S σ0 (y + 1)).2) τ i)) := by
  intro n
  induction n with
  | zero =>
    intro i hi
    obtain rfl : i = 9 := by omega
    skip
    refine e_2 rfl rfl ?_
    refine e_0 rfl ?_
    refine e_40 rfl (fun h1 => ?_) (fun h1 => ?_)
    · refine e_2 rfl rfl ?_
      exact e_ri rfl rfl (by rfl) (rfl)
    · exact absurd (show nI 9 < nI 10 from nI_lt (by omega) (by omega)) h1
  | succ n ih =>
    intro i hi
    have hg := hI.1.1
    have h8 := hI.1.2.1
    have h7 := hI.2.2.1
    have e8 : ps_i μ 4 8 = σ0 8 := by rw [← e0]; rfl
    refine e_2 rfl rfl ?_
    refine e_0 rfl ?_
    refine e_40 rfl (fun h1 => ?_) (fun h1 => ?_)
    · exact absurd (show nI 9 < nI (i + 1) from h1) (nI_nlt (by omega) (by omega))
    · refine e_4 rfl rfl ?_
      refine e_gr rfl (p_0 hp) rfl (p_f5 hp) ?_
      refine e_4 rfl rfl ?_
      refine e_gr rfl (p_0 hp) rfl (p_f4 hp) ?_
      refine e_v1v rfl (by first | exact p_0 hp | exact (p_ro hp (by omega)).1 | exact (p_sh10 hp).1 | exact (p_sh4 hp).1) rfl (by decide) rfl (Nat.le_of_ble_eq_true rfl) (k10_follow hp e0 h7) ?_
      refine e_4 rfl rfl ?_
      refine e_gr rfl (p_0 hp) rfl (p_f5 hp) ?_
      refine e_2 rfl rfl ?_
      refine s_pi (p_sh10 hp) rfl rfl (Or.inl rfl) (by decide) ?_
      refine e_4 rfl rfl ?_
      refine e_gr rfl (p_0 hp) rfl (p_f5 hp) ?_
      refine e_4 rfl rfl ?_
      refine e_gr rfl (p_0 hp) rfl (p_f0 hp) ?_
      refine e_2 rfl rfl ?_
      refine e_gaq (i := k) rfl (p_1 hp) (by decide) (by decide) (by first | rfl | (simp only [← nI_add, ← pk_mul]; rfl) | (simp only [nI_add, pk_mul, nI_1]; done)) (by omega) (by decide) (p_r1 hp (by omega)) ?_
      refine e_v1 rfl (by first | exact p_0 hp | exact (p_ro hp (by omega)).1 | exact (p_sh10 hp).1 | exact (p_sh4 hp).1) rfl (by decide) rfl (Nat.le_of_ble_eq_true rfl) (ss_so (p_sh10 hp) hg ((pk_un (by omega)).trans h8) (p_ro hp hk) (by omega) eS hS) ?_
      refine e_30 rfl (fun h2 => ?_) (fun h2 => ?_)
      · refine e_8 rfl rfl rfl ?_
        refine e_42 rfl ?_
        refine e_lv [0, 1, 2, 3] rfl rfl ?_
        show ps_To _ _ _ _ (48, [(4, .int _), (3, .int _), (0, .ref _), (1, .int _)], [], _)
        have h := ih (i + 1) (by omega)
        rw [show bits1 (fun y => (lkF g (ps_i μ (45 + 2 * k + 1)) S σ0 y).1 = 1) (i + 1) = bits1 (fun y => (lkF g (ps_i μ (45 + 2 * k + 1)) S σ0 y).1 = 1) i from if_neg (fun z => absurd (z.symm.trans h2) (by decide))] at h
        rw [nI_1]
        exact h
      · refine e_2 rfl rfl ?_
        refine e_0 rfl ?_
        refine e_2 rfl rfl ?_
        refine e_14 rfl ?_
        refine e_13 rfl ?_
        refine e_5 rfl rfl ?_
        refine e_8 rfl rfl rfl ?_
        refine e_42 rfl ?_
        refine e_lv [0, 1, 2, 3] rfl rfl ?_
        show ps_To _ _ _ _ (48, [(4, .int _), (3, .int _), (0, .ref _), (1, .int _)], [], _)
        have h := ih (i + 1) (by omega)
        rw [show bits1 (fun y => (lkF g (ps_i μ (45 + 2 * k + 1)) S σ0 y).1 = 1) (i + 1) = bits1 (fun y => (lkF g (ps_i μ (45 + 2 * k + 1)) S σ0 y).1 = 1) i ||| ((1 : Int32) <<< (nI (i + 1) &&& 31)) from if_pos (ne0_1 (so_01 _ _ _) h2)] at h
        rw [nI_1]
        exact h
theorem kq_feigns (hp : isPs μ) (e0 : shG (ps_i μ) 4 = σ0) (hI : shI g σ0) {r : Int32} {k : Nat} (hr : rowP r → r = nI k ∧ k < 6) {N : Nat} (hN : 0 ≤ ps_i μ (45 + 2 * k) 0 → ps_i μ (45 + 2 * k) 0 = nI N ∧ N ≤ 40) : evI (ps_XX L xs) (d + 8) j_X7_feigns [.ref 0, .int r] (SM μ 10 τ) (if ¬ rowP r then (-1, SM μ 10 τ) else if σ0 8 = 0 then (-4, SM μ 10 τ) else if ¬ 0 ≤ ps_i μ (45 + 2 * k) 0 then (-3, FC (SM μ 10 τ) 1) else if ¬ N % 2 = 0 then (-3, FC (SM μ 10 τ) 5) else if (allF g (ps_i μ (45 + 2 * k + 1)) (N / 2) 0 σ0).1 = 0 then (-3, FC (SM μ 10 (allF g (ps_i μ (45 + 2 * k + 1)) (N / 2) 0 σ0).2) 3) else (bitsN (fun y => (sasF g (ps_i μ (45 + 2 * k + 1)) (N / 2) σ0 y 3).1 = 1) g, ps_sI (SM μ 10 (soF g (ps_i μ (45 + 2 * k + 1)) (N / 2) 0 σ0).2) 0 11 (soF g (ps_i μ (45 + 2 * k + 1)) (N / 2) 0 σ0).1)) := by
  have hg := hI.1.1
  have h8 := hI.1.2.1
  have h7 := hI.2.2.1
  have e8 : ps_i μ 4 8 = σ0 8 := by rw [← e0]; rfl
  by_cases hz : 0 ≤ ps_i μ (45 + 2 * k) 0
  · obtain ⟨eN, hN40⟩ := hN hz
    by_cases ho : N % 2 = 0
    · obtain ⟨S, rfl⟩ : ∃ S, N = 2 * S := ⟨N / 2, by omega⟩
      rw [Nat.mul_div_cancel_left S (by decide)]
      by_cases ha : (allF g (ps_i μ (45 + 2 * k + 1)) S 0 σ0).1 = 0
      · have hS20 : S ≤ 20 := by omega
        refine ⟨Nat.le_of_ble_eq_true rfl, ?_⟩
        refine e_2 rfl rfl ?_
        refine e_s1 rfl rfl rfl (Nat.le_of_ble_eq_true rfl) (k_isRow _) ?_
        refine e_31b rfl (fun h1 => ?_) (fun h1 => ?_)
        · obtain ⟨rfl, hk⟩ := hr h1
          refine e_4 rfl rfl ?_
          refine e_gr rfl (p_0 hp) rfl (p_f4 hp) ?_
          refine e_gi rfl (p_sh4 hp).1 rfl (by decide) ?_
          rw [SM_off (by omega), e8]
          refine e_31 rfl (fun h2 => ?_) (fun h2 => ?_)
          · refine e_4 rfl rfl ?_
            refine e_4 rfl rfl ?_
            refine e_gr rfl (p_0 hp) rfl (p_f0 hp) ?_
            refine e_2 rfl rfl ?_
            refine e_gaq (i := k) rfl (p_1 hp) (by decide) (by decide) (by first | rfl | (simp only [← nI_add, ← pk_mul]; rfl) | (simp only [nI_add, pk_mul, nI_1]; done)) (by omega) (by decide) (p_r1 hp (by omega)) ?_
            refine e_v1 rfl (by first | exact p_0 hp | exact (p_ro hp (by omega)).1 | exact (p_sh10 hp).1 | exact (p_sh4 hp).1) rfl (by decide) rfl (Nat.le_of_ble_eq_true rfl) (evo (by have z := k_fp_pairs (L := L) (xs := xs) (d := d + 2) (τ := τ) hp e0 hI hk eN hS20; rw [if_pos ha] at z; exact z)) ?_
            refine e_5 rfl rfl ?_
            refine e_2 rfl rfl ?_
            refine e_30 rfl (fun h3 => ?_) (fun h3 => ?_)
            · exact absurd h3 (by decide)
            · refine e_4 rfl rfl ?_
              refine e_2 rfl rfl ?_
              refine e_v1 rfl (by first | exact p_0 hp | exact (p_ro hp (by omega)).1 | exact (p_sh10 hp).1 | exact (p_sh4 hp).1) rfl (by decide) rfl (Nat.le_of_ble_eq_true rfl) (evo (k_find (f := 3) (μ := SM μ 10 (allF g (ps_i μ (45 + 2 * k + 1)) S 0 σ0).2) hp (by decide) (by decide))) ?_
              exact e_ri rfl rfl (by first | (simp only [eq_true h1, eq_false h2, eq_false h3, if_true, eq_true hz, eq_true ho, eq_true ha, if_true, if_false, not_true_eq_false, not_false_eq_true, and_true, true_and, and_false, false_and, or_true, true_or, or_false, false_or, reduceIte]; done) | (simp only [eq_true h1, eq_false h2, eq_false h3, if_true, eq_true hz, eq_true ho, eq_true ha, if_true, if_false, not_true_eq_false, not_false_eq_true, and_true, true_and, and_false, false_and, or_true, true_or, or_false, false_or, reduceIte]; rfl) | rfl) (by first | (simp only [eq_true h1, eq_false h2, eq_false h3, if_true, eq_true hz, eq_true ho, eq_true ha, if_true, if_false, not_true_eq_false, not_false_eq_true, and_true, true_and, and_false, false_and, or_true, true_or, or_false, false_or, reduceIte]; done) | (simp only [eq_true h1, eq_false h2, eq_false h3, if_true, eq_true hz, eq_true ho, eq_true ha, if_true, if_false, not_true_eq_false, not_false_eq_true, and_true, true_and, and_false, false_and, or_true, true_or, or_false, false_or, reduceIte]; rfl) | rfl)
          · refine e_0 rfl ?_
            exact e_ri rfl rfl (by first | (simp only [eq_true h1, eq_true h2, if_true, eq_true hz, eq_true ho, eq_true ha, if_true, if_false, not_true_eq_false, not_false_eq_true, and_true, true_and, and_false, false_and, or_true, true_or, or_false, false_or, reduceIte]; done) | (simp only [eq_true h1, eq_true h2, if_true, eq_true hz, eq_true ho, eq_true ha, if_true, if_false, not_true_eq_false, not_false_eq_true, and_true, true_and, and_false, false_and, or_true, true_or, or_false, false_or, reduceIte]; rfl) | rfl) (by first | (simp only [eq_true h1, eq_true h2, if_true, eq_true hz, eq_true ho, eq_true ha, if_true, if_false, not_true_eq_false, not_false_eq_true, and_true, true_and, and_false, false_and, or_true, true_or, or_false, false_or, reduceIte]; done) | (simp only [eq_true h1, eq_true h2, if_true, eq_true hz, eq_true ho, eq_true ha, if_true, if_false, not_true_eq_false, not_false_eq_true, and_true, true_and, and_false, false_and, or_true, true_or, or_false, false_or, reduceIte]; rfl) | rfl)
        · refine e_0 rfl ?_
          exact e_ri rfl rfl (by first | (simp only [eq_false h1, if_true, eq_true hz, eq_true ho, eq_true ha, if_true, if_false, not_true_eq_false, not_false_eq_true, and_true, true_and, and_false, false_and, or_true, true_or, or_false, false_or, reduceIte]; done) | (simp only [eq_false h1, if_true, eq_true hz, eq_true ho, eq_true ha, if_true, if_false, not_true_eq_false, not_false_eq_true, and_true, true_and, and_false, false_and, or_true, true_or, or_false, false_or, reduceIte]; rfl) | rfl) (by first | (simp only [eq_false h1, if_true, eq_true hz, eq_true ho, eq_true ha, if_true, if_false, not_true_eq_false, not_false_eq_true, and_true, true_and, and_false, false_and, or_true, true_or, or_false, false_or, reduceIte]; done) | (simp only [eq_false h1, if_true, eq_true hz, eq_true ho, eq_true ha, if_true, if_false, not_true_eq_false, not_false_eq_true, and_true, true_and, and_false, false_and, or_true, true_or, or_false, false_or, reduceIte]; rfl) | rfl)
      · have hS20 : S ≤ 20 := by omega
        refine ⟨Nat.le_of_ble_eq_true rfl, ?_⟩
        refine e_2 rfl rfl ?_
        refine e_s1 rfl rfl rfl (Nat.le_of_ble_eq_true rfl) (k_isRow _) ?_
        refine e_31b rfl (fun h1 => ?_) (fun h1 => ?_)
        · obtain ⟨rfl, hk⟩ := hr h1
          refine e_4 rfl rfl ?_
          refine e_gr rfl (p_0 hp) rfl (p_f4 hp) ?_
          refine e_gi rfl (p_sh4 hp).1 rfl (by decide) ?_
          rw [SM_off (by omega), e8]
          refine e_31 rfl (fun h2 => ?_) (fun h2 => ?_)
          · refine e_4 rfl rfl ?_
            refine e_4 rfl rfl ?_
            refine e_gr rfl (p_0 hp) rfl (p_f0 hp) ?_
            refine e_2 rfl rfl ?_
            refine e_gaq (i := k) rfl (p_1 hp) (by decide) (by decide) (by first | rfl | (simp only [← nI_add, ← pk_mul]; rfl) | (simp only [nI_add, pk_mul, nI_1]; done)) (by omega) (by decide) (p_r1 hp (by omega)) ?_
            refine e_v1 rfl (by first | exact p_0 hp | exact (p_ro hp (by omega)).1 | exact (p_sh10 hp).1 | exact (p_sh4 hp).1) rfl (by decide) rfl (Nat.le_of_ble_eq_true rfl) (evo (by have z := k_fp_pairs (L := L) (xs := xs) (d := d + 2) (τ := τ) hp e0 hI hk eN hS20; rw [if_neg ha] at z; exact z)) ?_
            refine e_5 rfl rfl ?_
            refine e_2 rfl rfl ?_
            refine e_30 rfl (fun h3 => ?_) (fun h3 => ?_)
            · refine e_0 rfl ?_
              refine e_5 rfl rfl ?_
              refine e_0 rfl ?_
              refine e_5 rfl rfl ?_
              refine e_lv [0, 1, 3, 4] rfl rfl ?_
              simp only [eq_true h1, eq_false h2, eq_true h3, if_true, eq_true hz, eq_true ho, eq_false ha, if_true, if_false, not_true_eq_false, not_false_eq_true, and_true, true_and, and_false, false_and, or_true, true_or, or_false, false_or, reduceIte]
              exact k_feigns_loop (L := L) (xs := xs) (d := d + 1) hp e0 hI hk eN hS20 0 (τ := (allF g (ps_i μ (45 + 2 * k + 1)) S 0 σ0).2) g 0 (by omega)
            · exact absurd rfl h3
          · refine e_0 rfl ?_
            exact e_ri rfl rfl (by first | (simp only [eq_true h1, eq_true h2, if_true, eq_true hz, eq_true ho, eq_false ha, if_true, if_false, not_true_eq_false, not_false_eq_true, and_true, true_and, and_false, false_and, or_true, true_or, or_false, false_or, reduceIte]; done) | (simp only [eq_true h1, eq_true h2, if_true, eq_true hz, eq_true ho, eq_false ha, if_true, if_false, not_true_eq_false, not_false_eq_true, and_true, true_and, and_false, false_and, or_true, true_or, or_false, false_or, reduceIte]; rfl) | rfl) (by first | (simp only [eq_true h1, eq_true h2, if_true, eq_true hz, eq_true ho, eq_false ha, if_true, if_false, not_true_eq_false, not_false_eq_true, and_true, true_and, and_false, false_and, or_true, true_or, or_false, false_or, reduceIte]; done) | (simp only [eq_true h1, eq_true h2, if_true, eq_true hz, eq_true ho, eq_false ha, if_true, if_false, not_true_eq_false, not_false_eq_true, and_true, true_and, and_false, false_and, or_true, true_or, or_false, false_or, reduceIte]; rfl) | rfl)
        · refine e_0 rfl ?_
          exact e_ri rfl rfl (by first | (simp only [eq_false h1, if_true, eq_true hz, eq_true ho, eq_false ha, if_true, if_false, not_true_eq_false, not_false_eq_true, and_true, true_and, and_false, false_and, or_true, true_or, or_false, false_or, reduceIte]; done) | (simp only [eq_false h1, if_true, eq_true hz, eq_true ho, eq_false ha, if_true, if_false, not_true_eq_false, not_false_eq_true, and_true, true_and, and_false, false_and, or_true, true_or, or_false, false_or, reduceIte]; rfl) | rfl) (by first | (simp only [eq_false h1, if_true, eq_true hz, eq_true ho, eq_false ha, if_true, if_false, not_true_eq_false, not_false_eq_true, and_true, true_and, and_false, false_and, or_true, true_or, or_false, false_or, reduceIte]; done) | (simp only [eq_false h1, if_true, eq_true hz, eq_true ho, eq_false ha, if_true, if_false, not_true_eq_false, not_false_eq_true, and_true, true_and, and_false, false_and, or_true, true_or, or_false, false_or, reduceIte]; rfl) | rfl)
    · skip
      refine ⟨Nat.le_of_ble_eq_true rfl, ?_⟩
      refine e_2 rfl rfl ?_
      refine e_s1 rfl rfl rfl (Nat.le_of_ble_eq_true rfl) (k_isRow _) ?_
      refine e_31b rfl (fun h1 => ?_) (fun h1 => ?_)
      · obtain ⟨rfl, hk⟩ := hr h1
        refine e_4 rfl rfl ?_
        refine e_gr rfl (p_0 hp) rfl (p_f4 hp) ?_
        refine e_gi rfl (p_sh4 hp).1 rfl (by decide) ?_
        rw [SM_off (by omega), e8]
        refine e_31 rfl (fun h2 => ?_) (fun h2 => ?_)
        · refine e_4 rfl rfl ?_
          refine e_4 rfl rfl ?_
          refine e_gr rfl (p_0 hp) rfl (p_f0 hp) ?_
          refine e_2 rfl rfl ?_
          refine e_gaq (i := k) rfl (p_1 hp) (by decide) (by decide) (by first | rfl | (simp only [← nI_add, ← pk_mul]; rfl) | (simp only [nI_add, pk_mul, nI_1]; done)) (by omega) (by decide) (p_r1 hp (by omega)) ?_
          refine e_v1 rfl (by first | exact p_0 hp | exact (p_ro hp (by omega)).1 | exact (p_sh10 hp).1 | exact (p_sh4 hp).1) rfl (by decide) rfl (Nat.le_of_ble_eq_true rfl) (evo (k_fp_odd hp e0 hI hk eN hN40 ho)) ?_
          refine e_5 rfl rfl ?_
          refine e_2 rfl rfl ?_
          refine e_30 rfl (fun h3 => ?_) (fun h3 => ?_)
          · exact absurd h3 (by decide)
          · refine e_4 rfl rfl ?_
            refine e_2 rfl rfl ?_
            refine e_v1 rfl (by first | exact p_0 hp | exact (p_ro hp (by omega)).1 | exact (p_sh10 hp).1 | exact (p_sh4 hp).1) rfl (by decide) rfl (Nat.le_of_ble_eq_true rfl) (evo (k_find (f := 5) (μ := SM μ 10 τ) hp (by decide) (by decide))) ?_
            exact e_ri rfl rfl (by first | (simp only [eq_true h1, eq_false h2, eq_false h3, if_true, eq_true hz, eq_false ho, if_true, if_false, not_true_eq_false, not_false_eq_true, and_true, true_and, and_false, false_and, or_true, true_or, or_false, false_or, reduceIte]; done) | (simp only [eq_true h1, eq_false h2, eq_false h3, if_true, eq_true hz, eq_false ho, if_true, if_false, not_true_eq_false, not_false_eq_true, and_true, true_and, and_false, false_and, or_true, true_or, or_false, false_or, reduceIte]; rfl) | rfl) (by first | (simp only [eq_true h1, eq_false h2, eq_false h3, if_true, eq_true hz, eq_false ho, if_true, if_false, not_true_eq_false, not_false_eq_true, and_true, true_and, and_false, false_and, or_true, true_or, or_false, false_or, reduceIte]; done) | (simp only [eq_true h1, eq_false h2, eq_false h3, if_true, eq_true hz, eq_false ho, if_true, if_false, not_true_eq_false, not_false_eq_true, and_true, true_and, and_false, false_and, or_true, true_or, or_false, false_or, reduceIte]; rfl) | rfl)
        · refine e_0 rfl ?_
          exact e_ri rfl rfl (by first | (simp only [eq_true h1, eq_true h2, if_true, eq_true hz, eq_false ho, if_true, if_false, not_true_eq_false, not_false_eq_true, and_true, true_and, and_false, false_and, or_true, true_or, or_false, false_or, reduceIte]; done) | (simp only [eq_true h1, eq_true h2, if_true, eq_true hz, eq_false ho, if_true, if_false, not_true_eq_false, not_false_eq_true, and_true, true_and, and_false, false_and, or_true, true_or, or_false, false_or, reduceIte]; rfl) | rfl) (by first | (simp only [eq_true h1, eq_true h2, if_true, eq_true hz, eq_false ho, if_true, if_false, not_true_eq_false, not_false_eq_true, and_true, true_and, and_false, false_and, or_true, true_or, or_false, false_or, reduceIte]; done) | (simp only [eq_true h1, eq_true h2, if_true, eq_true hz, eq_false ho, if_true, if_false, not_true_eq_false, not_false_eq_true, and_true, true_and, and_false, false_and, or_true, true_or, or_false, false_or, reduceIte]; rfl) | rfl)
      · refine e_0 rfl ?_
        exact e_ri rfl rfl (by first | (simp only [eq_false h1, if_true, eq_true hz, eq_false ho, if_true, if_false, not_true_eq_false, not_false_eq_true, and_true, true_and, and_false, false_and, or_true, true_or, or_false, false_or, reduceIte]; done) | (simp only [eq_false h1, if_true, eq_true hz, eq_false ho, if_true, if_false, not_true_eq_false, not_false_eq_true, and_true, true_and, and_false, false_and, or_true, true_or, or_false, false_or, reduceIte]; rfl) | rfl) (by first | (simp only [eq_false h1, if_true, eq_true hz, eq_false ho, if_true, if_false, not_true_eq_false, not_false_eq_true, and_true, true_and, and_false, false_and, or_true, true_or, or_false, false_or, reduceIte]; done) | (simp only [eq_false h1, if_true, eq_true hz, eq_false ho, if_true, if_false, not_true_eq_false, not_false_eq_true, and_true, true_and, and_false, false_and, or_true, true_or, or_false, false_or, reduceIte]; rfl) | rfl)
  · skip
    refine ⟨Nat.le_of_ble_eq_true rfl, ?_⟩
    refine e_2 rfl rfl ?_
    refine e_s1 rfl rfl rfl (Nat.le_of_ble_eq_true rfl) (k_isRow _) ?_
    refine e_31b rfl (fun h1 => ?_) (fun h1 => ?_)
    · obtain ⟨rfl, hk⟩ := hr h1
      refine e_4 rfl rfl ?_
      refine e_gr rfl (p_0 hp) rfl (p_f4 hp) ?_
      refine e_gi rfl (p_sh4 hp).1 rfl (by decide) ?_
      rw [SM_off (by omega), e8]
      refine e_31 rfl (fun h2 => ?_) (fun h2 => ?_)
      · refine e_4 rfl rfl ?_
        refine e_4 rfl rfl ?_
        refine e_gr rfl (p_0 hp) rfl (p_f0 hp) ?_
        refine e_2 rfl rfl ?_
        refine e_gaq (i := k) rfl (p_1 hp) (by decide) (by decide) (by first | rfl | (simp only [← nI_add, ← pk_mul]; rfl) | (simp only [nI_add, pk_mul, nI_1]; done)) (by omega) (by decide) (p_r1 hp (by omega)) ?_
        refine e_v1 rfl (by first | exact p_0 hp | exact (p_ro hp (by omega)).1 | exact (p_sh10 hp).1 | exact (p_sh4 hp).1) rfl (by decide) rfl (Nat.le_of_ble_eq_true rfl) (evo (k_fp_no hp e0 hI hk hz)) ?_
        refine e_5 rfl rfl ?_
        refine e_2 rfl rfl ?_
        refine e_30 rfl (fun h3 => ?_) (fun h3 => ?_)
        · exact absurd h3 (by decide)
        · refine e_4 rfl rfl ?_
          refine e_2 rfl rfl ?_
          refine e_v1 rfl (by first | exact p_0 hp | exact (p_ro hp (by omega)).1 | exact (p_sh10 hp).1 | exact (p_sh4 hp).1) rfl (by decide) rfl (Nat.le_of_ble_eq_true rfl) (evo (k_find (f := 1) (μ := SM μ 10 τ) hp (by decide) (by decide))) ?_
          exact e_ri rfl rfl (by first | (simp only [eq_true h1, eq_false h2, eq_false h3, if_true, eq_false hz, if_true, if_false, not_true_eq_false, not_false_eq_true, and_true, true_and, and_false, false_and, or_true, true_or, or_false, false_or, reduceIte]; done) | (simp only [eq_true h1, eq_false h2, eq_false h3, if_true, eq_false hz, if_true, if_false, not_true_eq_false, not_false_eq_true, and_true, true_and, and_false, false_and, or_true, true_or, or_false, false_or, reduceIte]; rfl) | rfl) (by first | (simp only [eq_true h1, eq_false h2, eq_false h3, if_true, eq_false hz, if_true, if_false, not_true_eq_false, not_false_eq_true, and_true, true_and, and_false, false_and, or_true, true_or, or_false, false_or, reduceIte]; done) | (simp only [eq_true h1, eq_false h2, eq_false h3, if_true, eq_false hz, if_true, if_false, not_true_eq_false, not_false_eq_true, and_true, true_and, and_false, false_and, or_true, true_or, or_false, false_or, reduceIte]; rfl) | rfl)
      · refine e_0 rfl ?_
        exact e_ri rfl rfl (by first | (simp only [eq_true h1, eq_true h2, if_true, eq_false hz, if_true, if_false, not_true_eq_false, not_false_eq_true, and_true, true_and, and_false, false_and, or_true, true_or, or_false, false_or, reduceIte]; done) | (simp only [eq_true h1, eq_true h2, if_true, eq_false hz, if_true, if_false, not_true_eq_false, not_false_eq_true, and_true, true_and, and_false, false_and, or_true, true_or, or_false, false_or, reduceIte]; rfl) | rfl) (by first | (simp only [eq_true h1, eq_true h2, if_true, eq_false hz, if_true, if_false, not_true_eq_false, not_false_eq_true, and_true, true_and, and_false, false_and, or_true, true_or, or_false, false_or, reduceIte]; done) | (simp only [eq_true h1, eq_true h2, if_true, eq_false hz, if_true, if_false, not_true_eq_false, not_false_eq_true, and_true, true_and, and_false, false_and, or_true, true_or, or_false, false_or, reduceIte]; rfl) | rfl)
    · refine e_0 rfl ?_
      exact e_ri rfl rfl (by first | (simp only [eq_false h1, if_true, eq_false hz, if_true, if_false, not_true_eq_false, not_false_eq_true, and_true, true_and, and_false, false_and, or_true, true_or, or_false, false_or, reduceIte]; done) | (simp only [eq_false h1, if_true, eq_false hz, if_true, if_false, not_true_eq_false, not_false_eq_true, and_true, true_and, and_false, false_and, or_true, true_or, or_false, false_or, reduceIte]; rfl) | rfl) (by first | (simp only [eq_false h1, if_true, eq_false hz, if_true, if_false, not_true_eq_false, not_false_eq_true, and_true, true_and, and_false, false_and, or_true, true_or, or_false, false_or, reduceIte]; done) | (simp only [eq_false h1, if_true, eq_false hz, if_true, if_false, not_true_eq_false, not_false_eq_true, and_true, true_and, and_false, false_and, or_true, true_or, or_false, false_or, reduceIte]; rfl) | rfl)
theorem kq_leaks (hp : isPs μ) (e0 : shG (ps_i μ) 4 = σ0) (hI : shI g σ0) {r : Int32} {k : Nat} (hr : rowP r → r = nI k ∧ k < 6) {N : Nat} (hN : 0 ≤ ps_i μ (45 + 2 * k) 0 → ps_i μ (45 + 2 * k) 0 = nI N ∧ N ≤ 40) : evI (ps_XX L xs) (d + 7) j_X7_leaks [.ref 0, .int r] (SM μ 10 τ) (if ¬ rowP r then (-1, SM μ 10 τ) else if σ0 8 = 0 then (-4, SM μ 10 τ) else if ¬ 0 ≤ ps_i μ (45 + 2 * k) 0 then (-3, FC (SM μ 10 τ) 1) else if ¬ N % 2 = 0 then (-3, FC (SM μ 10 τ) 5) else if (allF g (ps_i μ (45 + 2 * k + 1)) (N / 2) 0 σ0).1 = 0 then (-3, FC (SM μ 10 (allF g (ps_i μ (45 + 2 * k + 1)) (N / 2) 0 σ0).2) 3) else (bits1 (fun y => (lkF g (ps_i μ (45 + 2 * k + 1)) (N / 2) σ0 y).1 = 1) 9, SM μ 10 (lastS (fun y => (lkF g (ps_i μ (45 + 2 * k + 1)) (N / 2) σ0 (y + 1)).2) (allF g (ps_i μ (45 + 2 * k + 1)) (N / 2) 0 σ0).2 9))) := by
  have hg := hI.1.1
  have h8 := hI.1.2.1
  have h7 := hI.2.2.1
  have e8 : ps_i μ 4 8 = σ0 8 := by rw [← e0]; rfl
  by_cases hz : 0 ≤ ps_i μ (45 + 2 * k) 0
  · obtain ⟨eN, hN40⟩ := hN hz
    by_cases ho : N % 2 = 0
    · obtain ⟨S, rfl⟩ : ∃ S, N = 2 * S := ⟨N / 2, by omega⟩
      rw [Nat.mul_div_cancel_left S (by decide)]
      by_cases ha : (allF g (ps_i μ (45 + 2 * k + 1)) S 0 σ0).1 = 0
      · have hS20 : S ≤ 20 := by omega
        refine ⟨Nat.le_of_ble_eq_true rfl, ?_⟩
        refine e_2 rfl rfl ?_
        refine e_s1 rfl rfl rfl (Nat.le_of_ble_eq_true rfl) (k_isRow _) ?_
        refine e_31b rfl (fun h1 => ?_) (fun h1 => ?_)
        · obtain ⟨rfl, hk⟩ := hr h1
          refine e_4 rfl rfl ?_
          refine e_gr rfl (p_0 hp) rfl (p_f4 hp) ?_
          refine e_gi rfl (p_sh4 hp).1 rfl (by decide) ?_
          rw [SM_off (by omega), e8]
          refine e_31 rfl (fun h2 => ?_) (fun h2 => ?_)
          · refine e_4 rfl rfl ?_
            refine e_4 rfl rfl ?_
            refine e_gr rfl (p_0 hp) rfl (p_f0 hp) ?_
            refine e_2 rfl rfl ?_
            refine e_gaq (i := k) rfl (p_1 hp) (by decide) (by decide) (by first | rfl | (simp only [← nI_add, ← pk_mul]; rfl) | (simp only [nI_add, pk_mul, nI_1]; done)) (by omega) (by decide) (p_r1 hp (by omega)) ?_
            refine e_v1 rfl (by first | exact p_0 hp | exact (p_ro hp (by omega)).1 | exact (p_sh10 hp).1 | exact (p_sh4 hp).1) rfl (by decide) rfl (Nat.le_of_ble_eq_true rfl) (evo (by have z := k_fp_pairs (L := L) (xs := xs) (d := d + 1) (τ := τ) hp e0 hI hk eN hS20; rw [if_pos ha] at z; exact z)) ?_
            refine e_5 rfl rfl ?_
            refine e_2 rfl rfl ?_
            refine e_30 rfl (fun h3 => ?_) (fun h3 => ?_)
            · exact absurd h3 (by decide)
            · refine e_4 rfl rfl ?_
              refine e_2 rfl rfl ?_
              refine e_v1 rfl (by first | exact p_0 hp | exact (p_ro hp (by omega)).1 | exact (p_sh10 hp).1 | exact (p_sh4 hp).1) rfl (by decide) rfl (Nat.le_of_ble_eq_true rfl) (evo (k_find (f := 3) (μ := SM μ 10 (allF g (ps_i μ (45 + 2 * k + 1)) S 0 σ0).2) hp (by decide) (by decide))) ?_
              exact e_ri rfl rfl (by first | (simp only [eq_true h1, eq_false h2, eq_false h3, if_true, eq_true hz, eq_true ho, eq_true ha, if_true, if_false, not_true_eq_false, not_false_eq_true, and_true, true_and, and_false, false_and, or_true, true_or, or_false, false_or, reduceIte]; done) | (simp only [eq_true h1, eq_false h2, eq_false h3, if_true, eq_true hz, eq_true ho, eq_true ha, if_true, if_false, not_true_eq_false, not_false_eq_true, and_true, true_and, and_false, false_and, or_true, true_or, or_false, false_or, reduceIte]; rfl) | rfl) (by first | (simp only [eq_true h1, eq_false h2, eq_false h3, if_true, eq_true hz, eq_true ho, eq_true ha, if_true, if_false, not_true_eq_false, not_false_eq_true, and_true, true_and, and_false, false_and, or_true, true_or, or_false, false_or, reduceIte]; done) | (simp only [eq_true h1, eq_false h2, eq_false h3, if_true, eq_true hz, eq_true ho, eq_true ha, if_true, if_false, not_true_eq_false, not_false_eq_true, and_true, true_and, and_false, false_and, or_true, true_or, or_false, false_or, reduceIte]; rfl) | rfl)
          · refine e_0 rfl ?_
            exact e_ri rfl rfl (by first | (simp only [eq_true h1, eq_true h2, if_true, eq_true hz, eq_true ho, eq_true ha, if_true, if_false, not_true_eq_false, not_false_eq_true, and_true, true_and, and_false, false_and, or_true, true_or, or_false, false_or, reduceIte]; done) | (simp only [eq_true h1, eq_true h2, if_true, eq_true hz, eq_true ho, eq_true ha, if_true, if_false, not_true_eq_false, not_false_eq_true, and_true, true_and, and_false, false_and, or_true, true_or, or_false, false_or, reduceIte]; rfl) | rfl) (by first | (simp only [eq_true h1, eq_true h2, if_true, eq_true hz, eq_true ho, eq_true ha, if_true, if_false, not_true_eq_false, not_false_eq_true, and_true, true_and, and_false, false_and, or_true, true_or, or_false, false_or, reduceIte]; done) | (simp only [eq_true h1, eq_true h2, if_true, eq_true hz, eq_true ho, eq_true ha, if_true, if_false, not_true_eq_false, not_false_eq_true, and_true, true_and, and_false, false_and, or_true, true_or, or_false, false_or, reduceIte]; rfl) | rfl)
        · refine e_0 rfl ?_
          exact e_ri rfl rfl (by first | (simp only [eq_false h1, if_true, eq_true hz, eq_true ho, eq_true ha, if_true, if_false, not_true_eq_false, not_false_eq_true, and_true, true_and, and_false, false_and, or_true, true_or, or_false, false_or, reduceIte]; done) | (simp only [eq_false h1, if_true, eq_true hz, eq_true ho, eq_true ha, if_true, if_false, not_true_eq_false, not_false_eq_true, and_true, true_and, and_false, false_and, or_true, true_or, or_false, false_or, reduceIte]; rfl) | rfl) (by first | (simp only [eq_false h1, if_true, eq_true hz, eq_true ho, eq_true ha, if_true, if_false, not_true_eq_false, not_false_eq_true, and_true, true_and, and_false, false_and, or_true, true_or, or_false, false_or, reduceIte]; done) | (simp only [eq_false h1, if_true, eq_true hz, eq_true ho, eq_true ha, if_true, if_false, not_true_eq_false, not_false_eq_true, and_true, true_and, and_false, false_and, or_true, true_or, or_false, false_or, reduceIte]; rfl) | rfl)
      · have hS20 : S ≤ 20 := by omega
        refine ⟨Nat.le_of_ble_eq_true rfl, ?_⟩
        refine e_2 rfl rfl ?_
        refine e_s1 rfl rfl rfl (Nat.le_of_ble_eq_true rfl) (k_isRow _) ?_
        refine e_31b rfl (fun h1 => ?_) (fun h1 => ?_)
        · obtain ⟨rfl, hk⟩ := hr h1
          refine e_4 rfl rfl ?_
          refine e_gr rfl (p_0 hp) rfl (p_f4 hp) ?_
          refine e_gi rfl (p_sh4 hp).1 rfl (by decide) ?_
          rw [SM_off (by omega), e8]
          refine e_31 rfl (fun h2 => ?_) (fun h2 => ?_)
          · refine e_4 rfl rfl ?_
            refine e_4 rfl rfl ?_
            refine e_gr rfl (p_0 hp) rfl (p_f0 hp) ?_
            refine e_2 rfl rfl ?_
            refine e_gaq (i := k) rfl (p_1 hp) (by decide) (by decide) (by first | rfl | (simp only [← nI_add, ← pk_mul]; rfl) | (simp only [nI_add, pk_mul, nI_1]; done)) (by omega) (by decide) (p_r1 hp (by omega)) ?_
            refine e_v1 rfl (by first | exact p_0 hp | exact (p_ro hp (by omega)).1 | exact (p_sh10 hp).1 | exact (p_sh4 hp).1) rfl (by decide) rfl (Nat.le_of_ble_eq_true rfl) (evo (by have z := k_fp_pairs (L := L) (xs := xs) (d := d + 1) (τ := τ) hp e0 hI hk eN hS20; rw [if_neg ha] at z; exact z)) ?_
            refine e_5 rfl rfl ?_
            refine e_2 rfl rfl ?_
            refine e_30 rfl (fun h3 => ?_) (fun h3 => ?_)
            · refine e_0 rfl ?_
              refine e_5 rfl rfl ?_
              refine e_0 rfl ?_
              refine e_5 rfl rfl ?_
              refine e_lv [0, 1, 3, 4] rfl rfl ?_
              simp only [eq_true h1, eq_false h2, eq_true h3, if_true, eq_true hz, eq_true ho, eq_false ha, if_true, if_false, not_true_eq_false, not_false_eq_true, and_true, true_and, and_false, false_and, or_true, true_or, or_false, false_or, reduceIte]
              exact k_leaks_loop (L := L) (xs := xs) (d := d + 1) hp e0 hI hk eN hS20 (τ := (allF g (ps_i μ (45 + 2 * k + 1)) S 0 σ0).2) 9 0 (by omega)
            · exact absurd rfl h3
          · refine e_0 rfl ?_
            exact e_ri rfl rfl (by first | (simp only [eq_true h1, eq_true h2, if_true, eq_true hz, eq_true ho, eq_false ha, if_true, if_false, not_true_eq_false, not_false_eq_true, and_true, true_and, and_false, false_and, or_true, true_or, or_false, false_or, reduceIte]; done) | (simp only [eq_true h1, eq_true h2, if_true, eq_true hz, eq_true ho, eq_false ha, if_true, if_false, not_true_eq_false, not_false_eq_true, and_true, true_and, and_false, false_and, or_true, true_or, or_false, false_or, reduceIte]; rfl) | rfl) (by first | (simp only [eq_true h1, eq_true h2, if_true, eq_true hz, eq_true ho, eq_false ha, if_true, if_false, not_true_eq_false, not_false_eq_true, and_true, true_and, and_false, false_and, or_true, true_or, or_false, false_or, reduceIte]; done) | (simp only [eq_true h1, eq_true h2, if_true, eq_true hz, eq_true ho, eq_false ha, if_true, if_false, not_true_eq_false, not_false_eq_true, and_true, true_and, and_false, false_and, or_true, true_or, or_false, false_or, reduceIte]; rfl) | rfl)
        · refine e_0 rfl ?_
          exact e_ri rfl rfl (by first | (simp only [eq_false h1, if_true, eq_true hz, eq_true ho, eq_false ha, if_true, if_false, not_true_eq_false, not_false_eq_true, and_true, true_and, and_false, false_and, or_true, true_or, or_false, false_or, reduceIte]; done) | (simp only [eq_false h1, if_true, eq_true hz, eq_true ho, eq_false ha, if_true, if_false, not_true_eq_false, not_false_eq_true, and_true, true_and, and_false, false_and, or_true, true_or, or_false, false_or, reduceIte]; rfl) | rfl) (by first | (simp only [eq_false h1, if_true, eq_true hz, eq_true ho, eq_false ha, if_true, if_false, not_true_eq_false, not_false_eq_true, and_true, true_and, and_false, false_and, or_true, true_or, or_false, false_or, reduceIte]; done) | (simp only [eq_false h1, if_true, eq_true hz, eq_true ho, eq_false ha, if_true, if_false, not_true_eq_false, not_false_eq_true, and_true, true_and, and_false, false_and, or_true, true_or, or_false, false_or, reduceIte]; rfl) | rfl)
    · skip
      refine ⟨Nat.le_of_ble_eq_true rfl, ?_⟩
      refine e_2 rfl rfl ?_
      refine e_s1 rfl rfl rfl (Nat.le_of_ble_eq_true rfl) (k_isRow _) ?_
      refine e_31b rfl (fun h1 => ?_) (fun h1 => ?_)
      · obtain ⟨rfl, hk⟩ := hr h1
        refine e_4 rfl rfl ?_
        refine e_gr rfl (p_0 hp) rfl (p_f4 hp) ?_
        refine e_gi rfl (p_sh4 hp).1 rfl (by decide) ?_
        rw [SM_off (by omega), e8]
        refine e_31 rfl (fun h2 => ?_) (fun h2 => ?_)
        · refine e_4 rfl rfl ?_
          refine e_4 rfl rfl ?_
          refine e_gr rfl (p_0 hp) rfl (p_f0 hp) ?_
          refine e_2 rfl rfl ?_
          refine e_gaq (i := k) rfl (p_1 hp) (by decide) (by decide) (by first | rfl | (simp only [← nI_add, ← pk_mul]; rfl) | (simp only [nI_add, pk_mul, nI_1]; done)) (by omega) (by decide) (p_r1 hp (by omega)) ?_
          refine e_v1 rfl (by first | exact p_0 hp | exact (p_ro hp (by omega)).1 | exact (p_sh10 hp).1 | exact (p_sh4 hp).1) rfl (by decide) rfl (Nat.le_of_ble_eq_true rfl) (evo (k_fp_odd hp e0 hI hk eN hN40 ho)) ?_
          refine e_5 rfl rfl ?_
          refine e_2 rfl rfl ?_
          refine e_30 rfl (fun h3 => ?_) (fun h3 => ?_)
          · exact absurd h3 (by decide)
          · refine e_4 rfl rfl ?_
            refine e_2 rfl rfl ?_
            refine e_v1 rfl (by first | exact p_0 hp | exact (p_ro hp (by omega)).1 | exact (p_sh10 hp).1 | exact (p_sh4 hp).1) rfl (by decide) rfl (Nat.le_of_ble_eq_true rfl) (evo (k_find (f := 5) (μ := SM μ 10 τ) hp (by decide) (by decide))) ?_
            exact e_ri rfl rfl (by first | (simp only [eq_true h1, eq_false h2, eq_false h3, if_true, eq_true hz, eq_false ho, if_true, if_false, not_true_eq_false, not_false_eq_true, and_true, true_and, and_false, false_and, or_true, true_or, or_false, false_or, reduceIte]; done) | (simp only [eq_true h1, eq_false h2, eq_false h3, if_true, eq_true hz, eq_false ho, if_true, if_false, not_true_eq_false, not_false_eq_true, and_true, true_and, and_false, false_and, or_true, true_or, or_false, false_or, reduceIte]; rfl) | rfl) (by first | (simp only [eq_true h1, eq_false h2, eq_false h3, if_true, eq_true hz, eq_false ho, if_true, if_false, not_true_eq_false, not_false_eq_true, and_true, true_and, and_false, false_and, or_true, true_or, or_false, false_or, reduceIte]; done) | (simp only [eq_true h1, eq_false h2, eq_false h3, if_true, eq_true hz, eq_false ho, if_true, if_false, not_true_eq_false, not_false_eq_true, and_true, true_and, and_false, false_and, or_true, true_or, or_false, false_or, reduceIte]; rfl) | rfl)
        · refine e_0 rfl ?_
          exact e_ri rfl rfl (by first | (simp only [eq_true h1, eq_true h2, if_true, eq_true hz, eq_false ho, if_true, if_false, not_true_eq_false, not_false_eq_true, and_true, true_and, and_false, false_and, or_true, true_or, or_false, false_or, reduceIte]; done) | (simp only [eq_true h1, eq_true h2, if_true, eq_true hz, eq_false ho, if_true, if_false, not_true_eq_false, not_false_eq_true, and_true, true_and, and_false, false_and, or_true, true_or, or_false, false_or, reduceIte]; rfl) | rfl) (by first | (simp only [eq_true h1, eq_true h2, if_true, eq_true hz, eq_false ho, if_true, if_false, not_true_eq_false, not_false_eq_true, and_true, true_and, and_false, false_and, or_true, true_or, or_false, false_or, reduceIte]; done) | (simp only [eq_true h1, eq_true h2, if_true, eq_true hz, eq_false ho, if_true, if_false, not_true_eq_false, not_false_eq_true, and_true, true_and, and_false, false_and, or_true, true_or, or_false, false_or, reduceIte]; rfl) | rfl)
      · refine e_0 rfl ?_
        exact e_ri rfl rfl (by first | (simp only [eq_false h1, if_true, eq_true hz, eq_false ho, if_true, if_false, not_true_eq_false, not_false_eq_true, and_true, true_and, and_false, false_and, or_true, true_or, or_false, false_or, reduceIte]; done) | (simp only [eq_false h1, if_true, eq_true hz, eq_false ho, if_true, if_false, not_true_eq_false, not_false_eq_true, and_true, true_and, and_false, false_and, or_true, true_or, or_false, false_or, reduceIte]; rfl) | rfl) (by first | (simp only [eq_false h1, if_true, eq_true hz, eq_false ho, if_true, if_false, not_true_eq_false, not_false_eq_true, and_true, true_and, and_false, false_and, or_true, true_or, or_false, false_or, reduceIte]; done) | (simp only [eq_false h1, if_true, eq_true hz, eq_false ho, if_true, if_false, not_true_eq_false, not_false_eq_true, and_true, true_and, and_false, false_and, or_true, true_or, or_false, false_or, reduceIte]; rfl) | rfl)
  · skip
    refine ⟨Nat.le_of_ble_eq_true rfl, ?_⟩
    refine e_2 rfl rfl ?_
    refine e_s1 rfl rfl rfl (Nat.le_of_ble_eq_true rfl) (k_isRow _) ?_
    refine e_31b rfl (fun h1 => ?_) (fun h1 => ?_)
    · obtain ⟨rfl, hk⟩ := hr h1
      refine e_4 rfl rfl ?_
      refine e_gr rfl (p_0 hp) rfl (p_f4 hp) ?_
      refine e_gi rfl (p_sh4 hp).1 rfl (by decide) ?_
      rw [SM_off (by omega), e8]
      refine e_31 rfl (fun h2 => ?_) (fun h2 => ?_)
      · refine e_4 rfl rfl ?_
        refine e_4 rfl rfl ?_
        refine e_gr rfl (p_0 hp) rfl (p_f0 hp) ?_
        refine e_2 rfl rfl ?_
        refine e_gaq (i := k) rfl (p_1 hp) (by decide) (by decide) (by first | rfl | (simp only [← nI_add, ← pk_mul]; rfl) | (simp only [nI_add, pk_mul, nI_1]; done)) (by omega) (by decide) (p_r1 hp (by omega)) ?_
        refine e_v1 rfl (by first | exact p_0 hp | exact (p_ro hp (by omega)).1 | exact (p_sh10 hp).1 | exact (p_sh4 hp).1) rfl (by decide) rfl (Nat.le_of_ble_eq_true rfl) (evo (k_fp_no hp e0 hI hk hz)) ?_
        refine e_5 rfl rfl ?_
        refine e_2 rfl rfl ?_
        refine e_30 rfl (fun h3 => ?_) (fun h3 => ?_)
        · exact absurd h3 (by decide)
        · refine e_4 rfl rfl ?_
          refine e_2 rfl rfl ?_
          refine e_v1 rfl (by first | exact p_0 hp | exact (p_ro hp (by omega)).1 | exact (p_sh10 hp).1 | exact (p_sh4 hp).1) rfl (by decide) rfl (Nat.le_of_ble_eq_true rfl) (evo (k_find (f := 1) (μ := SM μ 10 τ) hp (by decide) (by decide))) ?_
          exact e_ri rfl rfl (by first | (simp only [eq_true h1, eq_false h2, eq_false h3, if_true, eq_false hz, if_true, if_false, not_true_eq_false, not_false_eq_true, and_true, true_and, and_false, false_and, or_true, true_or, or_false, false_or, reduceIte]; done) | (simp only [eq_true h1, eq_false h2, eq_false h3, if_true, eq_false hz, if_true, if_false, not_true_eq_false, not_false_eq_true, and_true, true_and, and_false, false_and, or_true, true_or, or_false, false_or, reduceIte]; rfl) | rfl) (by first | (simp only [eq_true h1, eq_false h2, eq_false h3, if_true, eq_false hz, if_true, if_false, not_true_eq_false, not_false_eq_true, and_true, true_and, and_false, false_and, or_true, true_or, or_false, false_or, reduceIte]; done) | (simp only [eq_true h1, eq_false h2, eq_false h3, if_true, eq_false hz, if_true, if_false, not_true_eq_false, not_false_eq_true, and_true, true_and, and_false, false_and, or_true, true_or, or_false, false_or, reduceIte]; rfl) | rfl)
      · refine e_0 rfl ?_
        exact e_ri rfl rfl (by first | (simp only [eq_true h1, eq_true h2, if_true, eq_false hz, if_true, if_false, not_true_eq_false, not_false_eq_true, and_true, true_and, and_false, false_and, or_true, true_or, or_false, false_or, reduceIte]; done) | (simp only [eq_true h1, eq_true h2, if_true, eq_false hz, if_true, if_false, not_true_eq_false, not_false_eq_true, and_true, true_and, and_false, false_and, or_true, true_or, or_false, false_or, reduceIte]; rfl) | rfl) (by first | (simp only [eq_true h1, eq_true h2, if_true, eq_false hz, if_true, if_false, not_true_eq_false, not_false_eq_true, and_true, true_and, and_false, false_and, or_true, true_or, or_false, false_or, reduceIte]; done) | (simp only [eq_true h1, eq_true h2, if_true, eq_false hz, if_true, if_false, not_true_eq_false, not_false_eq_true, and_true, true_and, and_false, false_and, or_true, true_or, or_false, false_or, reduceIte]; rfl) | rfl)
    · refine e_0 rfl ?_
      exact e_ri rfl rfl (by first | (simp only [eq_false h1, if_true, eq_false hz, if_true, if_false, not_true_eq_false, not_false_eq_true, and_true, true_and, and_false, false_and, or_true, true_or, or_false, false_or, reduceIte]; done) | (simp only [eq_false h1, if_true, eq_false hz, if_true, if_false, not_true_eq_false, not_false_eq_true, and_true, true_and, and_false, false_and, or_true, true_or, or_false, false_or, reduceIte]; rfl) | rfl) (by first | (simp only [eq_false h1, if_true, eq_false hz, if_true, if_false, not_true_eq_false, not_false_eq_true, and_true, true_and, and_false, false_and, or_true, true_or, or_false, false_or, reduceIte]; done) | (simp only [eq_false h1, if_true, eq_false hz, if_true, if_false, not_true_eq_false, not_false_eq_true, and_true, true_and, and_false, false_and, or_true, true_or, or_false, false_or, reduceIte]; rfl) | rfl)
theorem k4_has (hp : isPs μ) (e0 : shG (ps_i μ) 4 = σ0) (i : Int32) : ps_Ev (ps_XX L xs) (d + 1) j_X3_has [.ref 4, .int i] (SM μ 10 τ) (some (.int (b2i (hasF σ0 i)))) (SM μ 10 τ) := by
  have h := sp_has (X := ps_XX L xs) (d := d) (μ := SM μ 10 τ) (b := 4) (z := 0) (by exact (p_sh4 hp).1) i
  rw [SM_off (by omega), show ps_i μ 4 8 = σ0 8 by rw [← e0]; rfl] at h
  exact h
theorem kq_kinds (hp : isPs μ) (e0 : shG (ps_i μ) 4 = σ0) (hI : shI g σ0) {ii : Int32} {x : Nat} (hx : hasF σ0 ii → ii = nI x ∧ x < g) {r : Int32} {k : Nat} (hr : rowP r → r = nI k ∧ k < 6) {N : Nat} (hN : 0 ≤ ps_i μ (45 + 2 * k) 0 → ps_i μ (45 + 2 * k) 0 = nI N ∧ N ≤ 40) : evI (ps_XX L xs) (d + 8) j_X7_kinds [.ref 0, .int ii, .int r] (SM μ 10 τ) (if ¬ (hasF σ0 ii ∧ rowP r) then (-1, SM μ 10 τ) else if ¬ 0 ≤ ps_i μ (45 + 2 * k) 0 then (-3, FC (SM μ 10 τ) 1) else if ¬ N % 2 = 0 then (-3, FC (SM μ 10 τ) 5) else if (allF g (ps_i μ (45 + 2 * k + 1)) (N / 2) 0 σ0).1 = 0 then (-3, FC (SM μ 10 (allF g (ps_i μ (45 + 2 * k + 1)) (N / 2) 0 σ0).2) 3) else (bitsN (fun y => (sasF g (ps_i μ (45 + 2 * k + 1)) (N / 2) σ0 x (nI y)).1 = 1) 6, SM μ 10 (lastS (fun y => (soF g (ps_i μ (45 + 2 * k + 1)) (N / 2) 0 (upd σ0 (9 + x) (nI y))).2) (allF g (ps_i μ (45 + 2 * k + 1)) (N / 2) 0 σ0).2 6))) := by
  have hg := hI.1.1
  have h8 := hI.1.2.1
  have h7 := hI.2.2.1
  have e8 : ps_i μ 4 8 = σ0 8 := by rw [← e0]; rfl
  by_cases hz : 0 ≤ ps_i μ (45 + 2 * k) 0
  · obtain ⟨eN, hN40⟩ := hN hz
    by_cases ho : N % 2 = 0
    · obtain ⟨S, rfl⟩ : ∃ S, N = 2 * S := ⟨N / 2, by omega⟩
      rw [Nat.mul_div_cancel_left S (by decide)]
      by_cases ha : (allF g (ps_i μ (45 + 2 * k + 1)) S 0 σ0).1 = 0
      · have hS20 : S ≤ 20 := by omega
        refine ⟨Nat.le_of_ble_eq_true rfl, ?_⟩
        refine e_4 rfl rfl ?_
        refine e_gr rfl (p_0 hp) rfl (p_f4 hp) ?_
        refine e_2 rfl rfl ?_
        refine e_v1 rfl (by first | exact p_0 hp | exact (p_ro hp (by omega)).1 | exact (p_sh10 hp).1 | exact (p_sh4 hp).1) rfl (by decide) rfl (Nat.le_of_ble_eq_true rfl) (k4_has hp e0 _) ?_
        refine e_30b rfl (fun h1 => ?_) (fun h1 => ?_)
        · refine e_0 rfl ?_
          exact e_ri rfl rfl (by first | (simp only [eq_false h1, if_true, eq_true hz, eq_true ho, eq_true ha, if_true, if_false, not_true_eq_false, not_false_eq_true, and_true, true_and, and_false, false_and, or_true, true_or, or_false, false_or, reduceIte]; done) | (simp only [eq_false h1, if_true, eq_true hz, eq_true ho, eq_true ha, if_true, if_false, not_true_eq_false, not_false_eq_true, and_true, true_and, and_false, false_and, or_true, true_or, or_false, false_or, reduceIte]; rfl) | rfl) (by first | (simp only [eq_false h1, if_true, eq_true hz, eq_true ho, eq_true ha, if_true, if_false, not_true_eq_false, not_false_eq_true, and_true, true_and, and_false, false_and, or_true, true_or, or_false, false_or, reduceIte]; done) | (simp only [eq_false h1, if_true, eq_true hz, eq_true ho, eq_true ha, if_true, if_false, not_true_eq_false, not_false_eq_true, and_true, true_and, and_false, false_and, or_true, true_or, or_false, false_or, reduceIte]; rfl) | rfl)
        · refine e_2 rfl rfl ?_
          refine e_s1 rfl rfl rfl (Nat.le_of_ble_eq_true rfl) (k_isRow _) ?_
          refine e_31b rfl (fun h2 => ?_) (fun h2 => ?_)
          · obtain ⟨rfl, hxg⟩ := hx h1
            obtain ⟨rfl, hk⟩ := hr h2
            refine e_4 rfl rfl ?_
            refine e_4 rfl rfl ?_
            refine e_gr rfl (p_0 hp) rfl (p_f0 hp) ?_
            refine e_2 rfl rfl ?_
            refine e_gaq (i := k) rfl (p_1 hp) (by decide) (by decide) (by first | rfl | (simp only [← nI_add, ← pk_mul]; rfl) | (simp only [nI_add, pk_mul, nI_1]; done)) (by omega) (by decide) (p_r1 hp (by omega)) ?_
            refine e_v1 rfl (by first | exact p_0 hp | exact (p_ro hp (by omega)).1 | exact (p_sh10 hp).1 | exact (p_sh4 hp).1) rfl (by decide) rfl (Nat.le_of_ble_eq_true rfl) (evo (by have z := k_fp_pairs (L := L) (xs := xs) (d := d + 2) (τ := τ) hp e0 hI hk eN hS20; rw [if_pos ha] at z; exact z)) ?_
            refine e_5 rfl rfl ?_
            refine e_2 rfl rfl ?_
            refine e_30 rfl (fun h3 => ?_) (fun h3 => ?_)
            · exact absurd h3 (by decide)
            · refine e_4 rfl rfl ?_
              refine e_2 rfl rfl ?_
              refine e_v1 rfl (by first | exact p_0 hp | exact (p_ro hp (by omega)).1 | exact (p_sh10 hp).1 | exact (p_sh4 hp).1) rfl (by decide) rfl (Nat.le_of_ble_eq_true rfl) (evo (k_find (f := 3) (μ := SM μ 10 (allF g (ps_i μ (45 + 2 * k + 1)) S 0 σ0).2) hp (by decide) (by decide))) ?_
              exact e_ri rfl rfl (by first | (simp only [eq_true h1, eq_true h2, eq_false h3, if_true, eq_true hz, eq_true ho, eq_true ha, if_true, if_false, not_true_eq_false, not_false_eq_true, and_true, true_and, and_false, false_and, or_true, true_or, or_false, false_or, reduceIte]; done) | (simp only [eq_true h1, eq_true h2, eq_false h3, if_true, eq_true hz, eq_true ho, eq_true ha, if_true, if_false, not_true_eq_false, not_false_eq_true, and_true, true_and, and_false, false_and, or_true, true_or, or_false, false_or, reduceIte]; rfl) | rfl) (by first | (simp only [eq_true h1, eq_true h2, eq_false h3, if_true, eq_true hz, eq_true ho, eq_true ha, if_true, if_false, not_true_eq_false, not_false_eq_true, and_true, true_and, and_false, false_and, or_true, true_or, or_false, false_or, reduceIte]; done) | (simp only [eq_true h1, eq_true h2, eq_false h3, if_true, eq_true hz, eq_true ho, eq_true ha, if_true, if_false, not_true_eq_false, not_false_eq_true, and_true, true_and, and_false, false_and, or_true, true_or, or_false, false_or, reduceIte]; rfl) | rfl)
          · refine e_0 rfl ?_
            exact e_ri rfl rfl (by first | (simp only [eq_true h1, eq_false h2, if_true, eq_true hz, eq_true ho, eq_true ha, if_true, if_false, not_true_eq_false, not_false_eq_true, and_true, true_and, and_false, false_and, or_true, true_or, or_false, false_or, reduceIte]; done) | (simp only [eq_true h1, eq_false h2, if_true, eq_true hz, eq_true ho, eq_true ha, if_true, if_false, not_true_eq_false, not_false_eq_true, and_true, true_and, and_false, false_and, or_true, true_or, or_false, false_or, reduceIte]; rfl) | rfl) (by first | (simp only [eq_true h1, eq_false h2, if_true, eq_true hz, eq_true ho, eq_true ha, if_true, if_false, not_true_eq_false, not_false_eq_true, and_true, true_and, and_false, false_and, or_true, true_or, or_false, false_or, reduceIte]; done) | (simp only [eq_true h1, eq_false h2, if_true, eq_true hz, eq_true ho, eq_true ha, if_true, if_false, not_true_eq_false, not_false_eq_true, and_true, true_and, and_false, false_and, or_true, true_or, or_false, false_or, reduceIte]; rfl) | rfl)
      · have hS20 : S ≤ 20 := by omega
        refine ⟨Nat.le_of_ble_eq_true rfl, ?_⟩
        refine e_4 rfl rfl ?_
        refine e_gr rfl (p_0 hp) rfl (p_f4 hp) ?_
        refine e_2 rfl rfl ?_
        refine e_v1 rfl (by first | exact p_0 hp | exact (p_ro hp (by omega)).1 | exact (p_sh10 hp).1 | exact (p_sh4 hp).1) rfl (by decide) rfl (Nat.le_of_ble_eq_true rfl) (k4_has hp e0 _) ?_
        refine e_30b rfl (fun h1 => ?_) (fun h1 => ?_)
        · refine e_0 rfl ?_
          exact e_ri rfl rfl (by first | (simp only [eq_false h1, if_true, eq_true hz, eq_true ho, eq_false ha, if_true, if_false, not_true_eq_false, not_false_eq_true, and_true, true_and, and_false, false_and, or_true, true_or, or_false, false_or, reduceIte]; done) | (simp only [eq_false h1, if_true, eq_true hz, eq_true ho, eq_false ha, if_true, if_false, not_true_eq_false, not_false_eq_true, and_true, true_and, and_false, false_and, or_true, true_or, or_false, false_or, reduceIte]; rfl) | rfl) (by first | (simp only [eq_false h1, if_true, eq_true hz, eq_true ho, eq_false ha, if_true, if_false, not_true_eq_false, not_false_eq_true, and_true, true_and, and_false, false_and, or_true, true_or, or_false, false_or, reduceIte]; done) | (simp only [eq_false h1, if_true, eq_true hz, eq_true ho, eq_false ha, if_true, if_false, not_true_eq_false, not_false_eq_true, and_true, true_and, and_false, false_and, or_true, true_or, or_false, false_or, reduceIte]; rfl) | rfl)
        · refine e_2 rfl rfl ?_
          refine e_s1 rfl rfl rfl (Nat.le_of_ble_eq_true rfl) (k_isRow _) ?_
          refine e_31b rfl (fun h2 => ?_) (fun h2 => ?_)
          · obtain ⟨rfl, hxg⟩ := hx h1
            obtain ⟨rfl, hk⟩ := hr h2
            refine e_4 rfl rfl ?_
            refine e_4 rfl rfl ?_
            refine e_gr rfl (p_0 hp) rfl (p_f0 hp) ?_
            refine e_2 rfl rfl ?_
            refine e_gaq (i := k) rfl (p_1 hp) (by decide) (by decide) (by first | rfl | (simp only [← nI_add, ← pk_mul]; rfl) | (simp only [nI_add, pk_mul, nI_1]; done)) (by omega) (by decide) (p_r1 hp (by omega)) ?_
            refine e_v1 rfl (by first | exact p_0 hp | exact (p_ro hp (by omega)).1 | exact (p_sh10 hp).1 | exact (p_sh4 hp).1) rfl (by decide) rfl (Nat.le_of_ble_eq_true rfl) (evo (by have z := k_fp_pairs (L := L) (xs := xs) (d := d + 2) (τ := τ) hp e0 hI hk eN hS20; rw [if_neg ha] at z; exact z)) ?_
            refine e_5 rfl rfl ?_
            refine e_2 rfl rfl ?_
            refine e_30 rfl (fun h3 => ?_) (fun h3 => ?_)
            · refine e_0 rfl ?_
              refine e_5 rfl rfl ?_
              refine e_0 rfl ?_
              refine e_5 rfl rfl ?_
              refine e_lv [0, 1, 3, 4, 5] rfl rfl ?_
              simp only [eq_true h1, eq_true h2, eq_true h3, if_true, eq_true hz, eq_true ho, eq_false ha, if_true, if_false, not_true_eq_false, not_false_eq_true, and_true, true_and, and_false, false_and, or_true, true_or, or_false, false_or, reduceIte]
              exact k_kinds_loop (L := L) (xs := xs) (d := d + 1) hp e0 hI hk eN hS20 hxg (τ := (allF g (ps_i μ (45 + 2 * k + 1)) S 0 σ0).2) 6 0 (by omega)
            · exact absurd rfl h3
          · refine e_0 rfl ?_
            exact e_ri rfl rfl (by first | (simp only [eq_true h1, eq_false h2, if_true, eq_true hz, eq_true ho, eq_false ha, if_true, if_false, not_true_eq_false, not_false_eq_true, and_true, true_and, and_false, false_and, or_true, true_or, or_false, false_or, reduceIte]; done) | (simp only [eq_true h1, eq_false h2, if_true, eq_true hz, eq_true ho, eq_false ha, if_true, if_false, not_true_eq_false, not_false_eq_true, and_true, true_and, and_false, false_and, or_true, true_or, or_false, false_or, reduceIte]; rfl) | rfl) (by first | (simp only [eq_true h1, eq_false h2, if_true, eq_true hz, eq_true ho, eq_false ha, if_true, if_false, not_true_eq_false, not_false_eq_true, and_true, true_and, and_false, false_and, or_true, true_or, or_false, false_or, reduceIte]; done) | (simp only [eq_true h1, eq_false h2, if_true, eq_true hz, eq_true ho, eq_false ha, if_true, if_false, not_true_eq_false, not_false_eq_true, and_true, true_and, and_false, false_and, or_true, true_or, or_false, false_or, reduceIte]; rfl) | rfl)
    · skip
      refine ⟨Nat.le_of_ble_eq_true rfl, ?_⟩
      refine e_4 rfl rfl ?_
      refine e_gr rfl (p_0 hp) rfl (p_f4 hp) ?_
      refine e_2 rfl rfl ?_
      refine e_v1 rfl (by first | exact p_0 hp | exact (p_ro hp (by omega)).1 | exact (p_sh10 hp).1 | exact (p_sh4 hp).1) rfl (by decide) rfl (Nat.le_of_ble_eq_true rfl) (k4_has hp e0 _) ?_
      refine e_30b rfl (fun h1 => ?_) (fun h1 => ?_)
      · refine e_0 rfl ?_
        exact e_ri rfl rfl (by first | (simp only [eq_false h1, if_true, eq_true hz, eq_false ho, if_true, if_false, not_true_eq_false, not_false_eq_true, and_true, true_and, and_false, false_and, or_true, true_or, or_false, false_or, reduceIte]; done) | (simp only [eq_false h1, if_true, eq_true hz, eq_false ho, if_true, if_false, not_true_eq_false, not_false_eq_true, and_true, true_and, and_false, false_and, or_true, true_or, or_false, false_or, reduceIte]; rfl) | rfl) (by first | (simp only [eq_false h1, if_true, eq_true hz, eq_false ho, if_true, if_false, not_true_eq_false, not_false_eq_true, and_true, true_and, and_false, false_and, or_true, true_or, or_false, false_or, reduceIte]; done) | (simp only [eq_false h1, if_true, eq_true hz, eq_false ho, if_true, if_false, not_true_eq_false, not_false_eq_true, and_true, true_and, and_false, false_and, or_true, true_or, or_false, false_or, reduceIte]; rfl) | rfl)
      · refine e_2 rfl rfl ?_
        refine e_s1 rfl rfl rfl (Nat.le_of_ble_eq_true rfl) (k_isRow _) ?_
        refine e_31b rfl (fun h2 => ?_) (fun h2 => ?_)
        · obtain ⟨rfl, hxg⟩ := hx h1
          obtain ⟨rfl, hk⟩ := hr h2
          refine e_4 rfl rfl ?_
          refine e_4 rfl rfl ?_
          refine e_gr rfl (p_0 hp) rfl (p_f0 hp) ?_
          refine e_2 rfl rfl ?_
          refine e_gaq (i := k) rfl (p_1 hp) (by decide) (by decide) (by first | rfl | (simp only [← nI_add, ← pk_mul]; rfl) | (simp only [nI_add, pk_mul, nI_1]; done)) (by omega) (by decide) (p_r1 hp (by omega)) ?_
          refine e_v1 rfl (by first | exact p_0 hp | exact (p_ro hp (by omega)).1 | exact (p_sh10 hp).1 | exact (p_sh4 hp).1) rfl (by decide) rfl (Nat.le_of_ble_eq_true rfl) (evo (k_fp_odd hp e0 hI hk eN hN40 ho)) ?_
          refine e_5 rfl rfl ?_
          refine e_2 rfl rfl ?_
          refine e_30 rfl (fun h3 => ?_) (fun h3 => ?_)
          · exact absurd h3 (by decide)
          · refine e_4 rfl rfl ?_
            refine e_2 rfl rfl ?_
            refine e_v1 rfl (by first | exact p_0 hp | exact (p_ro hp (by omega)).1 | exact (p_sh10 hp).1 | exact (p_sh4 hp).1) rfl (by decide) rfl (Nat.le_of_ble_eq_true rfl) (evo (k_find (f := 5) (μ := SM μ 10 τ) hp (by decide) (by decide))) ?_
            exact e_ri rfl rfl (by first | (simp only [eq_true h1, eq_true h2, eq_false h3, if_true, eq_true hz, eq_false ho, if_true, if_false, not_true_eq_false, not_false_eq_true, and_true, true_and, and_false, false_and, or_true, true_or, or_false, false_or, reduceIte]; done) | (simp only [eq_true h1, eq_true h2, eq_false h3, if_true, eq_true hz, eq_false ho, if_true, if_false, not_true_eq_false, not_false_eq_true, and_true, true_and, and_false, false_and, or_true, true_or, or_false, false_or, reduceIte]; rfl) | rfl) (by first | (simp only [eq_true h1, eq_true h2, eq_false h3, if_true, eq_true hz, eq_false ho, if_true, if_false, not_true_eq_false, not_false_eq_true, and_true, true_and, and_false, false_and, or_true, true_or, or_false, false_or, reduceIte]; done) | (simp only [eq_true h1, eq_true h2, eq_false h3, if_true, eq_true hz, eq_false ho, if_true, if_false, not_true_eq_false, not_false_eq_true, and_true, true_and, and_false, false_and, or_true, true_or, or_false, false_or, reduceIte]; rfl) | rfl)
        · refine e_0 rfl ?_
          exact e_ri rfl rfl (by first | (simp only [eq_true h1, eq_false h2, if_true, eq_true hz, eq_false ho, if_true, if_false, not_true_eq_false, not_false_eq_true, and_true, true_and, and_false, false_and, or_true, true_or, or_false, false_or, reduceIte]; done) | (simp only [eq_true h1, eq_false h2, if_true, eq_true hz, eq_false ho, if_true, if_false, not_true_eq_false, not_false_eq_true, and_true, true_and, and_false, false_and, or_true, true_or, or_false, false_or, reduceIte]; rfl) | rfl) (by first | (simp only [eq_true h1, eq_false h2, if_true, eq_true hz, eq_false ho, if_true, if_false, not_true_eq_false, not_false_eq_true, and_true, true_and, and_false, false_and, or_true, true_or, or_false, false_or, reduceIte]; done) | (simp only [eq_true h1, eq_false h2, if_true, eq_true hz, eq_false ho, if_true, if_false, not_true_eq_false, not_false_eq_true, and_true, true_and, and_false, false_and, or_true, true_or, or_false, false_or, reduceIte]; rfl) | rfl)
  · skip
    refine ⟨Nat.le_of_ble_eq_true rfl, ?_⟩
    refine e_4 rfl rfl ?_
    refine e_gr rfl (p_0 hp) rfl (p_f4 hp) ?_
    refine e_2 rfl rfl ?_
    refine e_v1 rfl (by first | exact p_0 hp | exact (p_ro hp (by omega)).1 | exact (p_sh10 hp).1 | exact (p_sh4 hp).1) rfl (by decide) rfl (Nat.le_of_ble_eq_true rfl) (k4_has hp e0 _) ?_
    refine e_30b rfl (fun h1 => ?_) (fun h1 => ?_)
    · refine e_0 rfl ?_
      exact e_ri rfl rfl (by first | (simp only [eq_false h1, if_true, eq_false hz, if_true, if_false, not_true_eq_false, not_false_eq_true, and_true, true_and, and_false, false_and, or_true, true_or, or_false, false_or, reduceIte]; done) | (simp only [eq_false h1, if_true, eq_false hz, if_true, if_false, not_true_eq_false, not_false_eq_true, and_true, true_and, and_false, false_and, or_true, true_or, or_false, false_or, reduceIte]; rfl) | rfl) (by first | (simp only [eq_false h1, if_true, eq_false hz, if_true, if_false, not_true_eq_false, not_false_eq_true, and_true, true_and, and_false, false_and, or_true, true_or, or_false, false_or, reduceIte]; done) | (simp only [eq_false h1, if_true, eq_false hz, if_true, if_false, not_true_eq_false, not_false_eq_true, and_true, true_and, and_false, false_and, or_true, true_or, or_false, false_or, reduceIte]; rfl) | rfl)
    · refine e_2 rfl rfl ?_
      refine e_s1 rfl rfl rfl (Nat.le_of_ble_eq_true rfl) (k_isRow _) ?_
      refine e_31b rfl (fun h2 => ?_) (fun h2 => ?_)
      · obtain ⟨rfl, hxg⟩ := hx h1
        obtain ⟨rfl, hk⟩ := hr h2
        refine e_4 rfl rfl ?_
        refine e_4 rfl rfl ?_
        refine e_gr rfl (p_0 hp) rfl (p_f0 hp) ?_
        refine e_2 rfl rfl ?_
        refine e_gaq (i := k) rfl (p_1 hp) (by decide) (by decide) (by first | rfl | (simp only [← nI_add, ← pk_mul]; rfl) | (simp only [nI_add, pk_mul, nI_1]; done)) (by omega) (by decide) (p_r1 hp (by omega)) ?_
        refine e_v1 rfl (by first | exact p_0 hp | exact (p_ro hp (by omega)).1 | exact (p_sh10 hp).1 | exact (p_sh4 hp).1) rfl (by decide) rfl (Nat.le_of_ble_eq_true rfl) (evo (k_fp_no hp e0 hI hk hz)) ?_
        refine e_5 rfl rfl ?_
        refine e_2 rfl rfl ?_
        refine e_30 rfl (fun h3 => ?_) (fun h3 => ?_)
        · exact absurd h3 (by decide)
        · refine e_4 rfl rfl ?_
          refine e_2 rfl rfl ?_
          refine e_v1 rfl (by first | exact p_0 hp | exact (p_ro hp (by omega)).1 | exact (p_sh10 hp).1 | exact (p_sh4 hp).1) rfl (by decide) rfl (Nat.le_of_ble_eq_true rfl) (evo (k_find (f := 1) (μ := SM μ 10 τ) hp (by decide) (by decide))) ?_
          exact e_ri rfl rfl (by first | (simp only [eq_true h1, eq_true h2, eq_false h3, if_true, eq_false hz, if_true, if_false, not_true_eq_false, not_false_eq_true, and_true, true_and, and_false, false_and, or_true, true_or, or_false, false_or, reduceIte]; done) | (simp only [eq_true h1, eq_true h2, eq_false h3, if_true, eq_false hz, if_true, if_false, not_true_eq_false, not_false_eq_true, and_true, true_and, and_false, false_and, or_true, true_or, or_false, false_or, reduceIte]; rfl) | rfl) (by first | (simp only [eq_true h1, eq_true h2, eq_false h3, if_true, eq_false hz, if_true, if_false, not_true_eq_false, not_false_eq_true, and_true, true_and, and_false, false_and, or_true, true_or, or_false, false_or, reduceIte]; done) | (simp only [eq_true h1, eq_true h2, eq_false h3, if_true, eq_false hz, if_true, if_false, not_true_eq_false, not_false_eq_true, and_true, true_and, and_false, false_and, or_true, true_or, or_false, false_or, reduceIte]; rfl) | rfl)
      · refine e_0 rfl ?_
        exact e_ri rfl rfl (by first | (simp only [eq_true h1, eq_false h2, if_true, eq_false hz, if_true, if_false, not_true_eq_false, not_false_eq_true, and_true, true_and, and_false, false_and, or_true, true_or, or_false, false_or, reduceIte]; done) | (simp only [eq_true h1, eq_false h2, if_true, eq_false hz, if_true, if_false, not_true_eq_false, not_false_eq_true, and_true, true_and, and_false, false_and, or_true, true_or, or_false, false_or, reduceIte]; rfl) | rfl) (by first | (simp only [eq_true h1, eq_false h2, if_true, eq_false hz, if_true, if_false, not_true_eq_false, not_false_eq_true, and_true, true_and, and_false, false_and, or_true, true_or, or_false, false_or, reduceIte]; done) | (simp only [eq_true h1, eq_false h2, if_true, eq_false hz, if_true, if_false, not_true_eq_false, not_false_eq_true, and_true, true_and, and_false, false_and, or_true, true_or, or_false, false_or, reduceIte]; rfl) | rfl)
end KQ4
