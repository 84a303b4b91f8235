-- ===== the class: best, afloat, firsts; watch =====
section KQ8
variable {L : Nat} {xs : Nat → Int32} {D d : Nat} {μ : ps_M} {g N : Nat} {σ0 : Nat → Int32}
theorem kq_best_bad (hp : isPs μ) {n r : Int32} (hb : ¬ ((¬ n < 0 ∧ ¬ 4 < n) ∧ rowP r)) : evI (ps_XX L xs) (d + 2) j_X7_best [.ref 0, .int n, .int r] (μ) (-1, μ) := by
  refine ⟨Nat.le_of_ble_eq_true rfl, ?_⟩
  refine e_2 rfl rfl ?_
  refine e_32 rfl (fun h1 => ?_) (fun h1 => ?_)
  · refine e_0 rfl ?_
    exact e_ri rfl rfl (by rfl) (rfl)
  · refine e_2 rfl rfl ?_
    refine e_0 rfl ?_
    refine e_40 rfl (fun h2 => ?_) (fun h2 => ?_)
    · refine e_0 rfl ?_
      exact e_ri rfl rfl (by rfl) (rfl)
    · refine e_2 rfl rfl ?_
      refine e_s1 rfl rfl rfl (Nat.le_of_ble_eq_true rfl) (k_isRow _) ?_
      refine e_31b rfl (fun h3 => ?_) (fun h3 => ?_)
      · exact absurd ⟨⟨h1, h2⟩, h3⟩ hb
      · refine e_0 rfl ?_
        exact e_ri rfl rfl (by rfl) (rfl)
theorem kq_best_no (hp : isPs μ) (e0 : shG (ps_i μ) 4 = σ0) {n r : Int32} (hb : (¬ n < 0 ∧ ¬ 4 < n) ∧ rowP r) (h0 : σ0 8 = 0) : evI (ps_XX L xs) (d + 2) j_X7_best [.ref 0, .int n, .int r] (μ) (-4, μ) := by
  refine ⟨Nat.le_of_ble_eq_true rfl, ?_⟩
  refine e_2 rfl rfl ?_
  refine e_32 rfl (fun h1 => ?_) (fun h1 => ?_)
  · exact absurd h1 hb.1.1
  · refine e_2 rfl rfl ?_
    refine e_0 rfl ?_
    refine e_40 rfl (fun h2 => ?_) (fun h2 => ?_)
    · exact absurd h2 hb.1.2
    · refine e_2 rfl rfl ?_
      refine e_s1 rfl rfl rfl (Nat.le_of_ble_eq_true rfl) (k_isRow _) ?_
      refine e_31b rfl (fun h3 => ?_) (fun h3 => ?_)
      · refine e_4 rfl rfl ?_
        refine e_gr rfl (p_0 hp) rfl (p_f4 hp) ?_
        refine e_gi rfl (p_sh4 hp).1 rfl (by decide) ?_
        rw [show ps_i μ 4 8 = σ0 8 by rw [← e0]; rfl]
        refine e_31 rfl (fun h4 => ?_) (fun h4 => ?_)
        · exact absurd h0 h4
        · refine e_0 rfl ?_
          exact e_ri rfl rfl (by rfl) (rfl)
      · exact absurd hb.2 h3
theorem kq_afloat_bad (hp : isPs μ) {n : Int32} (hb : ¬ (¬ n < 0 ∧ n ≤ 4)) : evI (ps_XX L xs) (d + 2) j_X7_afloat [.ref 0, .int n] (μ) (-1, μ) := by
  refine ⟨Nat.le_of_ble_eq_true rfl, ?_⟩
  refine e_2 rfl rfl ?_
  refine e_32 rfl (fun h1 => ?_) (fun h1 => ?_)
  · refine e_0 rfl ?_
    exact e_ri rfl rfl (by rfl) (rfl)
  · refine e_2 rfl rfl ?_
    refine e_0 rfl ?_
    refine e_41 rfl (fun h2 => ?_) (fun h2 => ?_)
    · exact absurd ⟨h1, h2⟩ hb
    · refine e_0 rfl ?_
      exact e_ri rfl rfl (by rfl) (rfl)
theorem kq_afloat_no (hp : isPs μ) (e0 : shG (ps_i μ) 4 = σ0) {n : Int32} (hb : ¬ n < 0 ∧ n ≤ 4) (h0 : σ0 8 = 0) : evI (ps_XX L xs) (d + 2) j_X7_afloat [.ref 0, .int n] (μ) (-4, μ) := by
  refine ⟨Nat.le_of_ble_eq_true rfl, ?_⟩
  refine e_2 rfl rfl ?_
  refine e_32 rfl (fun h1 => ?_) (fun h1 => ?_)
  · exact absurd h1 hb.1
  · refine e_2 rfl rfl ?_
    refine e_0 rfl ?_
    refine e_41 rfl (fun h2 => ?_) (fun h2 => ?_)
    · refine e_4 rfl rfl ?_
      refine e_gr rfl (p_0 hp) rfl (p_f4 hp) ?_
      refine e_gi rfl (p_sh4 hp).1 rfl (by decide) ?_
      rw [show ps_i μ 4 8 = σ0 8 by rw [← e0]; rfl]
      refine e_31 rfl (fun h3 => ?_) (fun h3 => ?_)
      · exact absurd h0 h3
      · refine e_0 rfl ?_
        exact e_ri rfl rfl (by rfl) (rfl)
    · exact absurd hb.2 h2
theorem kq_firsts_bad (hp : isPs μ) {n : Int32} (hb : ¬ (¬ n < 1 ∧ n ≤ 4)) : evI (ps_XX L xs) (d + 2) j_X7_firsts [.ref 0, .int n] (μ) (-1, μ) := by
  refine ⟨Nat.le_of_ble_eq_true rfl, ?_⟩
  refine e_2 rfl rfl ?_
  refine e_0 rfl ?_
  refine e_38 rfl (fun h1 => ?_) (fun h1 => ?_)
  · refine e_0 rfl ?_
    exact e_ri rfl rfl (by rfl) (rfl)
  · refine e_2 rfl rfl ?_
    refine e_0 rfl ?_
    refine e_41 rfl (fun h2 => ?_) (fun h2 => ?_)
    · exact absurd ⟨h1, h2⟩ hb
    · refine e_0 rfl ?_
      exact e_ri rfl rfl (by rfl) (rfl)
theorem kq_firsts_no (hp : isPs μ) (e0 : shG (ps_i μ) 4 = σ0) {n : Int32} (hb : ¬ n < 1 ∧ n ≤ 4) (h0 : σ0 8 = 0) : evI (ps_XX L xs) (d + 2) j_X7_firsts [.ref 0, .int n] (μ) (-4, μ) := by
  refine ⟨Nat.le_of_ble_eq_true rfl, ?_⟩
  refine e_2 rfl rfl ?_
  refine e_0 rfl ?_
  refine e_38 rfl (fun h1 => ?_) (fun h1 => ?_)
  · exact absurd h1 hb.1
  · refine e_2 rfl rfl ?_
    refine e_0 rfl ?_
    refine e_41 rfl (fun h2 => ?_) (fun h2 => ?_)
    · refine e_4 rfl rfl ?_
      refine e_gr rfl (p_0 hp) rfl (p_f4 hp) ?_
      refine e_gi rfl (p_sh4 hp).1 rfl (by decide) ?_
      rw [show ps_i μ 4 8 = σ0 8 by rw [← e0]; rfl]
      refine e_31 rfl (fun h3 => ?_) (fun h3 => ?_)
      · exact absurd h0 h3
      · refine e_0 rfl ?_
        exact e_ri rfl rfl (by rfl) (rfl)
    · exact absurd hb.2 h2
theorem kq_best0_ok (hp : isPs μ) (e0 : shG (ps_i μ) 4 = σ0) (h0 : ¬ σ0 8 = 0) {e : Nat} {ν : ps_M} (y1 : ps_Ev (ps_XX L xs) (e + 4) j_X2_start [.ref 19, .ref 4, .int (nI N)] μ none ν) (y2 : SEf μ ν) {A : accT} (s2 : ps_i ν 19 2 = A.1) (s3 : ps_i ν 19 3 = A.2.1) (s1 : ps_i ν 19 1 = A.2.2.1) (hN : N ≤ 4) {r : Int32} (hm : A.1 = 0) (hb : (¬ nI N < 0 ∧ ¬ 4 < nI N) ∧ rowP r) : evI (ps_XX L xs) (e + 4 + 1) j_X7_best [.ref 0, .int (nI N), .int r] μ (-9, ν) := by
  refine ⟨Nat.le_of_ble_eq_true rfl, ?_⟩
  refine e_2 rfl rfl ?_
  refine e_32 rfl (fun h1 => ?_) (fun h1 => ?_)
  · exact absurd h1 hb.1.1
  · refine e_2 rfl rfl ?_
    refine e_0 rfl ?_
    refine e_40 rfl (fun h2 => ?_) (fun h2 => ?_)
    · exact absurd h2 hb.1.2
    · refine e_2 rfl rfl ?_
      refine e_s1 rfl rfl rfl (Nat.le_of_ble_eq_true rfl) (k_isRow _) ?_
      refine e_31b rfl (fun h3 => ?_) (fun h3 => ?_)
      · refine e_4 rfl rfl ?_
        refine e_gr rfl (p_0 hp) rfl (p_f4 hp) ?_
        refine e_gi rfl (p_sh4 hp).1 rfl (by decide) ?_
        rw [show ps_i μ 4 8 = σ0 8 by rw [← e0]; rfl]
        refine e_31 rfl (fun h4 => ?_) (fun h4 => ?_)
        · refine e_4 rfl rfl ?_
          refine e_gr rfl (p_0 hp) rfl (p_f7 hp) ?_
          refine e_4 rfl rfl ?_
          refine e_gr rfl (p_0 hp) rfl (p_f4 hp) ?_
          refine e_2 rfl rfl ?_
          refine e_v2v rfl (by first | exact p_0 hp | exact p_19 hp | exact (p_ro hp (by omega)).1 | exact (p_sh4 hp).1) rfl (by decide) rfl (Nat.le_of_ble_eq_true rfl) (y1) ?_
          have hp := hp.se y2
          refine e_4 rfl rfl ?_
          refine e_gr rfl (p_0 hp) rfl (p_f7 hp) ?_
          refine e_gi rfl (p_19 hp) rfl (by decide) ?_
          rw [s2]
          refine e_31 rfl (fun h5 => ?_) (fun h5 => ?_)
          · exact absurd hm h5
          · refine e_0 rfl ?_
            exact e_ri rfl rfl (by rfl) (rfl)
        · exact absurd h4 h0
      · exact absurd hb.2 h3
theorem kq_best1_ok (hp : isPs μ) (e0 : shG (ps_i μ) 4 = σ0) (h0 : ¬ σ0 8 = 0) {e : Nat} {ν : ps_M} (y1 : ps_Ev (ps_XX L xs) (e + 4) j_X2_start [.ref 19, .ref 4, .int (nI N)] μ none ν) (y2 : SEf μ ν) {A : accT} (s2 : ps_i ν 19 2 = A.1) (s3 : ps_i ν 19 3 = A.2.1) (s1 : ps_i ν 19 1 = A.2.2.1) (hN : N ≤ 4) {k : Nat} (hk : k < 6) (hm : ¬ A.1 = 0) (hb : (¬ nI N < 0 ∧ ¬ 4 < nI N) ∧ rowP (nI k)) : evI (ps_XX L xs) (e + 4 + 1) j_X7_best [.ref 0, .int (nI N), .int (nI k)] μ (A.2.2.1, TK ν (45 + 2 * k) N (ps_i ν 20)) := by
  refine ⟨Nat.le_of_ble_eq_true rfl, ?_⟩
  refine e_2 rfl rfl ?_
  refine e_32 rfl (fun h1 => ?_) (fun h1 => ?_)
  · exact absurd h1 hb.1.1
  · refine e_2 rfl rfl ?_
    refine e_0 rfl ?_
    refine e_40 rfl (fun h2 => ?_) (fun h2 => ?_)
    · exact absurd h2 hb.1.2
    · refine e_2 rfl rfl ?_
      refine e_s1 rfl rfl rfl (Nat.le_of_ble_eq_true rfl) (k_isRow _) ?_
      refine e_31b rfl (fun h3 => ?_) (fun h3 => ?_)
      · refine e_4 rfl rfl ?_
        refine e_gr rfl (p_0 hp) rfl (p_f4 hp) ?_
        refine e_gi rfl (p_sh4 hp).1 rfl (by decide) ?_
        rw [show ps_i μ 4 8 = σ0 8 by rw [← e0]; rfl]
        refine e_31 rfl (fun h4 => ?_) (fun h4 => ?_)
        · refine e_4 rfl rfl ?_
          refine e_gr rfl (p_0 hp) rfl (p_f7 hp) ?_
          refine e_4 rfl rfl ?_
          refine e_gr rfl (p_0 hp) rfl (p_f4 hp) ?_
          refine e_2 rfl rfl ?_
          refine e_v2v rfl (by first | exact p_0 hp | exact p_19 hp | exact (p_ro hp (by omega)).1 | exact (p_sh4 hp).1) rfl (by decide) rfl (Nat.le_of_ble_eq_true rfl) (y1) ?_
          have hp := hp.se y2
          refine e_4 rfl rfl ?_
          refine e_gr rfl (p_0 hp) rfl (p_f7 hp) ?_
          refine e_gi rfl (p_19 hp) rfl (by decide) ?_
          rw [s2]
          refine e_31 rfl (fun h5 => ?_) (fun h5 => ?_)
          · refine e_4 rfl rfl ?_
            refine e_gr rfl (p_0 hp) rfl (p_f0 hp) ?_
            refine e_2 rfl rfl ?_
            refine e_gaq (i := k) rfl (p_1 hp) (by decide) (by decide) (by first | rfl | (simp only [← nI_add, ← pk_mul]; rfl) | (simp only [nI_add, pk_mul, nI_1]; done)) (by omega) (by decide) (p_r1 hp (by omega)) ?_
            refine e_4 rfl rfl ?_
            refine e_gr rfl (p_0 hp) rfl (p_f7 hp) ?_
            refine e_gr rfl (p_19 hp) rfl (p_r19_0 hp) ?_
            refine e_2 rfl rfl ?_
            refine e_v2v rfl (by first | exact p_0 hp | exact p_19 hp | exact (p_ro hp (by omega)).1 | exact (p_sh4 hp).1) rfl (by decide) rfl (Nat.le_of_ble_eq_true rfl) (kr_take (p_ro hp hk) (p_20 hp) (by omega) hN (by omega)) ?_
            refine e_4 rfl rfl ?_
            refine e_gr rfl (p_0 hp) rfl (p_f7 hp) ?_
            refine e_gi rfl (p_19 hp) rfl (by decide) ?_
            rw [show ps_i (TK ν (45 + 2 * k) N (ps_i ν 20)) 19 1 = ps_i ν 19 1 from (if_neg (by omega)).trans (if_neg (by omega)), s1]
            exact e_ri rfl rfl (by rfl) (rfl)
          · exact absurd h5 hm
        · exact absurd h4 h0
      · exact absurd hb.2 h3
theorem kq_afloat_ok (hp : isPs μ) (e0 : shG (ps_i μ) 4 = σ0) (h0 : ¬ σ0 8 = 0) {e : Nat} {ν : ps_M} (y1 : ps_Ev (ps_XX L xs) (e + 2) j_X2_start [.ref 19, .ref 4, .int (nI N)] μ none ν) (y2 : SEf μ ν) {A : accT} (s2 : ps_i ν 19 2 = A.1) (s3 : ps_i ν 19 3 = A.2.1) (s1 : ps_i ν 19 1 = A.2.2.1) (hN : N ≤ 4) {c : Nat} (hc : c ≤ 10000) (em : A.1 = nI c) (hb : ¬ nI N < 0 ∧ nI N ≤ 4) : evI (ps_XX L xs) (e + 2 + 1) j_X7_afloat [.ref 0, .int (nI N)] μ (1, ps_sL (ps_sL ν 0 12 (lN c)) 0 13 1) := by
  refine ⟨Nat.le_of_ble_eq_true rfl, ?_⟩
  refine e_2 rfl rfl ?_
  refine e_32 rfl (fun h1 => ?_) (fun h1 => ?_)
  · exact absurd h1 hb.1
  · refine e_2 rfl rfl ?_
    refine e_0 rfl ?_
    refine e_41 rfl (fun h2 => ?_) (fun h2 => ?_)
    · refine e_4 rfl rfl ?_
      refine e_gr rfl (p_0 hp) rfl (p_f4 hp) ?_
      refine e_gi rfl (p_sh4 hp).1 rfl (by decide) ?_
      rw [show ps_i μ 4 8 = σ0 8 by rw [← e0]; rfl]
      refine e_31 rfl (fun h3 => ?_) (fun h3 => ?_)
      · refine e_4 rfl rfl ?_
        refine e_gr rfl (p_0 hp) rfl (p_f7 hp) ?_
        refine e_4 rfl rfl ?_
        refine e_gr rfl (p_0 hp) rfl (p_f4 hp) ?_
        refine e_2 rfl rfl ?_
        refine e_v2v rfl (by first | exact p_0 hp | exact p_19 hp | exact (p_ro hp (by omega)).1 | exact (p_sh4 hp).1) rfl (by decide) rfl (Nat.le_of_ble_eq_true rfl) (y1) ?_
        have hp := hp.se y2
        refine e_4 rfl rfl ?_
        refine e_4 rfl rfl ?_
        refine e_gr rfl (p_0 hp) rfl (p_f7 hp) ?_
        refine e_gi rfl (p_19 hp) rfl (by decide) ?_
        rw [s2, em]
        refine e_25 rfl ?_
        rw [nI_l (by omega)]
        refine e_1 rfl ?_
        refine e_v2v rfl (by first | exact p_0 hp | exact p_19 hp | exact (p_ro hp (by omega)).1 | exact (p_sh4 hp).1) rfl (by decide) rfl (Nat.le_of_ble_eq_true rfl) (by have z := k_tellChance (L := L) (xs := xs) (d := e) (μ := ν) hp (A := c) (B := 1) (by omega) (by omega) (by omega); rw [Nat.gcd_one_right, Nat.div_one] at z; exact z) ?_
        refine e_0 rfl ?_
        exact e_ri rfl rfl (by rfl) (rfl)
      · exact absurd h3 h0
    · exact absurd hb.2 h2
theorem kq_firsts_ok (hp : isPs μ) (e0 : shG (ps_i μ) 4 = σ0) (h0 : ¬ σ0 8 = 0) {e : Nat} {ν : ps_M} (y1 : ps_Ev (ps_XX L xs) e j_X2_start [.ref 19, .ref 4, .int (nI N)] μ none ν) (y2 : SEf μ ν) {A : accT} (s2 : ps_i ν 19 2 = A.1) (s3 : ps_i ν 19 3 = A.2.1) (s1 : ps_i ν 19 1 = A.2.2.1) (hN : N ≤ 4)  (hb : ¬ nI N < 1 ∧ nI N ≤ 4) : evI (ps_XX L xs) (e + 1) j_X7_firsts [.ref 0, .int (nI N)] μ (A.2.1, ν) := by
  refine ⟨Nat.le_of_ble_eq_true rfl, ?_⟩
  refine e_2 rfl rfl ?_
  refine e_0 rfl ?_
  refine e_38 rfl (fun h1 => ?_) (fun h1 => ?_)
  · exact absurd h1 hb.1
  · refine e_2 rfl rfl ?_
    refine e_0 rfl ?_
    refine e_41 rfl (fun h2 => ?_) (fun h2 => ?_)
    · refine e_4 rfl rfl ?_
      refine e_gr rfl (p_0 hp) rfl (p_f4 hp) ?_
      refine e_gi rfl (p_sh4 hp).1 rfl (by decide) ?_
      rw [show ps_i μ 4 8 = σ0 8 by rw [← e0]; rfl]
      refine e_31 rfl (fun h3 => ?_) (fun h3 => ?_)
      · refine e_4 rfl rfl ?_
        refine e_gr rfl (p_0 hp) rfl (p_f7 hp) ?_
        refine e_4 rfl rfl ?_
        refine e_gr rfl (p_0 hp) rfl (p_f4 hp) ?_
        refine e_2 rfl rfl ?_
        refine e_v2v rfl (by first | exact p_0 hp | exact p_19 hp | exact (p_ro hp (by omega)).1 | exact (p_sh4 hp).1) rfl (by decide) rfl (Nat.le_of_ble_eq_true rfl) (y1) ?_
        have hp := hp.se y2
        refine e_4 rfl rfl ?_
        refine e_gr rfl (p_0 hp) rfl (p_f7 hp) ?_
        refine e_gi rfl (p_19 hp) rfl (by decide) ?_
        rw [s3]
        exact e_ri rfl rfl (by rfl) (rfl)
      · exact absurd h3 h0
    · exact absurd hb.2 h2
end KQ8
