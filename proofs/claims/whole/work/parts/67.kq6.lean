-- ===== the class: lots; kept, gone on =====
def ushF (x k : Int32) : Int32 := (x.toUInt32 >>> (k.toUInt32 &&& Int32.toUInt32 31)).toInt32
def bc1 (x : Int32) : Int32 := x - (ushF x 1 &&& 1431655765)
def bc2 (x : Int32) : Int32 := (x &&& 858993459) + (ushF x 2 &&& 858993459)
def bc3 (x : Int32) : Int32 := (x + ushF x 4) &&& 252645135
def bc4 (x : Int32) : Int32 := x + ushF x 8
def bc5 (x : Int32) : Int32 := x + ushF x 16
theorem bc_ok : ∀ s, s < 1024 → (bc5 (bc4 (bc3 (bc2 (bc1 (nI s)))))) &&& 63 = nI (popN s 10) := by decide +kernel
/-- lots: how many hours, and the ship then -/
def lotE (g : Nat) : Nat → Nat → (Nat → Int32) → Nat × (Nat → Int32)
  | 0, _, σ => (0, σ)
  | n + 1, l, σ => if overF σ then (0, σ) else ((lotE g n (lotN l) (passF g σ (nI (drawN σ (lotN l))))).1 + 1, (lotE g n (lotN l) (passF g σ (nI (drawN σ (lotN l))))).2)
def lotK (g : Nat) : Nat → Nat → ps_M → (Nat → Int32) → ps_M
  | 0, _, μ, σ => SM μ 4 σ
  | n + 1, l, μ, σ => if overF σ then SM μ 4 σ else lotK g n (lotN l) (VP μ 8 (σ 5).toNatClampNeg σ) (passF g σ (nI (drawN σ (lotN l))))
theorem cp_off {μ : ps_M} {k0 sp k1 dp n a i : Nat} (h : a ≠ k1) : ps_i (ps_cp μ k0 sp k1 dp n) a i = ps_i μ a i := if_neg h
section KQ6
variable {L : Nat} {xs : Nat → Int32} {d : Nat} {μ : ps_M} {σ : Nat → Int32} {g : Nat}
theorem k_bits {s : Nat} (hs : s < 1024) : ps_Ev (ps_XX L xs) (d + 1) j_J6_bitCount_0f7a4 [.int (nI s)] μ (some (.int (nI (popN s 10)))) μ := by
  refine ⟨Nat.le_of_ble_eq_true rfl, ?_⟩
  refine e_2 rfl rfl ?_
  refine e_2 rfl rfl ?_
  refine e_0 rfl ?_
  refine e_16 rfl ?_
  refine e_0 rfl ?_
  refine e_12 rfl ?_
  refine e_10 rfl ?_
  refine e_5 rfl rfl ?_
  refine e_2 rfl rfl ?_
  refine e_0 rfl ?_
  refine e_12 rfl ?_
  refine e_2 rfl rfl ?_
  refine e_0 rfl ?_
  refine e_16 rfl ?_
  refine e_0 rfl ?_
  refine e_12 rfl ?_
  refine e_9 rfl ?_
  refine e_5 rfl rfl ?_
  refine e_2 rfl rfl ?_
  refine e_2 rfl rfl ?_
  refine e_0 rfl ?_
  refine e_16 rfl ?_
  refine e_9 rfl ?_
  refine e_0 rfl ?_
  refine e_12 rfl ?_
  refine e_5 rfl rfl ?_
  refine e_2 rfl rfl ?_
  refine e_2 rfl rfl ?_
  refine e_0 rfl ?_
  refine e_16 rfl ?_
  refine e_9 rfl ?_
  refine e_5 rfl rfl ?_
  refine e_2 rfl rfl ?_
  refine e_2 rfl rfl ?_
  refine e_0 rfl ?_
  refine e_16 rfl ?_
  refine e_9 rfl ?_
  refine e_5 rfl rfl ?_
  refine e_2 rfl rfl ?_
  refine e_0 rfl ?_
  refine e_12 rfl ?_
  exact e_ri rfl rfl (by exact bc_ok s hs) (rfl)
theorem k_draw_loop {s : Nat} (hs : s < 1024) {z : Int32} {y : Int64} : ∀ (f k l : Nat), k + f = 10 → l < 2 ^ 31 → l < popR s f k → ps_To (ps_XX L xs) (ps_Ev (ps_XX L xs) d) j_X7_drawAct (ps_rt j_X7_drawAct (some (.int (nI (nthN s f k l)))) μ) (23, [(5, .int (nI k)), (4, .int (nI l)), (3, .int z), (0, .int (nI s)), (1, .long y)], [], μ) := by
  intro f
  induction f with
  | zero => exact fun k l _ _ h => absurd h (by unfold popR; omega)
  | succ f ih =>
    intro k l hk hl31 hl
    unfold popR at hl
    refine e_2 rfl rfl ?_
    refine e_0 rfl ?_
    refine e_39 rfl (fun h1 => ?_) (fun h1 => ?_)
    · exact absurd (show nI 10 ≤ nI k from h1) (nI_ge (by omega) (by omega))
    · refine e_2 rfl rfl ?_
      refine e_2 rfl rfl ?_
      refine e_15 rfl ?_
      refine e_0 rfl ?_
      refine e_12 rfl ?_
      rw [b_sh (s := s) (by omega) (by omega)]
      refine e_30 rfl (fun h2 => ?_) (fun h2 => ?_)
      · refine e_8 rfl rfl rfl ?_
        refine e_42 rfl ?_
        refine e_lv [0, 1, 2, 3, 4] rfl rfl ?_
        have hb0 : ¬ bitN s k = 1 := fun q => absurd ((congrArg nI q).symm.trans h2) (by decide)
        unfold nthN
        rw [if_neg hb0, nI_1]
        exact ih (k + 1) l (by omega) hl31 (by have := (bit_01 s k).resolve_right hb0; omega)
      · have hb1 : bitN s k = 1 := (bit_01 s k).resolve_left (fun q => h2 (congrArg nI q))
        refine e_2 rfl rfl ?_
        refine e_31 rfl (fun h3 => ?_) (fun h3 => ?_)
        · refine e_8 rfl rfl rfl ?_
          refine e_8 rfl rfl rfl ?_
          refine e_42 rfl ?_
          refine e_lv [0, 1, 2, 3, 4] rfl rfl ?_
          have hl0 : ¬ l = 0 := fun q => h3 (by rw [q]; rfl)
          unfold nthN
          rw [if_pos hb1, if_neg hl0, nI_1]
          obtain ⟨l, rfl⟩ : ∃ q, l = q + 1 := ⟨l - 1, by omega⟩
          rw [pk_m1, Nat.add_sub_cancel]
          exact ih (k + 1) l (by omega) (by omega) (by omega)
        · refine e_2 rfl rfl ?_
          exact e_ri rfl rfl (by unfold nthN; rw [if_pos hb1, if_pos ((nI_eq (b := 0) hl31 (by omega)).mp h3)]) (rfl)
theorem k_draw {s l : Nat} (hs : s < 1024) (hp0 : 0 < popN s 10) (hl : l < 2 ^ 31) : ps_Ev (ps_XX L xs) (d + 2) j_X7_drawAct [.int (nI s), .long (lN l)] μ (some (.int (nI (nthN s 10 0 (l % popN s 10))))) μ := by
  refine ⟨Nat.le_of_ble_eq_true rfl, ?_⟩
  have hpl := pop_le s 10
  refine e_2 rfl rfl ?_
  refine e_s1 rfl rfl rfl (Nat.le_of_ble_eq_true rfl) (k_bits hs) ?_
  refine e_5 rfl rfl ?_
  refine e_2 rfl rfl ?_
  refine e_35 rfl (fun h1 => ?_) (fun h1 => ?_)
  · exact absurd h1 (nI_nle hp0 (by omega))
  · refine e_3 rfl rfl ?_
    refine e_2 rfl rfl ?_
    refine e_25 rfl ?_
    rw [nI_l (by omega)]
    refine e_23 rfl (by exact fun z => absurd ((pk_lEQ (b := 0) (by omega) (by omega)).mp z) (by omega)) ?_
    rw [pk_lRem (by omega) hp0 (by omega)]
    refine e_26 rfl ?_
    rw [lN_i]
    refine e_42 rfl ?_
    refine e_5 rfl rfl ?_
    refine e_0 rfl ?_
    refine e_5 rfl rfl ?_
    refine e_lv [0, 1, 2, 3, 4] rfl rfl ?_
    have hm := Nat.mod_lt l hp0
    exact k_draw_loop hs 10 0 (l % popN s 10) (by omega) (by omega) (by rw [pop_RN]; exact hm)
theorem k_lots_loop {N : Nat} (hN : N ≤ 20) (z c : Int32) : ∀ (n i : Nat) (l : Nat) (μ : ps_M) (σ : Nat → Int32), i + n = N → isPs μ → shI g σ → 0 < σ 8 → l < 2147483647 → ps_To (ps_XX L xs) (ps_Ev (ps_XX L xs) (d + 5)) j_X7_lots (ps_rt j_X7_lots (some (.int ((lotE g n l σ).2 5 - c))) (lotK g n l μ σ)) (55, [(6, .int (nI i)), (4, .long (lN l)), (3, .int (c)), (0, .ref (0)), (1, .int (nI N)), (2, .int (z))], [], SM μ 4 σ) := by
  intro n
  induction n with
  | zero =>
    intro i l μ σ hi hp hI h0 hl
    obtain rfl : i = N := by omega
    refine e_2 rfl rfl ?_
    refine e_2 rfl rfl ?_
    refine e_39 rfl (fun h1 => ?_) (fun h1 => ?_)
    · refine e_4 rfl rfl ?_
      refine e_gr rfl (p_0 hp) rfl (p_f4 hp) ?_
      refine s_gi (p_sh4 hp) rfl rfl (by decide) (by decide) ?_
      refine e_2 rfl rfl ?_
      refine e_10 rfl ?_
      exact e_ri rfl rfl (by first | rfl | (unfold lotE; rw [if_pos h2])) (by first | rfl | (unfold lotK; rw [if_pos h2]))
    · exact absurd (nI_le (Nat.le_refl _) (by omega)) h1
  | succ n ih =>
    intro i l μ σ hi hp hI h0 hl
    refine e_2 rfl rfl ?_
    refine e_2 rfl rfl ?_
    refine e_39 rfl (fun h1 => ?_) (fun h1 => ?_)
    · exact absurd h1 (nI_ge (by omega) (by omega))
    · refine e_4 rfl rfl ?_
      refine e_gr rfl (p_0 hp) rfl (p_f4 hp) ?_
      refine e_v0 rfl (by first | exact p_0 hp | exact (p_sh4 hp).1 | exact (p_now hp).1) rfl (by decide) rfl (Nat.le_of_ble_eq_true rfl) (ss_isOver (p_sh4 hp)) ?_
      refine e_31b rfl (fun h2 => ?_) (fun h2 => ?_)
      · refine e_4 rfl rfl ?_
        refine e_gr rfl (p_0 hp) rfl (p_f4 hp) ?_
        refine s_gi (p_sh4 hp) rfl rfl (by decide) (by decide) ?_
        refine e_2 rfl rfl ?_
        refine e_10 rfl ?_
        exact e_ri rfl rfl (by first | rfl | (unfold lotE; rw [if_pos h2])) (by first | rfl | (unfold lotK; rw [if_pos h2]))
      · have hpp := pop_pos h0 h2
        have hcan := (draw_ok h0 h2 (lotN l)).2
        obtain ⟨p, hh, hph, hh40, e5, e4⟩ := hI.2.2.2.2.2
        have hlt := over_lt h2
        rw [e5, e4] at hlt
        have hlt := (nI_ltI (by omega) (by omega)).mp hlt
        have hl2 : lotN l < 2147483647 := Nat.mod_lt _ (by omega)
        refine e_1 rfl ?_
        refine e_3 rfl rfl ?_
        refine e_21 rfl ?_
        rw [show (48271 : Int64) = lN 48271 from rfl, lN_mul]
        refine e_1 rfl ?_
        refine e_23 rfl (by first | decide | exact fun q => absurd ((pk_lEQ (b := 0) (by omega) (by omega)).mp q) (by omega)) ?_
        rw [show (2147483647 : Int64) = lN 2147483647 from rfl, pk_lRem (by omega) (by omega) (by omega), Nat.mul_comm 48271 l, show l * 48271 % 2147483647 = lotN l from rfl]
        refine e_6 rfl rfl ?_
        refine e_4 rfl rfl ?_
        refine e_gr rfl (p_0 hp) rfl (p_f2 hp) ?_
        refine e_4 rfl rfl ?_
        refine e_gr rfl (p_0 hp) rfl (p_f4 hp) ?_
        refine e_v0 rfl (by first | exact p_0 hp | exact (p_sh4 hp).1 | exact (p_now hp).1) rfl (by decide) rfl (Nat.le_of_ble_eq_true rfl) (ss_setOfActs (p_sh4 hp)) ?_
        rw [show bitsN (fun k => canF σ (nI k)) 10 = nI (canB σ) from canS_B]
        refine e_3 rfl rfl ?_
        refine e_s2 rfl rfl rfl (Nat.le_of_ble_eq_true rfl) (k_draw canB_lt hpp (by omega)) ?_
        rw [show nthN (canB σ) 10 0 (lotN l % popN (canB σ) 10) = drawN σ (lotN l) from rfl]
        refine e_v1v rfl (by first | exact p_0 hp | exact (p_sh4 hp).1 | exact (p_now hp).1) rfl (by decide) rfl (Nat.le_of_ble_eq_true rfl) (k_vpass hp hI.1 hI.2.2.1 e5 (by omega) _) ?_
        refine e_8 rfl rfl rfl ?_
        refine e_42 rfl ?_
        refine e_lv [0, 1, 2, 3, 4, 5] rfl rfl ?_
        show ps_To _ _ _ _ (55, [(6, .int _), (4, .long _), (3, .int _), (0, .ref _), (1, .int _), (2, .int _)], [], _)
        have h := ih (i + 1) (lotN l) (VP μ 8 p σ) (passF g σ (nI (drawN σ (lotN l)))) (by omega) (isPs.wI hp) (shI_pass hI hcan.2.2 (over_lt h2)) (by rw [passF_8]; exact h0) hl2
        have ep : (σ 5).toNatClampNeg = p := by rw [e5]; exact nI_clamp (by omega)
        unfold lotE lotK
        rw [if_neg h2, if_neg h2, ep, nI_1]
        exact h
theorem kq_lots (hp : isPs μ) (hI : shI g σ) {n seed : Int32} {N l : Nat} (hn : ¬ n < 1 ∧ ¬ 20 < n → n = nI N ∧ N ≤ 20) (hl : ¬ seed < 1 ∧ lg_cmp seed.toInt64 2147483647 < 0 → seed = nI l ∧ l < 2147483647) : evI (ps_XX L xs) (d + 6) j_X7_lots [.ref 0, .int n, .int seed] (SM μ 4 σ) (if ¬ ((¬ n < 1 ∧ ¬ 20 < n) ∧ ¬ seed < 1 ∧ lg_cmp seed.toInt64 2147483647 < 0) then (-1, SM μ 4 σ) else if σ 8 = 0 then (-4, SM μ 4 σ) else ((lotE g N l σ).2 5 - σ 5, lotK g N l μ σ)) := by
  refine ⟨Nat.le_of_ble_eq_true rfl, ?_⟩
  refine e_2 rfl rfl ?_
  refine e_0 rfl ?_
  refine e_38 rfl (fun h1 => ?_) (fun h1 => ?_)
  · refine e_0 rfl ?_
    exact e_ri rfl rfl (by first | (simp only [eq_true h1, if_true, if_true, if_false, not_true_eq_false, not_false_eq_true, and_true, true_and, and_false, false_and, or_true, true_or, or_false, false_or, reduceIte]; done) | (simp only [eq_true h1, if_true, if_true, if_false, not_true_eq_false, not_false_eq_true, and_true, true_and, and_false, false_and, or_true, true_or, or_false, false_or, reduceIte]; rfl) | rfl) (by first | (simp only [eq_true h1, if_true, if_true, if_false, not_true_eq_false, not_false_eq_true, and_true, true_and, and_false, false_and, or_true, true_or, or_false, false_or, reduceIte]; done) | (simp only [eq_true h1, if_true, if_true, if_false, not_true_eq_false, not_false_eq_true, and_true, true_and, and_false, false_and, or_true, true_or, or_false, false_or, reduceIte]; rfl) | rfl)
  · refine e_2 rfl rfl ?_
    refine e_0 rfl ?_
    refine e_40 rfl (fun h2 => ?_) (fun h2 => ?_)
    · refine e_0 rfl ?_
      exact e_ri rfl rfl (by first | (simp only [eq_false h1, eq_true h2, if_true, if_true, if_false, not_true_eq_false, not_false_eq_true, and_true, true_and, and_false, false_and, or_true, true_or, or_false, false_or, reduceIte]; done) | (simp only [eq_false h1, eq_true h2, if_true, if_true, if_false, not_true_eq_false, not_false_eq_true, and_true, true_and, and_false, false_and, or_true, true_or, or_false, false_or, reduceIte]; rfl) | rfl) (by first | (simp only [eq_false h1, eq_true h2, if_true, if_true, if_false, not_true_eq_false, not_false_eq_true, and_true, true_and, and_false, false_and, or_true, true_or, or_false, false_or, reduceIte]; done) | (simp only [eq_false h1, eq_true h2, if_true, if_true, if_false, not_true_eq_false, not_false_eq_true, and_true, true_and, and_false, false_and, or_true, true_or, or_false, false_or, reduceIte]; rfl) | rfl)
    · refine e_2 rfl rfl ?_
      refine e_0 rfl ?_
      refine e_38 rfl (fun h3 => ?_) (fun h3 => ?_)
      · refine e_0 rfl ?_
        exact e_ri rfl rfl (by first | (simp only [eq_false h1, eq_false h2, eq_true h3, if_true, if_true, if_false, not_true_eq_false, not_false_eq_true, and_true, true_and, and_false, false_and, or_true, true_or, or_false, false_or, reduceIte]; done) | (simp only [eq_false h1, eq_false h2, eq_true h3, if_true, if_true, if_false, not_true_eq_false, not_false_eq_true, and_true, true_and, and_false, false_and, or_true, true_or, or_false, false_or, reduceIte]; rfl) | rfl) (by first | (simp only [eq_false h1, eq_false h2, eq_true h3, if_true, if_true, if_false, not_true_eq_false, not_false_eq_true, and_true, true_and, and_false, false_and, or_true, true_or, or_false, false_or, reduceIte]; done) | (simp only [eq_false h1, eq_false h2, eq_true h3, if_true, if_true, if_false, not_true_eq_false, not_false_eq_true, and_true, true_and, and_false, false_and, or_true, true_or, or_false, false_or, reduceIte]; rfl) | rfl)
      · refine e_2 rfl rfl ?_
        refine e_25 rfl ?_
        refine e_1 rfl ?_
        refine e_24 rfl ?_
        refine e_32 rfl (fun h4 => ?_) (fun h4 => ?_)
        · obtain ⟨rfl, hN⟩ := hn ⟨h1, h2⟩
          obtain ⟨rfl, hl31⟩ := hl ⟨h3, h4⟩
          refine e_4 rfl rfl ?_
          refine e_gr rfl (p_0 hp) rfl (p_f4 hp) ?_
          refine s_gi (p_sh4 hp) rfl rfl (by decide) (by decide) ?_
          refine e_31 rfl (fun h5 => ?_) (fun h5 => ?_)
          · refine e_4 rfl rfl ?_
            refine e_gr rfl (p_0 hp) rfl (p_f4 hp) ?_
            refine s_gi (p_sh4 hp) rfl rfl (by decide) (by decide) ?_
            refine e_5 rfl rfl ?_
            refine e_2 rfl rfl ?_
            refine e_25 rfl ?_
            have h4b := h4
            rw [nI_l (by omega)] at h4b ⊢
            refine e_6 rfl rfl ?_
            refine e_0 rfl ?_
            refine e_5 rfl rfl ?_
            simp only [eq_false h1, eq_false h2, eq_false h3, eq_true h4, eq_false h5, if_true, eq_true h4b, if_true, if_false, not_true_eq_false, not_false_eq_true, and_true, true_and, and_false, false_and, or_true, true_or, or_false, false_or, reduceIte]
            exact k_lots_loop (L := L) (xs := xs) (d := d) hN (nI l) (σ 5) N 0 l μ σ (by omega) hp hI (g_pos hI.1 h5) hl31
          · refine e_0 rfl ?_
            exact e_ri rfl rfl (by first | (simp only [eq_false h1, eq_false h2, eq_false h3, eq_true h4, eq_true h5, if_true, if_true, if_false, not_true_eq_false, not_false_eq_true, and_true, true_and, and_false, false_and, or_true, true_or, or_false, false_or, reduceIte]; done) | (simp only [eq_false h1, eq_false h2, eq_false h3, eq_true h4, eq_true h5, if_true, if_true, if_false, not_true_eq_false, not_false_eq_true, and_true, true_and, and_false, false_and, or_true, true_or, or_false, false_or, reduceIte]; rfl) | rfl) (by first | (simp only [eq_false h1, eq_false h2, eq_false h3, eq_true h4, eq_true h5, if_true, if_true, if_false, not_true_eq_false, not_false_eq_true, and_true, true_and, and_false, false_and, or_true, true_or, or_false, false_or, reduceIte]; done) | (simp only [eq_false h1, eq_false h2, eq_false h3, eq_true h4, eq_true h5, if_true, if_true, if_false, not_true_eq_false, not_false_eq_true, and_true, true_and, and_false, false_and, or_true, true_or, or_false, false_or, reduceIte]; rfl) | rfl)
        · refine e_0 rfl ?_
          exact e_ri rfl rfl (by first | (simp only [eq_false h1, eq_false h2, eq_false h3, eq_false h4, if_true, if_true, if_false, not_true_eq_false, not_false_eq_true, and_true, true_and, and_false, false_and, or_true, true_or, or_false, false_or, reduceIte]; done) | (simp only [eq_false h1, eq_false h2, eq_false h3, eq_false h4, if_true, if_true, if_false, not_true_eq_false, not_false_eq_true, and_true, true_and, and_false, false_and, or_true, true_or, or_false, false_or, reduceIte]; rfl) | rfl) (by first | (simp only [eq_false h1, eq_false h2, eq_false h3, eq_false h4, if_true, if_true, if_false, not_true_eq_false, not_false_eq_true, and_true, true_and, and_false, false_and, or_true, true_or, or_false, false_or, reduceIte]; done) | (simp only [eq_false h1, eq_false h2, eq_false h3, eq_false h4, if_true, if_true, if_false, not_true_eq_false, not_false_eq_true, and_true, true_and, and_false, false_and, or_true, true_or, or_false, false_or, reduceIte]; rfl) | rfl)
theorem k_vfollow {v s p w t q : Nat} (hv : isVo μ v s p) (hw : isVo μ w t q) (hd : t + 3 < s ∨ s + 3 < t) (hq : q < s ∨ s + 3 < q) (hpq : p < s ∨ s + 3 < p) (h7 : ps_i μ t 7 = 0 ∨ ps_i μ t 7 = 1) : ps_Ev (ps_XX L xs) (d + 2) j_X6_follow [.ref v, .ref w] μ none (ps_cp (SM μ s (shG (ps_i μ) t)) q 0 p 0 440) := by
  refine ⟨Nat.le_of_ble_eq_true rfl, ?_⟩
  refine e_4 rfl rfl ?_
  refine e_gr rfl hv.1 rfl hv.2.2.2.1 ?_
  refine e_4 rfl rfl ?_
  refine e_gr rfl hw.1 rfl hw.2.2.2.1 ?_
  refine e_v1v rfl (by first | exact hv.2.1.1 | exact hw.2.2.1 | exact hv.2.2.1) rfl (by decide) rfl (Nat.le_of_ble_eq_true rfl) (by have z := ss_follow (L := L) (xs := xs) (d := d) (σ := shG (ps_i μ) s) hv.2.1 hw.2.1 hd h7; rw [SM_self] at z; exact z) ?_
  refine e_4 rfl rfl ?_
  refine e_gr rfl hw.1 rfl hw.2.2.2.2 ?_
  refine e_0 rfl ?_
  refine e_4 rfl rfl ?_
  refine e_gr rfl hv.1 rfl hv.2.2.2.2 ?_
  refine e_0 rfl ?_
  refine e_4 rfl rfl ?_
  refine e_gr rfl hv.1 rfl hv.2.2.2.2 ?_
  refine e_54 rfl (by first | exact hv.2.1.1 | exact hw.2.2.1 | exact hv.2.2.1) (by decide) (by decide) ?_
  refine e_62 rfl (by first | exact hv.2.1.1 | exact hw.2.2.1 | exact hv.2.2.1) (by first | exact hv.2.1.1 | exact hw.2.2.1 | exact hv.2.2.1) (by decide) (by decide) (by decide) (by decide) (by decide) (Nat.le_of_ble_eq_true rfl) ?_
  exact e_rv rfl (rfl)
theorem kq_keep (hp : isPs μ) (h7 : ps_i μ 4 7 = 0 ∨ ps_i μ 4 7 = 1) {k : Int32} {t : Nat} (hk : keptP k → k = nI t ∧ t < 3) : evI (ps_XX L xs) (d + 3) j_X7_keep [.ref 0, .int k] (μ) (if ¬ keptP k then (-1, μ) else if ps_i μ 4 8 = 0 then (-4, μ) else (ps_i μ 4 5, ps_sI (ps_cp (SM μ (65 + 6 * t + 1) (shG (ps_i μ) 4)) 8 0 (65 + 6 * t + 5) 0 440) (65 + 6 * t) 1 1)) := by
  refine ⟨Nat.le_of_ble_eq_true rfl, ?_⟩
  refine e_2 rfl rfl ?_
  refine e_s1 rfl rfl rfl (Nat.le_of_ble_eq_true rfl) (k_isKept _) ?_
  refine e_31b rfl (fun h1 => ?_) (fun h1 => ?_)
  · obtain ⟨rfl, ht⟩ := hk h1
    refine e_4 rfl rfl ?_
    refine e_gr rfl (p_0 hp) rfl (p_f4 hp) ?_
    refine e_gi rfl (p_sh4 hp).1 rfl (by decide) ?_
    refine e_31 rfl (fun h2 => ?_) (fun h2 => ?_)
    · refine e_4 rfl rfl ?_
      refine e_gr rfl (p_0 hp) rfl (p_f3 hp) ?_
      refine e_2 rfl rfl ?_
      refine e_gaq (i := t) rfl (p_9 hp) (by decide) (by decide) (by first | rfl | (simp only [← nI_add, ← pk_mul]; rfl) | (simp only [nI_add, pk_mul, nI_1]; done)) (by omega) (by decide) (p_r9 hp (by omega)) ?_
      refine e_4 rfl rfl ?_
      refine e_gr rfl (p_0 hp) rfl (p_f2 hp) ?_
      refine e_v1v rfl (by first | exact p_0 hp | exact (p_sh4 hp).1 | exact (p_vo hp (k := t) (by omega)).1) rfl (by decide) rfl (Nat.le_of_ble_eq_true rfl) (k_vfollow (p_vo hp (k := t) (by omega)) (p_now hp) (by omega) (by omega) (by omega) h7) ?_
      refine e_4 rfl rfl ?_
      refine e_gr rfl (p_0 hp) rfl (p_f3 hp) ?_
      refine e_2 rfl rfl ?_
      refine e_gaq (i := t) rfl (p_9 hp) (by decide) (by decide) (by first | rfl | (simp only [← nI_add, ← pk_mul]; rfl) | (simp only [nI_add, pk_mul, nI_1]; done)) (by omega) (by decide) (p_r9 hp (by omega)) ?_
      refine e_0 rfl ?_
      refine e_pi rfl (p_vo hp (k := t) (by omega)).1 rfl (Or.inr ⟨rfl, by first | decide | assumption⟩) ?_
      refine e_4 rfl rfl ?_
      refine e_gr rfl (p_0 hp) rfl (p_f4 hp) ?_
      refine e_gi rfl (p_sh4 hp).1 rfl (by decide) ?_
      rw [sI_off (by omega), cp_off (by omega), SM_off (by omega)]
      exact e_ri rfl rfl (by first | (simp only [eq_true h1, eq_false h2, if_true, if_true, if_false, not_true_eq_false, not_false_eq_true, and_true, true_and, and_false, false_and, or_true, true_or, or_false, false_or, reduceIte]; done) | (simp only [eq_true h1, eq_false h2, if_true, if_true, if_false, not_true_eq_false, not_false_eq_true, and_true, true_and, and_false, false_and, or_true, true_or, or_false, false_or, reduceIte]; rfl) | rfl) (by first | (simp only [eq_true h1, eq_false h2, if_true, if_true, if_false, not_true_eq_false, not_false_eq_true, and_true, true_and, and_false, false_and, or_true, true_or, or_false, false_or, reduceIte]; done) | (simp only [eq_true h1, eq_false h2, if_true, if_true, if_false, not_true_eq_false, not_false_eq_true, and_true, true_and, and_false, false_and, or_true, true_or, or_false, false_or, reduceIte]; rfl) | rfl)
    · refine e_0 rfl ?_
      exact e_ri rfl rfl (by first | (simp only [eq_true h1, eq_true h2, if_true, if_true, if_false, not_true_eq_false, not_false_eq_true, and_true, true_and, and_false, false_and, or_true, true_or, or_false, false_or, reduceIte]; done) | (simp only [eq_true h1, eq_true h2, if_true, if_true, if_false, not_true_eq_false, not_false_eq_true, and_true, true_and, and_false, false_and, or_true, true_or, or_false, false_or, reduceIte]; rfl) | rfl) (by first | (simp only [eq_true h1, eq_true h2, if_true, if_true, if_false, not_true_eq_false, not_false_eq_true, and_true, true_and, and_false, false_and, or_true, true_or, or_false, false_or, reduceIte]; done) | (simp only [eq_true h1, eq_true h2, if_true, if_true, if_false, not_true_eq_false, not_false_eq_true, and_true, true_and, and_false, false_and, or_true, true_or, or_false, false_or, reduceIte]; rfl) | rfl)
  · refine e_0 rfl ?_
    exact e_ri rfl rfl (by first | (simp only [eq_false h1, if_true, if_true, if_false, not_true_eq_false, not_false_eq_true, and_true, true_and, and_false, false_and, or_true, true_or, or_false, false_or, reduceIte]; done) | (simp only [eq_false h1, if_true, if_true, if_false, not_true_eq_false, not_false_eq_true, and_true, true_and, and_false, false_and, or_true, true_or, or_false, false_or, reduceIte]; rfl) | rfl) (by first | (simp only [eq_false h1, if_true, if_true, if_false, not_true_eq_false, not_false_eq_true, and_true, true_and, and_false, false_and, or_true, true_or, or_false, false_or, reduceIte]; done) | (simp only [eq_false h1, if_true, if_true, if_false, not_true_eq_false, not_false_eq_true, and_true, true_and, and_false, false_and, or_true, true_or, or_false, false_or, reduceIte]; rfl) | rfl)
theorem kq_on (hp : isPs μ) {k : Int32} {t : Nat} (hk : keptP k → k = nI t ∧ t < 3) (h7 : keptP k → ¬ ps_i μ (65 + 6 * t) 1 = 0 → ps_i μ (65 + 6 * t + 1) 7 = 0 ∨ ps_i μ (65 + 6 * t + 1) 7 = 1) : evI (ps_XX L xs) (d + 3) j_X7_on [.ref 0, .int k] (μ) (if ¬ keptP k then (-1, μ) else if ps_i μ (65 + 6 * t) 1 = 0 then (-3, FC μ 1) else (ps_i μ (65 + 6 * t + 1) 5, ps_cp (SM μ 4 (shG (ps_i μ) (65 + 6 * t + 1))) (65 + 6 * t + 5) 0 8 0 440)) := by
  refine ⟨Nat.le_of_ble_eq_true rfl, ?_⟩
  refine e_2 rfl rfl ?_
  refine e_s1 rfl rfl rfl (Nat.le_of_ble_eq_true rfl) (k_isKept _) ?_
  refine e_31b rfl (fun h1 => ?_) (fun h1 => ?_)
  · obtain ⟨rfl, ht⟩ := hk h1
    refine e_4 rfl rfl ?_
    refine e_gr rfl (p_0 hp) rfl (p_f3 hp) ?_
    refine e_2 rfl rfl ?_
    refine e_gaq (i := t) rfl (p_9 hp) (by decide) (by decide) (by first | rfl | (simp only [← nI_add, ← pk_mul]; rfl) | (simp only [nI_add, pk_mul, nI_1]; done)) (by omega) (by decide) (p_r9 hp (by omega)) ?_
    refine e_gi rfl (p_vo hp (k := t) (by omega)).1 rfl (by decide) ?_
    refine e_31 rfl (fun h2 => ?_) (fun h2 => ?_)
    · refine e_4 rfl rfl ?_
      refine e_gr rfl (p_0 hp) rfl (p_f2 hp) ?_
      refine e_4 rfl rfl ?_
      refine e_gr rfl (p_0 hp) rfl (p_f3 hp) ?_
      refine e_2 rfl rfl ?_
      refine e_gaq (i := t) rfl (p_9 hp) (by decide) (by decide) (by first | rfl | (simp only [← nI_add, ← pk_mul]; rfl) | (simp only [nI_add, pk_mul, nI_1]; done)) (by omega) (by decide) (p_r9 hp (by omega)) ?_
      refine e_v1v rfl (by first | exact p_0 hp | exact (p_sh4 hp).1 | exact (p_now hp).1) rfl (by decide) rfl (Nat.le_of_ble_eq_true rfl) (k_vfollow (p_now hp) (p_vo hp (k := t) (by omega)) (by omega) (by omega) (by omega) (h7 h1 h2)) ?_
      refine e_4 rfl rfl ?_
      refine e_gr rfl (p_0 hp) rfl (p_f4 hp) ?_
      refine e_gi rfl (p_sh4 hp).1 rfl (by decide) ?_
      rw [cp_off (by omega), SM_g (by omega)]
      exact e_ri rfl rfl (by first | (simp only [eq_true h1, eq_false h2, if_true, if_true, if_false, not_true_eq_false, not_false_eq_true, and_true, true_and, and_false, false_and, or_true, true_or, or_false, false_or, reduceIte]; done) | (simp only [eq_true h1, eq_false h2, if_true, if_true, if_false, not_true_eq_false, not_false_eq_true, and_true, true_and, and_false, false_and, or_true, true_or, or_false, false_or, reduceIte]; rfl) | rfl) (by first | (simp only [eq_true h1, eq_false h2, if_true, if_true, if_false, not_true_eq_false, not_false_eq_true, and_true, true_and, and_false, false_and, or_true, true_or, or_false, false_or, reduceIte]; done) | (simp only [eq_true h1, eq_false h2, if_true, if_true, if_false, not_true_eq_false, not_false_eq_true, and_true, true_and, and_false, false_and, or_true, true_or, or_false, false_or, reduceIte]; rfl) | rfl)
    · refine e_4 rfl rfl ?_
      refine e_0 rfl ?_
      refine e_v1 rfl (by first | exact p_0 hp | exact (p_sh4 hp).1 | exact (p_now hp).1) rfl (by decide) rfl (Nat.le_of_ble_eq_true rfl) (evo (k_find (f := 1) (μ := μ) hp (by decide) (by decide))) ?_
      exact e_ri rfl rfl (by first | (simp only [eq_true h1, eq_true h2, if_true, if_true, if_false, not_true_eq_false, not_false_eq_true, and_true, true_and, and_false, false_and, or_true, true_or, or_false, false_or, reduceIte]; done) | (simp only [eq_true h1, eq_true h2, if_true, if_true, if_false, not_true_eq_false, not_false_eq_true, and_true, true_and, and_false, false_and, or_true, true_or, or_false, false_or, reduceIte]; rfl) | rfl) (by first | (simp only [eq_true h1, eq_true h2, if_true, if_true, if_false, not_true_eq_false, not_false_eq_true, and_true, true_and, and_false, false_and, or_true, true_or, or_false, false_or, reduceIte]; done) | (simp only [eq_true h1, eq_true h2, if_true, if_true, if_false, not_true_eq_false, not_false_eq_true, and_true, true_and, and_false, false_and, or_true, true_or, or_false, false_or, reduceIte]; rfl) | rfl)
  · refine e_0 rfl ?_
    exact e_ri rfl rfl (by first | (simp only [eq_false h1, if_true, if_true, if_false, not_true_eq_false, not_false_eq_true, and_true, true_and, and_false, false_and, or_true, true_or, or_false, false_or, reduceIte]; done) | (simp only [eq_false h1, if_true, if_true, if_false, not_true_eq_false, not_false_eq_true, and_true, true_and, and_false, false_and, or_true, true_or, or_false, false_or, reduceIte]; rfl) | rfl) (by first | (simp only [eq_false h1, if_true, if_true, if_false, not_true_eq_false, not_false_eq_true, and_true, true_and, and_false, false_and, or_true, true_or, or_false, false_or, reduceIte]; done) | (simp only [eq_false h1, if_true, if_true, if_false, not_true_eq_false, not_false_eq_true, and_true, true_and, and_false, false_and, or_true, true_or, or_false, false_or, reduceIte]; rfl) | rfl)
end KQ6
