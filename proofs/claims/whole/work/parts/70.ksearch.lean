-- ===== the class: search through plans =====
/-- many, first, least, which -/
abbrev accT : Type := Int32 × Int32 × Int32 × Nat
def stepA (kp : Nat → Int32 × (Nat → Int32)) (N : Nat) (A : accT) (x : Nat) : accT := if (kp x).1 = 0 then A else (A.1 + 1, (if 0 < N then A.2.1 ||| ((1 : Int32) <<< (nI (dig N x 0) &&& 31)) else A.2.1), (if A.2.2.1 = -9 ∨ ¬ A.2.2.1 ≤ (kp x).2 0 then (kp x).2 0 else A.2.2.1), (if A.2.2.1 = -9 ∨ ¬ A.2.2.1 ≤ (kp x).2 0 then x else A.2.2.2))
def fdA (kp : Nat → Int32 × (Nat → Int32)) (N : Nat) : Nat → Nat → accT → accT
  | 0, _, A => A
  | n + 1, x, A => fdA kp N n (x + 1) (stepA kp N A x)
theorem fd_add {kp : Nat → Int32 × (Nat → Int32)} {N : Nat} : ∀ n m x A, fdA kp N (n + m) x A = fdA kp N m (x + n) (fdA kp N n x A)
  | 0, m, x, A => by rw [Nat.zero_add]; rfl
  | n + 1, m, x, A => by
    rw [show n + 1 + m = (n + m) + 1 by omega]
    show fdA kp N (n + m) (x + 1) (stepA kp N A x) = fdA kp N m (x + (n + 1)) (fdA kp N n (x + 1) (stepA kp N A x))
    rw [fd_add n m, show x + 1 + n = x + (n + 1) by omega]
theorem fd_none {kp : Nat → Int32 × (Nat → Int32)} {N : Nat} : ∀ n x A, (∀ y, x ≤ y → y < x + n → (kp y).1 = 0) → fdA kp N n x A = A
  | 0, _, _, _ => rfl
  | n + 1, x, A, h => by
    show fdA kp N n (x + 1) (stepA kp N A x) = A
    rw [show stepA kp N A x = A from if_pos (h x (by omega) (by omega))]
    exact fd_none n (x + 1) A (fun y h1 h2 => h y (by omega) (by omega))
def SEf (μ0 μ : ps_M) : Prop := ps_n μ = ps_n μ0 ∧ ps_w μ = ps_w μ0 ∧ ps_s μ = ps_s μ0 ∧ ps_l μ = ps_l μ0 ∧ ps_r μ = ps_r μ0 ∧ ∀ a i, ¬ (19 ≤ a ∧ a ≤ 42) → ps_i μ a i = ps_i μ0 a i
theorem SEf.rf {μ : ps_M} : SEf μ μ := ⟨rfl, rfl, rfl, rfl, rfl, fun _ _ _ => rfl⟩
theorem SEf.tr {μ ν ξ : ps_M} (h : SEf μ ν) (h2 : SEf ν ξ) : SEf μ ξ := ⟨h2.1.trans h.1, h2.2.1.trans h.2.1, h2.2.2.1.trans h.2.2.1, h2.2.2.2.1.trans h.2.2.2.1, h2.2.2.2.2.1.trans h.2.2.2.2.1, fun a i z => (h2.2.2.2.2.2 a i z).trans (h.2.2.2.2.2 a i z)⟩
theorem SEf.sI {μ : ps_M} {k i : Nat} {x : Int32} (h : 19 ≤ k ∧ k ≤ 42) : SEf μ (ps_sI μ k i x) := ⟨rfl, rfl, rfl, rfl, rfl, fun a j z => sI_off (fun q => z (by omega))⟩
theorem SEf.SM {μ : ps_M} {b : Nat} {σ : Nat → Int32} (h : 19 ≤ b ∧ b + 3 ≤ 42) : SEf μ (SM μ b σ) := ⟨rfl, rfl, rfl, rfl, rfl, fun a j z => SM_off (by omega)⟩
theorem SEf.cp {μ : ps_M} {k0 sp k1 dp n : Nat} (h : 19 ≤ k1 ∧ k1 ≤ 42) : SEf μ (ps_cp μ k0 sp k1 dp n) := ⟨rfl, rfl, rfl, rfl, rfl, fun a j z => cp_off (fun q => z (by omega))⟩
theorem isPs.se {μ ν : ps_M} (hp : isPs μ) (h : SEf μ ν) : isPs ν := by
  unfold isPs
  rw [h.2.2.1, h.2.2.2.2.1]
  exact hp
def SEs (g N : Nat) (A : accT) (q d : Nat) (ρ : Nat → Nat → Int32) (μ : ps_M) : Prop := ps_i μ 19 6 = nI N ∧ ps_i μ 19 2 = A.1 ∧ ps_i μ 19 3 = A.2.1 ∧ ps_i μ 19 1 = A.2.2.1 ∧ (¬ A.2.2.1 = -9 → ∀ j, j < N → ps_i μ 20 j = nI (dig N A.2.2.2 j)) ∧ (∀ j, j < d → ps_i μ 22 j = nI (dig d q j)) ∧ ∀ e, e ≤ d → eqS g (shG (ps_i μ) (23 + 4 * e)) (ρ e)
theorem dig_pre {d q a j : Nat} (hj : j < d) (ha : a < 10) : dig (d + 1) (10 * q + a) j = dig d q j := by
  unfold dig
  rw [show d + 1 - 1 - j = (d - 1 - j) + 1 by omega, Nat.pow_succ, Nat.mul_comm (10 ^ (d - 1 - j)) 10, ← Nat.div_div_eq_div_mul, show (10 * q + a) / 10 = q by omega]
theorem dig_last {d q a : Nat} (ha : a < 10) : dig (d + 1) (10 * q + a) d = a := by
  unfold dig
  rw [show d + 1 - 1 - d = 0 by omega, Nat.pow_zero, Nat.div_one]
  omega
theorem dig_mid {N d m q a x : Nat} (hN : N = d + (m + 1)) (h1 : (10 * q + a) * 10 ^ m ≤ x) (h2 : x < (10 * q + a + 1) * 10 ^ m) (ha : a < 10) : dig N x d = a := by
  unfold dig
  rw [show N - 1 - d = m by omega]
  have hp : 0 < 10 ^ m := Nat.pow_pos (by decide)
  have e : x / 10 ^ m = 10 * q + a := Nat.div_eq_of_lt_le h1 h2
  rw [e]
  omega
section KSE
variable {L : Nat} {xs : Nat → Int32} {D : Nat} {μ : ps_M} {g N : Nat} {kp : Nat → Int32 × (Nat → Int32)}
theorem cp_in {μ : ps_M} {k0 k1 n j : Nat} (h : j < n) : ps_i (ps_cp μ k0 0 k1 0 n) k1 j = ps_i μ k0 j := by
  show (if k1 = k1 then va_cpy (ps_i μ k0) (ps_i μ k1) 0 0 n j else ps_i μ k1 j) = ps_i μ k0 j
  rw [if_pos rfl, pk_cpy_in (by omega) (by omega), show 0 + (j - 0) = j by omega]
theorem shG_cells {I J : Nat → Nat → Int32} {b : Nat} (h : ∀ a i, b ≤ a → a ≤ b + 3 → I a i = J a i) : shG I b = shG J b := by
  funext k
  unfold shG
  rw [h b k (by omega) (by omega), h (b + 1) (k - 9) (by omega) (by omega), h (b + 2) (k - 15) (by omega) (by omega), h (b + 3) (k - 21) (by omega) (by omega)]
theorem k_note (hp : isPs μ) (hN : N ≤ 4) {A : accT} {q : Nat} {ρ : Nat → Nat → Int32} (hS : SEs g N A q N ρ μ) (hk1 : (kp q).1 = 1) (hk2 : (kp q).2 0 = ρ N 0) : ∃ μ', ps_Ev (ps_XX L xs) (D + 1) j_X2_note [.ref 19] μ none μ' ∧ SEf μ μ' ∧ SEs g N (stepA kp N A q) q N ρ μ' := by
  obtain ⟨s6, s2, s3, s1, sb, st, sl⟩ := hS
  have hw : ps_i μ (23 + 4 * N) 0 = (kp q).2 0 := by rw [hk2]; exact (sl N (Nat.le_refl _)).1 0 (by decide)
  have hstep : stepA kp N A q = (A.1 + 1, (if 0 < N then A.2.1 ||| ((1 : Int32) <<< (nI (dig N q 0) &&& 31)) else A.2.1), (if A.2.2.1 = -9 ∨ ¬ A.2.2.1 ≤ (kp q).2 0 then (kp q).2 0 else A.2.2.1), (if A.2.2.1 = -9 ∨ ¬ A.2.2.1 ≤ (kp q).2 0 then q else A.2.2.2)) := if_neg (by rw [hk1]; decide)
  rw [hstep]
  by_cases hc : A.2.2.1 = -9 ∨ ¬ A.2.2.1 ≤ (kp q).2 0
  · by_cases hN0 : 0 < N
    · skip
      refine ⟨ps_cp (ps_sI (ps_sI (ps_sI μ 19 2 (A.1 + 1)) 19 3 (A.2.1 ||| ((1 : Int32) <<< (nI (dig N q 0) &&& 31)))) 19 1 ((kp q).2 0)) 22 0 20 0 N, ⟨Nat.le_of_ble_eq_true rfl, ?_⟩, ?_, ?_⟩
      · refine e_4 rfl rfl ?_
        refine e_gr rfl (p_19 hp) rfl (p_r19_4 hp) ?_
        refine e_4 rfl rfl ?_
        refine e_gi rfl (p_19 hp) rfl (by decide) ?_
        refine e_gaq (i := N) rfl (p_21 hp) (by decide) (by decide) (s6) (by omega) (by decide) (p_r21 hp (by omega)) ?_
        refine e_gi rfl (p_shL hp (k := N) (by omega)).1 rfl (by decide) ?_
        rw [hw]
        refine e_5 rfl rfl ?_
        refine e_4 rfl rfl ?_
        refine e_28 rfl rfl ?_
        refine e_gi rfl (p_19 hp) rfl (by decide) ?_
        rw [s2]
        refine e_0 rfl ?_
        refine e_9 rfl ?_
        refine e_pi rfl (p_19 hp) rfl (Or.inl rfl) ?_
        refine e_4 rfl rfl ?_
        refine e_gi rfl (p_19 hp) rfl (by decide) ?_
        rw [sI_off (by omega), s6]
        refine e_35 rfl (fun h1 => ?_) (fun h1 => ?_)
        · exact absurd h1 (nI_nle hN0 (by omega))
        · refine e_4 rfl rfl ?_
          refine e_28 rfl rfl ?_
          refine e_gi rfl (p_19 hp) rfl (by decide) ?_
          rw [sI_off (by omega), s3]
          refine e_0 rfl ?_
          refine e_4 rfl rfl ?_
          refine e_gr rfl (p_19 hp) rfl (p_r19_5 hp) ?_
          refine e_0 rfl ?_
          refine e_48q (i := 0) rfl (p_22 hp) (by first | rfl | (simp only [← nI_add, ← pk_mul]; rfl) | (simp only [nI_add, pk_mul, nI_1]; done)) (by omega) (by decide) ?_
          rw [sI_off (by omega), st 0 hN0]
          refine e_14 rfl ?_
          refine e_13 rfl ?_
          refine e_pi rfl (p_19 hp) rfl (Or.inl rfl) ?_
          refine e_4 rfl rfl ?_
          refine e_gi rfl (p_19 hp) rfl (by decide) ?_
          rw [sI_off (by omega), sI_off (by omega), s1]
          refine e_0 rfl ?_
          refine e_36 rfl (fun h2 => ?_) (fun h2 => ?_)
          · refine e_4 rfl rfl ?_
            refine e_2 rfl rfl ?_
            refine e_pi rfl (p_19 hp) rfl (Or.inl rfl) ?_
            refine e_4 rfl rfl ?_
            refine e_gr rfl (p_19 hp) rfl (p_r19_5 hp) ?_
            refine e_0 rfl ?_
            refine e_4 rfl rfl ?_
            refine e_gr rfl (p_19 hp) rfl (p_r19_0 hp) ?_
            refine e_0 rfl ?_
            refine e_4 rfl rfl ?_
            refine e_gi rfl (p_19 hp) rfl (by decide) ?_
            rw [sI_off (by omega), sI_off (by omega), sI_off (by omega), s6]
            refine e_62 rfl (by first | exact p_22 hp | exact p_20 hp) (by first | exact p_22 hp | exact p_20 hp) (by decide) (by decide) (nI_pos (by omega)) (by rw [nI_clamp (by omega)]; show 0 + N ≤ 4; omega) (by rw [nI_clamp (by omega)]; show 0 + N ≤ 4; omega) (Nat.le_of_ble_eq_true rfl) ?_
            exact e_rv rfl (by first | rfl | (rw [nI_clamp (by omega)]; rfl))
          · have h1x : ¬ A.2.2.1 = -9 := by assumption
            refine e_2 rfl rfl ?_
            refine e_4 rfl rfl ?_
            refine e_gi rfl (p_19 hp) rfl (by decide) ?_
            rw [sI_off (by omega), sI_off (by omega), s1]
            refine e_39 rfl (fun h3 => ?_) (fun h3 => ?_)
            · exact absurd h3 (hc.resolve_left h1x)
            · refine e_4 rfl rfl ?_
              refine e_2 rfl rfl ?_
              refine e_pi rfl (p_19 hp) rfl (Or.inl rfl) ?_
              refine e_4 rfl rfl ?_
              refine e_gr rfl (p_19 hp) rfl (p_r19_5 hp) ?_
              refine e_0 rfl ?_
              refine e_4 rfl rfl ?_
              refine e_gr rfl (p_19 hp) rfl (p_r19_0 hp) ?_
              refine e_0 rfl ?_
              refine e_4 rfl rfl ?_
              refine e_gi rfl (p_19 hp) rfl (by decide) ?_
              rw [sI_off (by omega), sI_off (by omega), sI_off (by omega), s6]
              refine e_62 rfl (by first | exact p_22 hp | exact p_20 hp) (by first | exact p_22 hp | exact p_20 hp) (by decide) (by decide) (nI_pos (by omega)) (by rw [nI_clamp (by omega)]; show 0 + N ≤ 4; omega) (by rw [nI_clamp (by omega)]; show 0 + N ≤ 4; omega) (Nat.le_of_ble_eq_true rfl) ?_
              exact e_rv rfl (by first | rfl | (rw [nI_clamp (by omega)]; rfl))
      · exact (((SEf.sI (by omega)).tr (SEf.sI (by omega))).tr (SEf.sI (by omega))).tr (SEf.cp (by omega))
      · refine ⟨?_, ?_, ?_, ?_, ?_, ?_, ?_⟩
        · rw [cp_off (by omega), sI_off (by omega), sI_off (by omega), sI_off (by omega)]; exact s6
        · rw [cp_off (by omega), sI_off (by omega), sI_off (by omega), sI_at]
        · rw [cp_off (by omega), sI_off (by omega), sI_at]; exact (if_pos hN0).symm
        · rw [cp_off (by omega), sI_at]; exact (if_pos hc).symm
        · intro _ j hj
          show ps_i _ 20 j = nI (dig N (if A.2.2.1 = -9 ∨ ¬ A.2.2.1 ≤ (kp q).2 0 then q else A.2.2.2) j)
          rw [cp_in hj, if_pos hc, sI_off (by omega), sI_off (by omega), sI_off (by omega)]
          exact st j hj
        · intro j hj; rw [cp_off (by omega), sI_off (by omega), sI_off (by omega), sI_off (by omega)]; exact st j hj
        · intro e he
          rw [shG_cells (fun a i ha hb => by rw [cp_off (by omega), sI_off (by omega), sI_off (by omega), sI_off (by omega)])]
          exact sl e he
    · have hN0 : N = 0 := by omega
      refine ⟨ps_cp (ps_sI (ps_sI μ 19 2 (A.1 + 1)) 19 1 ((kp q).2 0)) 22 0 20 0 N, ⟨Nat.le_of_ble_eq_true rfl, ?_⟩, ?_, ?_⟩
      · refine e_4 rfl rfl ?_
        refine e_gr rfl (p_19 hp) rfl (p_r19_4 hp) ?_
        refine e_4 rfl rfl ?_
        refine e_gi rfl (p_19 hp) rfl (by decide) ?_
        refine e_gaq (i := N) rfl (p_21 hp) (by decide) (by decide) (s6) (by omega) (by decide) (p_r21 hp (by omega)) ?_
        refine e_gi rfl (p_shL hp (k := N) (by omega)).1 rfl (by decide) ?_
        rw [hw]
        refine e_5 rfl rfl ?_
        refine e_4 rfl rfl ?_
        refine e_28 rfl rfl ?_
        refine e_gi rfl (p_19 hp) rfl (by decide) ?_
        rw [s2]
        refine e_0 rfl ?_
        refine e_9 rfl ?_
        refine e_pi rfl (p_19 hp) rfl (Or.inl rfl) ?_
        refine e_4 rfl rfl ?_
        refine e_gi rfl (p_19 hp) rfl (by decide) ?_
        rw [sI_off (by omega), s6]
        refine e_35 rfl (fun h1 => ?_) (fun h1 => ?_)
        · refine e_4 rfl rfl ?_
          refine e_gi rfl (p_19 hp) rfl (by decide) ?_
          rw [sI_off (by omega), s1]
          refine e_0 rfl ?_
          refine e_36 rfl (fun h2 => ?_) (fun h2 => ?_)
          · refine e_4 rfl rfl ?_
            refine e_2 rfl rfl ?_
            refine e_pi rfl (p_19 hp) rfl (Or.inl rfl) ?_
            refine e_4 rfl rfl ?_
            refine e_gr rfl (p_19 hp) rfl (p_r19_5 hp) ?_
            refine e_0 rfl ?_
            refine e_4 rfl rfl ?_
            refine e_gr rfl (p_19 hp) rfl (p_r19_0 hp) ?_
            refine e_0 rfl ?_
            refine e_4 rfl rfl ?_
            refine e_gi rfl (p_19 hp) rfl (by decide) ?_
            rw [sI_off (by omega), sI_off (by omega), s6]
            refine e_62 rfl (by first | exact p_22 hp | exact p_20 hp) (by first | exact p_22 hp | exact p_20 hp) (by decide) (by decide) (nI_pos (by omega)) (by rw [nI_clamp (by omega)]; show 0 + N ≤ 4; omega) (by rw [nI_clamp (by omega)]; show 0 + N ≤ 4; omega) (Nat.le_of_ble_eq_true rfl) ?_
            exact e_rv rfl (by first | rfl | (rw [nI_clamp (by omega)]; rfl))
          · have h1x : ¬ A.2.2.1 = -9 := by assumption
            refine e_2 rfl rfl ?_
            refine e_4 rfl rfl ?_
            refine e_gi rfl (p_19 hp) rfl (by decide) ?_
            rw [sI_off (by omega), s1]
            refine e_39 rfl (fun h3 => ?_) (fun h3 => ?_)
            · exact absurd h3 (hc.resolve_left h1x)
            · refine e_4 rfl rfl ?_
              refine e_2 rfl rfl ?_
              refine e_pi rfl (p_19 hp) rfl (Or.inl rfl) ?_
              refine e_4 rfl rfl ?_
              refine e_gr rfl (p_19 hp) rfl (p_r19_5 hp) ?_
              refine e_0 rfl ?_
              refine e_4 rfl rfl ?_
              refine e_gr rfl (p_19 hp) rfl (p_r19_0 hp) ?_
              refine e_0 rfl ?_
              refine e_4 rfl rfl ?_
              refine e_gi rfl (p_19 hp) rfl (by decide) ?_
              rw [sI_off (by omega), sI_off (by omega), s6]
              refine e_62 rfl (by first | exact p_22 hp | exact p_20 hp) (by first | exact p_22 hp | exact p_20 hp) (by decide) (by decide) (nI_pos (by omega)) (by rw [nI_clamp (by omega)]; show 0 + N ≤ 4; omega) (by rw [nI_clamp (by omega)]; show 0 + N ≤ 4; omega) (Nat.le_of_ble_eq_true rfl) ?_
              exact e_rv rfl (by first | rfl | (rw [nI_clamp (by omega)]; rfl))
        · exact absurd (by rw [hN0]; decide) h1
      · exact ((SEf.sI (by omega)).tr (SEf.sI (by omega))).tr (SEf.cp (by omega))
      · refine ⟨?_, ?_, ?_, ?_, ?_, ?_, ?_⟩
        · rw [cp_off (by omega), sI_off (by omega), sI_off (by omega)]; exact s6
        · rw [cp_off (by omega), sI_off (by omega), sI_at]
        · rw [cp_off (by omega), sI_off (by omega), sI_off (by omega)]; exact s3.trans (if_neg (by omega)).symm
        · rw [cp_off (by omega), sI_at]; exact (if_pos hc).symm
        · intro _ j hj
          show ps_i _ 20 j = nI (dig N (if A.2.2.1 = -9 ∨ ¬ A.2.2.1 ≤ (kp q).2 0 then q else A.2.2.2) j)
          rw [cp_in hj, if_pos hc, sI_off (by omega), sI_off (by omega)]
          exact st j hj
        · intro j hj; rw [cp_off (by omega), sI_off (by omega), sI_off (by omega)]; exact st j hj
        · intro e he
          rw [shG_cells (fun a i ha hb => by rw [cp_off (by omega), sI_off (by omega), sI_off (by omega)])]
          exact sl e he
  · by_cases hN0 : 0 < N
    · skip
      refine ⟨ps_sI (ps_sI μ 19 2 (A.1 + 1)) 19 3 (A.2.1 ||| ((1 : Int32) <<< (nI (dig N q 0) &&& 31))), ⟨Nat.le_of_ble_eq_true rfl, ?_⟩, ?_, ?_⟩
      · refine e_4 rfl rfl ?_
        refine e_gr rfl (p_19 hp) rfl (p_r19_4 hp) ?_
        refine e_4 rfl rfl ?_
        refine e_gi rfl (p_19 hp) rfl (by decide) ?_
        refine e_gaq (i := N) rfl (p_21 hp) (by decide) (by decide) (s6) (by omega) (by decide) (p_r21 hp (by omega)) ?_
        refine e_gi rfl (p_shL hp (k := N) (by omega)).1 rfl (by decide) ?_
        rw [hw]
        refine e_5 rfl rfl ?_
        refine e_4 rfl rfl ?_
        refine e_28 rfl rfl ?_
        refine e_gi rfl (p_19 hp) rfl (by decide) ?_
        rw [s2]
        refine e_0 rfl ?_
        refine e_9 rfl ?_
        refine e_pi rfl (p_19 hp) rfl (Or.inl rfl) ?_
        refine e_4 rfl rfl ?_
        refine e_gi rfl (p_19 hp) rfl (by decide) ?_
        rw [sI_off (by omega), s6]
        refine e_35 rfl (fun h1 => ?_) (fun h1 => ?_)
        · exact absurd h1 (nI_nle hN0 (by omega))
        · refine e_4 rfl rfl ?_
          refine e_28 rfl rfl ?_
          refine e_gi rfl (p_19 hp) rfl (by decide) ?_
          rw [sI_off (by omega), s3]
          refine e_0 rfl ?_
          refine e_4 rfl rfl ?_
          refine e_gr rfl (p_19 hp) rfl (p_r19_5 hp) ?_
          refine e_0 rfl ?_
          refine e_48q (i := 0) rfl (p_22 hp) (by first | rfl | (simp only [← nI_add, ← pk_mul]; rfl) | (simp only [nI_add, pk_mul, nI_1]; done)) (by omega) (by decide) ?_
          rw [sI_off (by omega), st 0 hN0]
          refine e_14 rfl ?_
          refine e_13 rfl ?_
          refine e_pi rfl (p_19 hp) rfl (Or.inl rfl) ?_
          refine e_4 rfl rfl ?_
          refine e_gi rfl (p_19 hp) rfl (by decide) ?_
          rw [sI_off (by omega), sI_off (by omega), s1]
          refine e_0 rfl ?_
          refine e_36 rfl (fun h2 => ?_) (fun h2 => ?_)
          · exact absurd h2 (fun z => hc (Or.inl z))
          · refine e_2 rfl rfl ?_
            refine e_4 rfl rfl ?_
            refine e_gi rfl (p_19 hp) rfl (by decide) ?_
            rw [sI_off (by omega), sI_off (by omega), s1]
            refine e_39 rfl (fun h3 => ?_) (fun h3 => ?_)
            · exact e_rv rfl (by first | rfl | (rw [nI_clamp (by omega)]; rfl))
            · exact absurd h3 (fun z => hc (Or.inr z))
      · exact (SEf.sI (by omega)).tr (SEf.sI (by omega))
      · refine ⟨?_, ?_, ?_, ?_, ?_, ?_, ?_⟩
        · rw [sI_off (by omega), sI_off (by omega)]; exact s6
        · rw [sI_off (by omega), sI_at]
        · rw [sI_at]; exact (if_pos hN0).symm
        · rw [sI_off (by omega), sI_off (by omega)]; exact s1.trans (if_neg hc).symm
        · intro hl j hj
          have hl2 : ¬ A.2.2.1 = -9 := fun z => hc (Or.inl z)
          show ps_i _ 20 j = nI (dig N (if A.2.2.1 = -9 ∨ ¬ A.2.2.1 ≤ (kp q).2 0 then q else A.2.2.2) j)
          rw [if_neg hc, sI_off (by omega), sI_off (by omega)]
          exact sb hl2 j hj
        · intro j hj; rw [sI_off (by omega), sI_off (by omega)]; exact st j hj
        · intro e he
          rw [shG_cells (fun a i ha hb => by rw [sI_off (by omega), sI_off (by omega)])]
          exact sl e he
    · have hN0 : N = 0 := by omega
      refine ⟨ps_sI μ 19 2 (A.1 + 1), ⟨Nat.le_of_ble_eq_true rfl, ?_⟩, ?_, ?_⟩
      · refine e_4 rfl rfl ?_
        refine e_gr rfl (p_19 hp) rfl (p_r19_4 hp) ?_
        refine e_4 rfl rfl ?_
        refine e_gi rfl (p_19 hp) rfl (by decide) ?_
        refine e_gaq (i := N) rfl (p_21 hp) (by decide) (by decide) (s6) (by omega) (by decide) (p_r21 hp (by omega)) ?_
        refine e_gi rfl (p_shL hp (k := N) (by omega)).1 rfl (by decide) ?_
        rw [hw]
        refine e_5 rfl rfl ?_
        refine e_4 rfl rfl ?_
        refine e_28 rfl rfl ?_
        refine e_gi rfl (p_19 hp) rfl (by decide) ?_
        rw [s2]
        refine e_0 rfl ?_
        refine e_9 rfl ?_
        refine e_pi rfl (p_19 hp) rfl (Or.inl rfl) ?_
        refine e_4 rfl rfl ?_
        refine e_gi rfl (p_19 hp) rfl (by decide) ?_
        rw [sI_off (by omega), s6]
        refine e_35 rfl (fun h1 => ?_) (fun h1 => ?_)
        · refine e_4 rfl rfl ?_
          refine e_gi rfl (p_19 hp) rfl (by decide) ?_
          rw [sI_off (by omega), s1]
          refine e_0 rfl ?_
          refine e_36 rfl (fun h2 => ?_) (fun h2 => ?_)
          · exact absurd h2 (fun z => hc (Or.inl z))
          · refine e_2 rfl rfl ?_
            refine e_4 rfl rfl ?_
            refine e_gi rfl (p_19 hp) rfl (by decide) ?_
            rw [sI_off (by omega), s1]
            refine e_39 rfl (fun h3 => ?_) (fun h3 => ?_)
            · exact e_rv rfl (by first | rfl | (rw [nI_clamp (by omega)]; rfl))
            · exact absurd h3 (fun z => hc (Or.inr z))
        · exact absurd (by rw [hN0]; decide) h1
      · exact SEf.sI (by omega)
      · refine ⟨?_, ?_, ?_, ?_, ?_, ?_, ?_⟩
        · rw [sI_off (by omega)]; exact s6
        · rw [sI_at]
        · rw [sI_off (by omega)]; exact s3.trans (if_neg (by omega)).symm
        · rw [sI_off (by omega)]; exact s1.trans (if_neg hc).symm
        · intro hl j hj
          have hl2 : ¬ A.2.2.1 = -9 := fun z => hc (Or.inl z)
          show ps_i _ 20 j = nI (dig N (if A.2.2.1 = -9 ∨ ¬ A.2.2.1 ≤ (kp q).2 0 then q else A.2.2.2) j)
          rw [if_neg hc, sI_off (by omega)]
          exact sb hl2 j hj
        · intro j hj; rw [sI_off (by omega)]; exact st j hj
        · intro e he
          rw [shG_cells (fun a i ha hb => by rw [sI_off (by omega)])]
          exact sl e he
theorem ev_d {X : Nat → Nat × (Nat → Int32)} {d e j : Nat} {as : List Value} {μ μ' : ps_M} {r : Option Value} (h : d = e) (z : ps_Ev X d j as μ r μ') : ps_Ev X e j as μ r μ' := h ▸ z
def PVk (g N : Nat) (kp : Nat → Int32 × (Nat → Int32)) (m d q : Nat) (σ : Nat → Int32) : Prop := ∀ x, q * 10 ^ m ≤ x → x < (q + 1) * 10 ^ m → kp x = keepF g (fun i => nI (dig N x i)) m d σ
theorem fd_child {m q i n : Nat} {A : accT} : fdA kp N ((n + 1) * 10 ^ m) ((10 * q + i) * 10 ^ m) A = fdA kp N (n * 10 ^ m) ((10 * q + (i + 1)) * 10 ^ m) (fdA kp N (10 ^ m) ((10 * q + i) * 10 ^ m) A) := by
  rw [show (n + 1) * 10 ^ m = 10 ^ m + n * 10 ^ m by rw [Nat.add_mul, Nat.one_mul, Nat.add_comm], fd_add, show (10 * q + i) * 10 ^ m + 10 ^ m = (10 * q + (i + 1)) * 10 ^ m by rw [← Nat.add_assoc, Nat.add_mul (10 * q + i) 1, Nat.one_mul]]
theorem child_rng {m q i x : Nat} (hi : i < 10) (h1 : (10 * q + i) * 10 ^ m ≤ x) (h2 : x < (10 * q + i) * 10 ^ m + 10 ^ m) : q * 10 ^ (m + 1) ≤ x ∧ x < (q + 1) * 10 ^ (m + 1) ∧ x < (10 * q + i + 1) * 10 ^ m := by
  have e : (10 * q + i) * 10 ^ m + 10 ^ m = (10 * q + i + 1) * 10 ^ m := by rw [Nat.add_mul (10 * q + i) 1, Nat.one_mul]
  rw [e] at h2
  have hp : 0 < 10 ^ m := Nat.pow_pos (by decide)
  refine ⟨Nat.le_trans ?_ h1, Nat.lt_of_lt_of_le h2 ?_, h2⟩
  · rw [Nat.pow_succ, Nat.mul_comm (10 ^ m) 10, ← Nat.mul_assoc]
    exact Nat.mul_le_mul_right _ (by omega)
  · rw [Nat.pow_succ, Nat.mul_comm (10 ^ m) 10, ← Nat.mul_assoc]
    exact Nat.mul_le_mul_right _ (by omega)
theorem SEs.mono {A : accT} {q d : Nat} {ρ : Nat → Nat → Int32} {μ ν : ps_M} (hS : SEs g N A q d ρ μ) (h19 : ∀ i, ps_i ν 19 i = ps_i μ 19 i) (h20 : ∀ i, ps_i ν 20 i = ps_i μ 20 i) (h22 : ∀ j, j < d → ps_i ν 22 j = ps_i μ 22 j) (hl : ∀ a i, 23 ≤ a → a < 23 + 4 * (d + 1) → ps_i ν a i = ps_i μ a i) : SEs g N A q d ρ ν := by
  obtain ⟨s6, s2, s3, s1, sb, st, sl⟩ := hS
  refine ⟨by rw [h19]; exact s6, by rw [h19]; exact s2, by rw [h19]; exact s3, by rw [h19]; exact s1, fun h j hj => by rw [h20]; exact sb h j hj, fun j hj => by rw [h22 j hj]; exact st j hj, fun e he => ?_⟩
  rw [shG_cells (fun a i ha hb => hl a i (by omega) (by omega))]
  exact sl e he
theorem SEs.drop {A : accT} {q d a : Nat} {ρ ρ' : Nat → Nat → Int32} {μ : ps_M} (ha : a < 10) (hS : SEs g N A (10 * q + a) (d + 1) ρ' μ) (hr : ∀ e, e ≤ d → ρ' e = ρ e) : SEs g N A q d ρ μ := by
  obtain ⟨s6, s2, s3, s1, sb, st, sl⟩ := hS
  exact ⟨s6, s2, s3, s1, sb, fun j hj => by rw [st j (by omega), dig_pre hj ha], fun e he => by rw [← hr e he]; exact sl e (by omega)⟩
theorem k_exloop (hN : N ≤ 4) (hg : g ≤ 6) {m d q : Nat} (hd : d + (m + 1) = N) {ρ : Nat → Nat → Int32} (hI : shI g (ρ d)) (h0 : 0 < ρ d 8) (hpv : PVk g N kp (m + 1) d q (ρ d))
    (IHm : ∀ (q' : Nat) (A : accT) (ρ' : Nat → Nat → Int32) (μ : ps_M), isPs μ → SEs g N A q' (d + 1) ρ' μ → shI g (ρ' (d + 1)) → 0 < ρ' (d + 1) 8 → PVk g N kp m (d + 1) q' (ρ' (d + 1)) → ∃ μ', ps_Ev (ps_XX L xs) (D + 5 + m) j_X2_explore [.ref 19, .int (nI (d + 1))] μ none μ' ∧ SEf μ μ' ∧ SEs g N (fdA kp N (10 ^ m) (q' * 10 ^ m) A) q' (d + 1) ρ' μ') :
    ∀ (n i : Nat) (A : accT) (μ : ps_M), i + n = 10 → isPs μ → SEs g N A q d ρ μ → ∃ μ', ps_To (ps_XX L xs) (ps_Ev (ps_XX L xs) (D + 5 + m)) j_X2_explore (ps_rt j_X2_explore none μ') (32, [(4, .int (nI i)), (3, .ref (23 + 4 * (d + 1))), (2, .ref (23 + 4 * d)), (0, .ref 19), (1, .int (nI d))], [], μ) ∧ SEf μ μ' ∧ SEs g N (fdA kp N (n * 10 ^ m) ((10 * q + i) * 10 ^ m) A) q d ρ μ' := by
  intro n
  induction n with
  | zero =>
    intro i A μ hi hp hS
    obtain rfl : i = 10 := by omega
    rw [Nat.zero_mul]
    refine ⟨μ, ?_, SEf.rf, hS⟩
    refine e_2 rfl rfl ?_
    refine e_0 rfl ?_
    refine e_39 rfl (fun h1 => ?_) (fun h1 => ?_)
    · exact e_rv rfl (rfl)
    · exact absurd (show nI 10 ≤ nI 10 from nI_le (Nat.le_refl _) (by omega)) h1
  | succ n ih =>
    intro i A μ hi hp hS
    have hSe := hS.2.2.2.2.2.2 d (Nat.le_refl _)
    have hIc := shI_eqS hI hSe.sym
    have h8 := hIc.1.2.1
    rw [fd_child]
    generalize hσ : shG (ps_i μ) (23 + 4 * d) = σ at hSe hIc h8
    have hcs : canF σ (nI i) ↔ canF (ρ d) (nI i) := hSe.can _
    by_cases hc : canF σ (nI i)
    · by_cases hs : sunkF (passF g σ (nI i))
      · have hnone : fdA kp N (10 ^ m) ((10 * q + i) * 10 ^ m) A = A := fd_none _ _ _ (fun y h1 h2 => by
          obtain ⟨r1, r2, r3⟩ := child_rng (by omega) h1 h2
          rw [hpv y r1 r2]
          have ed : nI (dig N y d) = nI i := congrArg nI (dig_mid hd.symm h1 r3 (by omega))
          have hcr := hcs.mp hc
          rw [keep_y (p := fun i => nI (dig N y i)) (by show ¬ overF (ρ d) ∧ allowsF (ρ d) (nI (dig N y d)); rw [ed]; exact hcr.2)]
          show (if sunkF (passF g (ρ d) (nI (dig N y d))) then ((0 : Int32), passF g (ρ d) (nI (dig N y d))) else keepF g (fun i => nI (dig N y i)) m (d + 1) (passF g (ρ d) (nI (dig N y d)))).1 = 0
          rw [ed, if_pos ((hSe.pass hg h8 (nI i)).sunk.mp hs)])
        rw [hnone]
        have hS2 : SEs g N A q d ρ (SM μ (23 + 4 * (d + 1)) (passF g σ (nI i))) := hS.mono (fun i => SM_off (by omega)) (fun i => SM_off (by omega)) (fun j _ => SM_off (by omega)) (fun a i h1 h2 => SM_off (by omega))
        obtain ⟨μ', y1, y2, y3⟩ := ih (i + 1) A (SM μ (23 + 4 * (d + 1)) (passF g σ (nI i))) (by omega) hp.SM hS2
        refine ⟨μ', ?_, (SEf.SM (by omega)).tr y2, y3⟩
        refine e_2 rfl rfl ?_
        refine e_0 rfl ?_
        refine e_39 rfl (fun h1 => ?_) (fun h1 => ?_)
        · exact absurd (show nI 10 ≤ nI i from h1) (nI_ge (by omega) (by omega))
        · refine e_4 rfl rfl ?_
          refine e_2 rfl rfl ?_
          refine e_v1 rfl (by first | exact (p_shL hp (k := d) (by omega)).1 | exact (p_shL hp (k := d + 1) (by omega)).1 | exact p_19 hp | exact p_22 hp) rfl (by decide) rfl (Nat.le_of_ble_eq_true rfl) (by have z := ss_canNow (L := L) (xs := xs) (d := D + 2 + m) (μ := μ) (q := 23 + 4 * d) (σ := σ) (p_shL hp (by omega)) (nI i); rw [← hσ, SM_self, hσ] at z; exact ev_d (by omega) z) ?_
          refine e_30b rfl (fun h2 => ?_) (fun h2 => ?_)
          · exact absurd hc h2
          · refine e_4 rfl rfl ?_
            refine e_4 rfl rfl ?_
            refine e_v1v rfl (by first | exact (p_shL hp (k := d) (by omega)).1 | exact (p_shL hp (k := d + 1) (by omega)).1 | exact p_19 hp | exact p_22 hp) rfl (by decide) rfl (Nat.le_of_ble_eq_true rfl) (by have z := ss_follow (L := L) (xs := xs) (d := D + 4 + m) (μ := μ) (q := 23 + 4 * (d + 1)) (c := 23 + 4 * d) (σ := shG (ps_i μ) (23 + 4 * (d + 1))) (p_shL hp (by omega)) (p_shL hp (by omega)) (by omega) (by have w := hIc.2.2.1; rw [← hσ] at w; exact w); rw [SM_self, hσ] at z; exact ev_d (by omega) z) ?_
            refine e_4 rfl rfl ?_
            refine e_2 rfl rfl ?_
            refine e_v1v rfl (by first | exact (p_shL hp (k := d) (by omega)).1 | exact (p_shL hp (k := d + 1) (by omega)).1 | exact p_19 hp | exact p_22 hp) rfl (by decide) rfl (Nat.le_of_ble_eq_true rfl) (by have z := ss_pass (L := L) (xs := xs) (d := D + 1 + m) (μ := μ) (q := 23 + 4 * (d + 1)) (σ := σ) (g := g) (p_shL hp (by omega)) hg h8 (nI i); exact ev_d (by omega) z) ?_
            refine e_4 rfl rfl ?_
            refine e_v0 rfl (by first | exact (p_shL hp (k := d) (by omega)).1 | exact (p_shL hp (k := d + 1) (by omega)).1 | exact p_19 hp | exact p_22 hp) rfl (by decide) rfl (Nat.le_of_ble_eq_true rfl) (by have z := ss_isSunk (L := L) (xs := xs) (d := D + 4 + m) (μ := μ) (q := 23 + 4 * (d + 1)) (σ := passF g σ (nI i)) (p_shL hp (by omega)); exact ev_d (by omega) z) ?_
            refine e_31b rfl (fun h3 => ?_) (fun h3 => ?_)
            · refine e_8 rfl rfl rfl ?_
              refine e_42 rfl ?_
              rw [nI_1]
              exact y1
            · exact absurd hs h3
      · have ecan := (hcs.mp hc).2
        have hpe := hSe.pass hg h8 (nI i)
        have hlt := over_lt ecan.1
        generalize hρ : (fun e => if e = d + 1 then passF g (ρ d) (nI i) else ρ e) = ρ'
        have hρ1 : ρ' (d + 1) = passF g (ρ d) (nI i) := by rw [← hρ]; exact if_pos rfl
        have hρ2 : ∀ e, e ≤ d → ρ' e = ρ e := fun e he => by rw [← hρ]; exact if_neg (by omega)
        obtain ⟨s6, s2, s3, s1, sb, st, sl⟩ := hS
        have hS2 : SEs g N A (10 * q + i) (d + 1) ρ' (ps_sI (SM μ (23 + 4 * (d + 1)) (passF g σ (nI i))) 22 d (nI i)) := by
          refine ⟨?_, ?_, ?_, ?_, ?_, ?_, ?_⟩
          · rw [sI_off (by omega), SM_off (by omega)]; exact s6
          · rw [sI_off (by omega), SM_off (by omega)]; exact s2
          · rw [sI_off (by omega), SM_off (by omega)]; exact s3
          · rw [sI_off (by omega), SM_off (by omega)]; exact s1
          · intro h j hj; rw [sI_off (by omega), SM_off (by omega)]; exact sb h j hj
          · intro j hj
            rcases (show j = d ∨ j < d by omega) with rfl | hjd
            · rw [sI_at, dig_last (by omega)]
            · rw [sI_off (by omega), SM_off (by omega), dig_pre hjd (by omega)]; exact st j hjd
          · intro e he
            rw [shG_cells (J := ps_i (SM μ (23 + 4 * (d + 1)) (passF g σ (nI i)))) (fun a i ha hb => sI_off (by omega))]
            rcases (show e = d + 1 ∨ e ≤ d by omega) with rfl | hed
            · rw [hρ1]
              exact (eqS.of27 hg (fun k hk => shG_SM hk)).tr hpe
            · rw [shG_off (by omega), hρ2 e hed]; exact sl e hed
        obtain ⟨μ3, x1, x2, x3⟩ := IHm (10 * q + i) A ρ' _ (isPs.sI hp.SM) hS2 (by rw [hρ1]; exact shI_pass hI ecan.2 hlt) (by rw [hρ1, passF_8]; exact h0) (by
          rw [hρ1]
          intro y h1 h2
          have h2b : y < (10 * q + i) * 10 ^ m + 10 ^ m := by rw [Nat.add_mul (10 * q + i) 1, Nat.one_mul] at h2; exact h2
          obtain ⟨r1, r2, r3⟩ := child_rng (by omega) h1 h2b
          rw [hpv y r1 r2]
          have ed : nI (dig N y d) = nI i := congrArg nI (dig_mid hd.symm h1 r3 (by omega))
          rw [keep_y (p := fun i => nI (dig N y i)) (by show ¬ overF (ρ d) ∧ allowsF (ρ d) (nI (dig N y d)); rw [ed]; exact ecan)]
          show (if sunkF (passF g (ρ d) (nI (dig N y d))) then _ else keepF g _ m (d + 1) (passF g (ρ d) (nI (dig N y d)))) = _
          rw [ed, if_neg (fun z => hs (hpe.sunk.mpr z))])
        obtain ⟨μ', y1, y2, y3⟩ := ih (i + 1) _ μ3 (by omega) ((isPs.sI hp.SM).se x2) (x3.drop (by omega) hρ2)
        refine ⟨μ', ?_, (((SEf.SM (by omega)).tr (SEf.sI (by omega))).tr x2).tr y2, y3⟩
        refine e_2 rfl rfl ?_
        refine e_0 rfl ?_
        refine e_39 rfl (fun h1 => ?_) (fun h1 => ?_)
        · exact absurd (show nI 10 ≤ nI i from h1) (nI_ge (by omega) (by omega))
        · refine e_4 rfl rfl ?_
          refine e_2 rfl rfl ?_
          refine e_v1 rfl (by first | exact (p_shL hp (k := d) (by omega)).1 | exact (p_shL hp (k := d + 1) (by omega)).1 | exact p_19 hp | exact p_22 hp) rfl (by decide) rfl (Nat.le_of_ble_eq_true rfl) (by have z := ss_canNow (L := L) (xs := xs) (d := D + 2 + m) (μ := μ) (q := 23 + 4 * d) (σ := σ) (p_shL hp (by omega)) (nI i); rw [← hσ, SM_self, hσ] at z; exact ev_d (by omega) z) ?_
          refine e_30b rfl (fun h2 => ?_) (fun h2 => ?_)
          · exact absurd hc h2
          · refine e_4 rfl rfl ?_
            refine e_4 rfl rfl ?_
            refine e_v1v rfl (by first | exact (p_shL hp (k := d) (by omega)).1 | exact (p_shL hp (k := d + 1) (by omega)).1 | exact p_19 hp | exact p_22 hp) rfl (by decide) rfl (Nat.le_of_ble_eq_true rfl) (by have z := ss_follow (L := L) (xs := xs) (d := D + 4 + m) (μ := μ) (q := 23 + 4 * (d + 1)) (c := 23 + 4 * d) (σ := shG (ps_i μ) (23 + 4 * (d + 1))) (p_shL hp (by omega)) (p_shL hp (by omega)) (by omega) (by have w := hIc.2.2.1; rw [← hσ] at w; exact w); rw [SM_self, hσ] at z; exact ev_d (by omega) z) ?_
            refine e_4 rfl rfl ?_
            refine e_2 rfl rfl ?_
            refine e_v1v rfl (by first | exact (p_shL hp (k := d) (by omega)).1 | exact (p_shL hp (k := d + 1) (by omega)).1 | exact p_19 hp | exact p_22 hp) rfl (by decide) rfl (Nat.le_of_ble_eq_true rfl) (by have z := ss_pass (L := L) (xs := xs) (d := D + 1 + m) (μ := μ) (q := 23 + 4 * (d + 1)) (σ := σ) (g := g) (p_shL hp (by omega)) hg h8 (nI i); exact ev_d (by omega) z) ?_
            refine e_4 rfl rfl ?_
            refine e_v0 rfl (by first | exact (p_shL hp (k := d) (by omega)).1 | exact (p_shL hp (k := d + 1) (by omega)).1 | exact p_19 hp | exact p_22 hp) rfl (by decide) rfl (Nat.le_of_ble_eq_true rfl) (by have z := ss_isSunk (L := L) (xs := xs) (d := D + 4 + m) (μ := μ) (q := 23 + 4 * (d + 1)) (σ := passF g σ (nI i)) (p_shL hp (by omega)); exact ev_d (by omega) z) ?_
            refine e_31b rfl (fun h3 => ?_) (fun h3 => ?_)
            · exact absurd h3 hs
            · refine e_4 rfl rfl ?_
              refine e_gr rfl (p_19 hp) rfl (p_r19_5 hp) ?_
              refine e_2 rfl rfl ?_
              refine e_2 rfl rfl ?_
              refine e_49q (i := d) rfl (p_22 hp) (by first | rfl | (simp only [← nI_add, ← pk_mul]; rfl) | (simp only [nI_add, pk_mul, nI_1]; done)) (by omega) (by decide) ?_
              refine e_4 rfl rfl ?_
              refine e_2 rfl rfl ?_
              refine e_0 rfl ?_
              refine e_9 rfl ?_
              rw [nI_1]
              refine e_s2v rfl rfl rfl (Nat.le_of_ble_eq_true rfl) (x1) ?_
              refine e_8 rfl rfl rfl ?_
              refine e_42 rfl ?_
              rw [nI_1]
              exact y1
    · have hnone : fdA kp N (10 ^ m) ((10 * q + i) * 10 ^ m) A = A := fd_none _ _ _ (fun y h1 h2 => by
        obtain ⟨r1, r2, r3⟩ := child_rng (by omega) h1 h2
        rw [hpv y r1 r2]
        have ed : nI (dig N y d) = nI i := congrArg nI (dig_mid hd.symm h1 r3 (by omega))
        rw [keep_n (p := fun i => nI (dig N y i)) (by show ¬ (¬ overF (ρ d) ∧ allowsF (ρ d) (nI (dig N y d))); rw [ed]; exact fun z => hc (hcs.mpr ⟨h0, z⟩))])
      rw [hnone]
      obtain ⟨μ', y1, y2, y3⟩ := ih (i + 1) A μ (by omega) hp hS
      refine ⟨μ', ?_, y2, y3⟩
      refine e_2 rfl rfl ?_
      refine e_0 rfl ?_
      refine e_39 rfl (fun h1 => ?_) (fun h1 => ?_)
      · exact absurd (show nI 10 ≤ nI i from h1) (nI_ge (by omega) (by omega))
      · refine e_4 rfl rfl ?_
        refine e_2 rfl rfl ?_
        refine e_v1 rfl (by first | exact (p_shL hp (k := d) (by omega)).1 | exact (p_shL hp (k := d + 1) (by omega)).1 | exact p_19 hp | exact p_22 hp) rfl (by decide) rfl (Nat.le_of_ble_eq_true rfl) (by have z := ss_canNow (L := L) (xs := xs) (d := D + 2 + m) (μ := μ) (q := 23 + 4 * d) (σ := σ) (p_shL hp (by omega)) (nI i); rw [← hσ, SM_self, hσ] at z; exact ev_d (by omega) z) ?_
        refine e_30b rfl (fun h2 => ?_) (fun h2 => ?_)
        · refine e_8 rfl rfl rfl ?_
          refine e_42 rfl ?_
          rw [nI_1]
          exact y1
        · exact absurd h2 hc
theorem k_explore (hN : N ≤ 4) (hg : g ≤ 6) : ∀ (m d q : Nat) (A : accT) (ρ : Nat → Nat → Int32) (μ : ps_M), d + m = N → isPs μ → SEs g N A q d ρ μ → shI g (ρ d) → 0 < ρ d 8 → PVk g N kp m d q (ρ d) → ∃ μ', ps_Ev (ps_XX L xs) (D + 5 + m) j_X2_explore [.ref 19, .int (nI d)] μ none μ' ∧ SEf μ μ' ∧ SEs g N (fdA kp N (10 ^ m) (q * 10 ^ m) A) q d ρ μ' := by
  intro m
  induction m with
  | zero =>
    intro d q A ρ μ hd hp hS hI h0 hpv
    obtain rfl : d = N := by omega
    have hk : kp q = (1, ρ d) := hpv q (by rw [Nat.pow_zero, Nat.mul_one]; exact Nat.le_refl _) (by rw [Nat.pow_zero, Nat.mul_one]; omega)
    obtain ⟨μ', y1, y2, y3⟩ := k_note (L := L) (xs := xs) (D := D + 3) (kp := kp) hp hN hS (by rw [hk]) (by rw [hk])
    rw [Nat.pow_zero, Nat.mul_one]
    refine ⟨μ', ⟨Nat.le_of_ble_eq_true rfl, ?_⟩, y2, y3⟩
    refine e_2 rfl rfl ?_
    refine e_4 rfl rfl ?_
    refine e_gi rfl (p_19 hp) rfl (by decide) ?_
    rw [hS.1]
    refine e_38 rfl (fun h1 => ?_) (fun h1 => ?_)
    · exact absurd h1 (nI_nlt (Nat.le_refl _) (by omega))
    · refine e_4 rfl rfl ?_
      refine e_v0v rfl (by first | exact p_19 hp) rfl (by decide) rfl (Nat.le_of_ble_eq_true rfl) (y1) ?_
      exact e_rv rfl (rfl)
  | succ m ihm =>
    intro d q A ρ μ hd hp hS hI h0 hpv
    obtain ⟨μ', y1, y2, y3⟩ := k_exloop (L := L) (xs := xs) (D := D) (kp := kp) hN hg hd hI h0 hpv (fun q' A ρ' μ a b c e f => ihm (d + 1) q' A ρ' μ (by omega) a b c e f) 10 0 A μ (by omega) hp hS
    rw [Nat.add_zero, Nat.mul_comm 10 (10 ^ m), ← Nat.pow_succ, Nat.mul_comm 10 q, Nat.mul_assoc, Nat.mul_comm 10 (10 ^ m), ← Nat.pow_succ] at y3
    refine ⟨μ', ⟨Nat.le_of_ble_eq_true rfl, ?_⟩, y2, y3⟩
    refine e_2 rfl rfl ?_
    refine e_4 rfl rfl ?_
    refine e_gi rfl (p_19 hp) rfl (by decide) ?_
    rw [hS.1]
    refine e_38 rfl (fun h1 => ?_) (fun h1 => ?_)
    · refine e_4 rfl rfl ?_
      refine e_gr rfl (p_19 hp) rfl (p_r19_4 hp) ?_
      refine e_2 rfl rfl ?_
      refine e_gaq (i := d) rfl (p_21 hp) (by decide) (by decide) (by first | rfl | (simp only [← nI_add, ← pk_mul]; rfl) | (simp only [nI_add, pk_mul, nI_1]; done)) (by omega) (by decide) (p_r21 hp (by omega)) ?_
      refine e_7 rfl rfl ?_
      refine e_4 rfl rfl ?_
      refine e_gr rfl (p_19 hp) rfl (p_r19_4 hp) ?_
      refine e_2 rfl rfl ?_
      refine e_0 rfl ?_
      refine e_9 rfl ?_
      refine e_gaq (i := (d + 1)) rfl (p_21 hp) (by decide) (by decide) (by first | rfl | (simp only [← nI_add, ← pk_mul]; rfl) | (simp only [nI_add, pk_mul, nI_1]; done)) (by omega) (by decide) (p_r21 hp (by omega)) ?_
      refine e_7 rfl rfl ?_
      refine e_0 rfl ?_
      refine e_5 rfl rfl ?_
      exact y1
    · exact absurd (nI_lt (by omega) (by omega)) h1
def A0t : accT := (0, 0, -9, 0)
def stM (μ : ps_M) (N : Nat) : ps_M := ps_sI (ps_sI (ps_sI (ps_sI μ 19 6 (nI N)) 19 1 (-9)) 19 2 0) 19 3 0
theorem st_se : SEf μ (stM μ N) := ((SEf.sI (k := 19) (i := 6) (x := nI N) (by omega)).tr (SEf.sI (k := 19) (i := 1) (x := -9) (by omega))).tr ((SEf.sI (k := 19) (i := 2) (x := 0) (by omega)).tr (SEf.sI (k := 19) (i := 3) (x := 0) (by omega)))
theorem st_4 {σ0 : Nat → Int32} (e0 : shG (ps_i μ) 4 = σ0) : shG (ps_i (stM μ N)) 4 = σ0 := by
  rw [← e0]
  exact shG_cells (fun a i h1 h2 => st_se.2.2.2.2.2 a i (by omega))
theorem st_fl {ν : ps_M} (hp : isPs ν) {σ0 : Nat → Int32} (e4 : shG (ps_i ν) 4 = σ0) (hI : shI g σ0) : ps_Ev (ps_XX L xs) (D + 1) j_X3_follow [.ref 23, .ref 4] ν none (SM ν 23 σ0) := by
  have w := hI.2.2.1
  have e7 : ps_i ν 4 7 = σ0 7 := by rw [← e4]; rfl
  rw [← e7] at w
  have fl := ss_follow (L := L) (xs := xs) (d := D) (μ := ν) (q := 23) (c := 4) (σ := shG (ps_i ν) 23) (p_sh hp (by decide)) (p_sh4 hp) (by omega) w
  rw [SM_self, e4] at fl
  exact fl
theorem st_sk {ν : ps_M} (hp : isPs ν) {σ0 : Nat → Int32} (e4 : shG (ps_i ν) 4 = σ0) : ps_Ev (ps_XX L xs) (D + 1) j_X3_isSunk [.ref 4] (SM ν 23 σ0) (some (.int (b2i (sunkF σ0)))) (SM ν 23 σ0) := by
  have z4 : ps_i ν 4 0 = σ0 0 := by rw [← e4]; rfl
  have hsk := sp_isSunk (X := ps_XX L xs) (d := D) (μ := SM ν 23 σ0) (b := 4) (z := 0) (by exact (p_sh4 hp).1)
  rw [SM_off (by omega), z4] at hsk
  exact hsk
theorem st_S (hg : g ≤ 6) {σ0 : Nat → Int32} : SEs g N A0t 0 0 (fun _ => σ0) (SM (stM μ N) 23 σ0) := by
  refine ⟨?_, ?_, ?_, ?_, fun h => absurd rfl h, fun j hj => absurd hj (by omega), fun e he => ?_⟩
  · rw [SM_off (by omega)]; unfold stM; rw [sI_off (by omega), sI_off (by omega), sI_off (by omega), sI_at]
  · rw [SM_off (by omega)]; unfold stM; rw [sI_off (by omega), sI_at]; rfl
  · rw [SM_off (by omega)]; unfold stM; rw [sI_at]; rfl
  · rw [SM_off (by omega)]; unfold stM; rw [sI_off (by omega), sI_off (by omega), sI_at]; rfl
  · obtain rfl : e = 0 := by omega
    exact eqS.of27 hg (fun k hk => shG_SM hk)
theorem kp_none {σ0 : Nat → Int32} (hs : sunkF σ0) (n x : Nat) (A : accT) : fdA (kpF g N σ0) N n x A = A := fd_none n x A (fun y _ _ => by unfold kpF; rw [if_pos hs])
theorem kp_pv {σ0 : Nat → Int32} (hs : ¬ sunkF σ0) (m : Nat) (em : m = N) : PVk g N (kpF g N σ0) m 0 0 σ0 := fun x _ _ => by subst em; unfold kpF; rw [if_neg hs]
theorem st_ex (hp : isPs μ) (hN : N ≤ 4) {σ0 : Nat → Int32} (hI : shI g σ0) (h0 : 0 < σ0 8) (hs : ¬ sunkF σ0) (hS : SEs g N A0t 0 0 (fun _ => σ0) μ) : ∃ μ', ps_Ev (ps_XX L xs) (D + 9) j_X2_explore [.ref 19, .int (nI 0)] μ none μ' ∧ SEf μ μ' ∧ SEs g N (fdA (kpF g N σ0) N (10 ^ N) 0 A0t) 0 0 (fun _ => σ0) μ' := by
  obtain ⟨μ', y1, y2, y3⟩ := k_explore (L := L) (xs := xs) (D := D + 4 - N) (kp := kpF g N σ0) hN hI.1.1 N 0 0 A0t (fun _ => σ0) μ (Nat.zero_add N) hp hS hI h0 (kp_pv hs N rfl)
  rw [Nat.zero_mul] at y3
  exact ⟨μ', ev_d (by omega) y1, y2, y3⟩

end KSE
