-- ===== the law: its loop =====
section LOOP
variable {L : Nat} {xs : Nat → Int32} {W : Nat}
theorem lw_sw {i : Nat} {μ : ps_M} (h : Inv W μ) (hi : i + 6 ≤ L) (hL : L ≤ 3072) (hk : ∀ ν, Inv W ν → ps_To (ps_XX L xs) (ps_Ev (ps_XX L xs) 60) 237 ps_LK (1392, lwV i, [], ν)) : ∀ (k t : Nat), ([220, 253, 296, 329, 352, 415, 438, 471, 514, 537, 560, 593, 626, 659, 682, 695, 718, 741, 764, 787, 810, 843, 866, 889, 912, 945, 968, 1011, 1034, 1057, 1080, 1103, 1136, 1159, 1202, 1245, 1278, 1291, 1305, 1319, 1342, 1355, 1378] : List Nat)[k]? = some t → ps_To (ps_XX L xs) (ps_Ev (ps_XX L xs) 60) 237 ps_LK (t, lwV i, [], μ)
  | 0, t, ht => Option.some.inj ht ▸ lw_row h hi hL hk
  | 1, t, ht => Option.some.inj ht ▸ lw_lay h hi hL hk
  | 2, t, ht => Option.some.inj ht ▸ lw_at h hi hL hk
  | 3, t, ht => Option.some.inj ht ▸ lw_tear h hi hL hk
  | 4, t, ht => Option.some.inj ht ▸ lw_copy h hi hL hk
  | 5, t, ht => Option.some.inj ht ▸ lw_mean h hi hL hk
  | 6, t, ht => Option.some.inj ht ▸ lw_text h hi hL hk
  | 7, t, ht => Option.some.inj ht ▸ lw_put h hi hL hk
  | 8, t, ht => Option.some.inj ht ▸ lw_fault h hi hL hk
  | 9, t, ht => Option.some.inj ht ▸ lw_ship h hi hL hk
  | 10, t, ht => Option.some.inj ht ▸ lw_gang h hi hL hk
  | 11, t, ht => Option.some.inj ht ▸ lw_mark h hi hL hk
  | 12, t, ht => Option.some.inj ht ▸ lw_force h hi hL hk
  | 13, t, ht => Option.some.inj ht ▸ lw_tell h hi hL hk
  | 14, t, ht => Option.some.inj ht ▸ lw_can h hi hL hk
  | 15, t, ht => Option.some.inj ht ▸ lw_act h hi hL hk
  | 16, t, ht => Option.some.inj ht ▸ lw_undo h hi hL hk
  | 17, t, ht => Option.some.inj ht ▸ lw_keep h hi hL hk
  | 18, t, ht => Option.some.inj ht ▸ lw_on h hi hL hk
  | 19, t, ht => Option.some.inj ht ▸ lw_run h hi hL hk
  | 20, t, ht => Option.some.inj ht ▸ lw_best h hi hL hk
  | 21, t, ht => Option.some.inj ht ▸ lw_afloat h hi hL hk
  | 22, t, ht => Option.some.inj ht ▸ lw_firsts h hi hL hk
  | 23, t, ht => Option.some.inj ht ▸ lw_rota h hi hL hk
  | 24, t, ht => Option.some.inj ht ▸ lw_watch h hi hL hk
  | 25, t, ht => Option.some.inj ht ▸ lw_lasts h hi hL hk
  | 26, t, ht => Option.some.inj ht ▸ lw_inches h hi hL hk
  | 27, t, ht => Option.some.inj ht ▸ lw_lighten h hi hL hk
  | 28, t, ht => Option.some.inj ht ▸ lw_rest h hi hL hk
  | 29, t, ht => Option.some.inj ht ▸ lw_gains h hi hL hk
  | 30, t, ht => Option.some.inj ht ▸ lw_feigns h hi hL hk
  | 31, t, ht => Option.some.inj ht ▸ lw_kinds h hi hL hk
  | 32, t, ht => Option.some.inj ht ▸ lw_leaks h hi hL hk
  | 33, t, ht => Option.some.inj ht ▸ lw_odds h hi hL hk
  | 34, t, ht => Option.some.inj ht ▸ lw_mid h hi hL hk
  | 35, t, ht => Option.some.inj ht ▸ lw_lots h hi hL hk
  | 36, t, ht => Option.some.inj ht ▸ lw_asked h hi hL hk
  | 37, t, ht => Option.some.inj ht ▸ lw_upper h hi hL hk
  | 38, t, ht => Option.some.inj ht ▸ lw_lower h hi hL hk
  | 39, t, ht => Option.some.inj ht ▸ lw_count h hi hL hk
  | 40, t, ht => Option.some.inj ht ▸ lw_finding h hi hL hk
  | 41, t, ht => Option.some.inj ht ▸ lw_findings h hi hL hk
  | 42, t, ht => Option.some.inj ht ▸ lw_digest h hi hL hk
  | n + 43, t, ht => by exact absurd ht (by rw [List.getElem?_eq_none (by show 43 ≤ n + 43; omega)]; exact nofun)
theorem lw_loop (hL : L ≤ 3072) (hW : W ≤ 7302250) : ∀ (n i : Nat) (μ : ps_M), L ≤ i + 6 * n + 5 → i ≤ L → Inv W μ → ps_To (ps_XX L xs) (ps_Ev (ps_XX L xs) 60) 237 ps_LK (18, lwV i, [], μ) := by
  have step : ∀ (n i : Nat) (μ : ps_M), (∀ ν, i + 6 ≤ L → Inv W ν → ps_To (ps_XX L xs) (ps_Ev (ps_XX L xs) 60) 237 ps_LK (1392, lwV i, [], ν)) → L ≤ i + 6 * n + 5 → i ≤ L → Inv W μ → ps_To (ps_XX L xs) (ps_Ev (ps_XX L xs) 60) 237 ps_LK (18, lwV i, [], μ) := by
    intro n i μ hk hn hi h
    refine e_2 rfl rfl ?_
    refine e_4 rfl rfl ?_
    refine e_54x rfl (by decide) ?_
    refine e_0 rfl ?_
    refine e_10 rfl ?_
    refine e_40 rfl (fun _ => ?_) (fun q => ?_)
    · refine e_0 rfl ?_
      exact e_K ⟨⟨_, _, _, _, rfl⟩, rfl, by show ps_n μ ≤ 600000; rw [h.2.2.1]; omega, by show ps_w μ ≤ 7302250; rw [h.2.2.2.1]; exact hW⟩
    · have hi6 : i + 6 ≤ L := by
        refine Classical.byContradiction fun z => q ?_
        show nI L - 6 < nI i
        by_cases y : 6 ≤ L
        · rw [show nI L - 6 = nI (L - 6) from pk_sub (b := 6) y]
          exact nI_lt (by omega) (by omega)
        · refine Int32.lt_of_lt_of_le ?_ (nI_pos' (n := i) (by omega))
          rcases (show L = 0 ∨ L = 1 ∨ L = 2 ∨ L = 3 ∨ L = 4 ∨ L = 5 by omega) with rfl | rfl | rfl | rfl | rfl | rfl <;> decide
      refine e_4 rfl rfl ?_
      refine e_2 rfl rfl ?_
      refine e_48x rfl (by decide) (show vp_in (nI i) L from ps_in_of (n := L) (by omega) (nI_pos (by omega)) (show ¬ nI L ≤ nI i from nI_ge (a := i) (b := L) (by omega) (by omega))) ?_
      refine e_0 rfl ?_
      refine e_12 rfl ?_
      exact e_sw rfl rfl (fun _ => hk μ hi6 h) (fun k t ht _ => lw_sw h hi6 hL (fun ν hν => hk ν hi6 hν) k t ht)
  intro n
  induction n with
  | zero => exact fun i μ hn hi h => step 0 i μ (fun ν h6 _ => absurd h6 (by omega)) hn hi h
  | succ n ih => exact fun i μ hn hi h => step (n + 1) i μ (fun ν h6 hν => e_8 (lv' := lwV (i + 6)) rfl rfl (by show _ = [(3, Value.int (nI (i + 6))), (2, .ref 83), (1, .ref 0), (0, .ref (ps_X + 4))]; rw [show nI (i + 6) = nI i + 6 from Int32.ofNat_add i 6]; rfl) (e_42 rfl (ih (i + 6) ν (by omega) h6 hν))) hn hi h
end LOOP
