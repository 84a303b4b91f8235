-- ===== the law: its loop =====
section LOOP
variable {L : Nat} {xs : Nat → Int32} {W : Nat}
theorem lw_sw {i : Nat} {μ : ps_M} (h : Inv W μ) (hi : i + 6 ≤ L) (hL : L ≤ 3072) (hk : ∀ ν, Inv W ν → ps_To (ps_XX L xs) (ps_Ev (ps_XX L xs) 60) 237 ps_LK (1392, lwV i, [], ν)) : ∀ (k t : Nat), ([220, 253, 296, 329, 352, 415, 438, 471, 514, 537, 560, 593, 626, 659, 682, 695, 718, 741, 764, 787, 810, 843, 866, 889, 912, 945, 968, 1011, 1034, 1057, 1080, 1103, 1136, 1159, 1202, 1245, 1278, 1291, 1305, 1319, 1342, 1355, 1378] : List Nat)[k]? = some t → ps_To (ps_XX L xs) (ps_Ev (ps_XX L xs) 60) 237 ps_LK (t, lwV i, [], μ)
  | 0, t, ht => Option.some.inj ht ▸ lw_row h hi hL hk
  | 1, t, ht => Option.some.inj ht ▸ lw_lay h hi hL hk
  | 2, t, ht => Option.some.inj ht ▸ lw_at h hi hL hk
  | 3, t, ht => Option.some.inj ht ▸ lw_tear h hi hL hk
  | 4, t, ht => Option.some.inj ht ▸ lw_copy h hi hL hk
  | 5, t, ht => Option.some.inj ht ▸ lw_mean h hi hL hk
  | 6, t, ht => Option.some.inj ht ▸ lw_text h hi hL hk
  | 7, t, ht => Option.some.inj ht ▸ lw_put h hi hL hk
  | 8, t, ht => Option.some.inj ht ▸ lw_fault h hi hL hk
  | 9, t, ht => Option.some.inj ht ▸ lw_ship h hi hL hk
  | 10, t, ht => Option.some.inj ht ▸ lw_gang h hi hL hk
  | 11, t, ht => Option.some.inj ht ▸ lw_mark h hi hL hk
  | 12, t, ht => Option.some.inj ht ▸ lw_force h hi hL hk
  | 13, t, ht => Option.some.inj ht ▸ lw_tell h hi hL hk
  | 14, t, ht => Option.some.inj ht ▸ lw_can h hi hL hk
  | 15, t, ht => Option.some.inj ht ▸ lw_act h hi hL hk
  | 16, t, ht => Option.some.inj ht ▸ lw_undo h hi hL hk
  | 17, t, ht => Option.some.inj ht ▸ lw_keep h hi hL hk
  | 18, t, ht => Option.some.inj ht ▸ lw_on h hi hL hk
  | 19, t, ht => Option.some.inj ht ▸ lw_run h hi hL hk
  | 20, t, ht => Option.some.inj ht ▸ lw_best h hi hL hk
  | 21, t, ht => Option.some.inj ht ▸ lw_afloat h hi hL hk
  | 22, t, ht => Option.some.inj ht ▸ lw_firsts h hi hL hk
  | 23, t, ht => Option.some.inj ht ▸ lw_rota h hi hL hk
  | 24, t, ht => Option.some.inj ht ▸ lw_watch h hi hL hk
  | 25, t, ht => Option.some.inj ht ▸ lw_lasts h hi hL hk
  | 26, t, ht => Option.some.inj ht ▸ lw_inches h hi hL hk
  | 27, t, ht => Option.some.inj ht ▸ lw_lighten h hi hL hk
  | 28, t, ht => Option.some.inj ht ▸ lw_rest h hi hL hk
  | 29, t, ht => Option.some.inj ht ▸ lw_gains h hi hL hk
  | 30, t, ht => Option.some.inj ht ▸ lw_feigns h hi hL hk
  | 31, t, ht => Option.some.inj ht ▸ lw_kinds h hi hL hk
  | 32, t, ht => Option.some.inj ht ▸ lw_leaks h hi hL hk
  | 33, t, ht => Option.some.inj ht ▸ lw_odds h hi hL hk
  | 34, t, ht => Option.some.inj ht ▸ lw_mid h hi hL hk
  | 35, t, ht => Option.some.inj ht ▸ lw_lots h hi hL hk
  | 36, t, ht => Option.some.inj ht ▸ lw_asked h hi hL hk
  | 37, t, ht => Option.some.inj ht ▸ lw_upper h hi hL hk
  | 38, t, ht => Option.some.inj ht ▸ lw_lower h hi hL hk
  | 39, t, ht => Option.some.inj ht ▸ lw_count h hi hL hk
  | 40, t, ht => Option.some.inj ht ▸ lw_finding h hi hL hk
  | 41, t, ht => Option.some.inj ht ▸ lw_findings h hi hL hk
  | 42, t, ht => Option.some.inj ht ▸ lw_digest h hi hL hk
  | n + 43, t, ht => by exact absurd ht (by rw [List.getElem?_eq_none (by show 43 ≤ n + 43; omega)]; exact fun q => Option.noConfusion q)
theorem lw_loop (hL : L ≤ 3072) (hW : W ≤ 7302250) : ∀ (n i : Nat) (μ : ps_M), L ≤ i + 6 * n + 5 → i ≤ L → Inv W μ → ps_To (ps_XX L xs) (ps_Ev (ps_XX L xs) 60) 237 ps_LK (18, lwV i, [], μ) := by
  intro n
  induction n with
  | zero => sorry
  | succ n ih => sorry
end LOOP
