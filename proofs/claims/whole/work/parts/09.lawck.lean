-- ===== the law =====
theorem ps_L0 : (List.range 70).all (fun i => ps_ck 237 (0 + i)) = true := by decide +kernel
theorem ps_L1 : (List.range 70).all (fun i => ps_ck 237 (70 + i)) = true := by decide +kernel
theorem ps_L2 : (List.range 70).all (fun i => ps_ck 237 (140 + i)) = true := by decide +kernel
theorem ps_L3 : (List.range 70).all (fun i => ps_ck 237 (210 + i)) = true := by decide +kernel
theorem ps_L4 : (List.range 70).all (fun i => ps_ck 237 (280 + i)) = true := by decide +kernel
theorem ps_L5 : (List.range 70).all (fun i => ps_ck 237 (350 + i)) = true := by decide +kernel
theorem ps_L6 : (List.range 70).all (fun i => ps_ck 237 (420 + i)) = true := by decide +kernel
theorem ps_L7 : (List.range 70).all (fun i => ps_ck 237 (490 + i)) = true := by decide +kernel
theorem ps_L8 : (List.range 70).all (fun i => ps_ck 237 (560 + i)) = true := by decide +kernel
theorem ps_L9 : (List.range 70).all (fun i => ps_ck 237 (630 + i)) = true := by decide +kernel
theorem ps_L10 : (List.range 70).all (fun i => ps_ck 237 (700 + i)) = true := by decide +kernel
theorem ps_L11 : (List.range 70).all (fun i => ps_ck 237 (770 + i)) = true := by decide +kernel
theorem ps_L12 : (List.range 70).all (fun i => ps_ck 237 (840 + i)) = true := by decide +kernel
theorem ps_L13 : (List.range 70).all (fun i => ps_ck 237 (910 + i)) = true := by decide +kernel
theorem ps_L14 : (List.range 70).all (fun i => ps_ck 237 (980 + i)) = true := by decide +kernel
theorem ps_L15 : (List.range 70).all (fun i => ps_ck 237 (1050 + i)) = true := by decide +kernel
theorem ps_L16 : (List.range 70).all (fun i => ps_ck 237 (1120 + i)) = true := by decide +kernel
theorem ps_L17 : (List.range 70).all (fun i => ps_ck 237 (1190 + i)) = true := by decide +kernel
theorem ps_L18 : (List.range 70).all (fun i => ps_ck 237 (1260 + i)) = true := by decide +kernel
theorem ps_L19 : (List.range 70).all (fun i => ps_ck 237 (1330 + i)) = true := by decide +kernel
theorem ps_o237 (pc : Nat) : ps_ck 237 pc = true := by
  by_cases h : pc < 1400
  · have hh : ∀ (a : Nat), (List.range 70).all (fun i => ps_ck 237 (a + i)) = true → a ≤ pc → pc < a + 70 → ps_ck 237 pc = true := by
      intro a ha h1 h2
      have := List.all_eq_true.mp ha (pc - a) (List.mem_range.mpr (by omega))
      rwa [show a + (pc - a) = pc by omega] at this
    by_cases h0 : pc < 70
    · exact hh 0 ps_L0 (by omega) (by omega)
    by_cases h1 : pc < 140
    · exact hh 70 ps_L1 (by omega) (by omega)
    by_cases h2 : pc < 210
    · exact hh 140 ps_L2 (by omega) (by omega)
    by_cases h3 : pc < 280
    · exact hh 210 ps_L3 (by omega) (by omega)
    by_cases h4 : pc < 350
    · exact hh 280 ps_L4 (by omega) (by omega)
    by_cases h5 : pc < 420
    · exact hh 350 ps_L5 (by omega) (by omega)
    by_cases h6 : pc < 490
    · exact hh 420 ps_L6 (by omega) (by omega)
    by_cases h7 : pc < 560
    · exact hh 490 ps_L7 (by omega) (by omega)
    by_cases h8 : pc < 630
    · exact hh 560 ps_L8 (by omega) (by omega)
    by_cases h9 : pc < 700
    · exact hh 630 ps_L9 (by omega) (by omega)
    by_cases h10 : pc < 770
    · exact hh 700 ps_L10 (by omega) (by omega)
    by_cases h11 : pc < 840
    · exact hh 770 ps_L11 (by omega) (by omega)
    by_cases h12 : pc < 910
    · exact hh 840 ps_L12 (by omega) (by omega)
    by_cases h13 : pc < 980
    · exact hh 910 ps_L13 (by omega) (by omega)
    by_cases h14 : pc < 1050
    · exact hh 980 ps_L14 (by omega) (by omega)
    by_cases h15 : pc < 1120
    · exact hh 1050 ps_L15 (by omega) (by omega)
    by_cases h16 : pc < 1190
    · exact hh 1120 ps_L16 (by omega) (by omega)
    by_cases h17 : pc < 1260
    · exact hh 1190 ps_L17 (by omega) (by omega)
    by_cases h18 : pc < 1330
    · exact hh 1260 ps_L18 (by omega) (by omega)
    by_cases h19 : pc < 1400
    · exact hh 1330 ps_L19 (by omega) (by omega)
    omega
  · have e : ps_ins 237 pc = none := by show ps_c237 pc = none; unfold ps_c237; rw [ps_blt h]; rfl
    unfold ps_ck; rw [e]
