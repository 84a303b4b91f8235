-- ===== all methods =====
theorem ps_o0 (pc : Nat) : ps_ck 0 pc = true := by
  by_cases h : pc < 16
  · exact List.all_eq_true.mp (by decide +kernel : (List.range 16).all (ps_ck 0) = true) pc (List.mem_range.mpr h)
  · have e : ps_ins 0 pc = none := by show ps_c0 pc = none; unfold ps_c0; rw [ps_blt h]; rfl
    unfold ps_ck; rw [e]
theorem ps_o1 (pc : Nat) : ps_ck 1 pc = true := by
  by_cases h : pc < 91
  · exact List.all_eq_true.mp (by decide +kernel : (List.range 91).all (ps_ck 1) = true) pc (List.mem_range.mpr h)
  · have e : ps_ins 1 pc = none := by show ps_c1 pc = none; unfold ps_c1; rw [ps_blt h]; rfl
    unfold ps_ck; rw [e]
theorem ps_o2 (pc : Nat) : ps_ck 2 pc = true := by
  by_cases h : pc < 34
  · exact List.all_eq_true.mp (by decide +kernel : (List.range 34).all (ps_ck 2) = true) pc (List.mem_range.mpr h)
  · have e : ps_ins 2 pc = none := by show ps_c2 pc = none; unfold ps_c2; rw [ps_blt h]; rfl
    unfold ps_ck; rw [e]
theorem ps_o3 (pc : Nat) : ps_ck 3 pc = true := by
  by_cases h : pc < 23
  · exact List.all_eq_true.mp (by decide +kernel : (List.range 23).all (ps_ck 3) = true) pc (List.mem_range.mpr h)
  · have e : ps_ins 3 pc = none := by show ps_c3 pc = none; unfold ps_c3; rw [ps_blt h]; rfl
    unfold ps_ck; rw [e]
theorem ps_o4 (pc : Nat) : ps_ck 4 pc = true := by
  by_cases h : pc < 165
  · exact List.all_eq_true.mp (by decide +kernel : (List.range 165).all (ps_ck 4) = true) pc (List.mem_range.mpr h)
  · have e : ps_ins 4 pc = none := by show ps_c4 pc = none; unfold ps_c4; rw [ps_blt h]; rfl
    unfold ps_ck; rw [e]
theorem ps_o5 (pc : Nat) : ps_ck 5 pc = true := by
  by_cases h : pc < 32
  · exact List.all_eq_true.mp (by decide +kernel : (List.range 32).all (ps_ck 5) = true) pc (List.mem_range.mpr h)
  · have e : ps_ins 5 pc = none := by show ps_c5 pc = none; unfold ps_c5; rw [ps_blt h]; rfl
    unfold ps_ck; rw [e]
theorem ps_o6 (pc : Nat) : ps_ck 6 pc = true := by
  by_cases h : pc < 58
  · exact List.all_eq_true.mp (by decide +kernel : (List.range 58).all (ps_ck 6) = true) pc (List.mem_range.mpr h)
  · have e : ps_ins 6 pc = none := by show ps_c6 pc = none; unfold ps_c6; rw [ps_blt h]; rfl
    unfold ps_ck; rw [e]
theorem ps_o7 (pc : Nat) : ps_ck 7 pc = true := by
  by_cases h : pc < 32
  · exact List.all_eq_true.mp (by decide +kernel : (List.range 32).all (ps_ck 7) = true) pc (List.mem_range.mpr h)
  · have e : ps_ins 7 pc = none := by show ps_c7 pc = none; unfold ps_c7; rw [ps_blt h]; rfl
    unfold ps_ck; rw [e]
theorem ps_o8 (pc : Nat) : ps_ck 8 pc = true := by
  by_cases h : pc < 13
  · exact List.all_eq_true.mp (by decide +kernel : (List.range 13).all (ps_ck 8) = true) pc (List.mem_range.mpr h)
  · have e : ps_ins 8 pc = none := by show ps_c8 pc = none; unfold ps_c8; rw [ps_blt h]; rfl
    unfold ps_ck; rw [e]
theorem ps_o9 (pc : Nat) : ps_ck 9 pc = true := by
  by_cases h : pc < 19
  · exact List.all_eq_true.mp (by decide +kernel : (List.range 19).all (ps_ck 9) = true) pc (List.mem_range.mpr h)
  · have e : ps_ins 9 pc = none := by show ps_c9 pc = none; unfold ps_c9; rw [ps_blt h]; rfl
    unfold ps_ck; rw [e]
theorem ps_o10 (pc : Nat) : ps_ck 10 pc = true := by
  by_cases h : pc < 32
  · exact List.all_eq_true.mp (by decide +kernel : (List.range 32).all (ps_ck 10) = true) pc (List.mem_range.mpr h)
  · have e : ps_ins 10 pc = none := by show ps_c10 pc = none; unfold ps_c10; rw [ps_blt h]; rfl
    unfold ps_ck; rw [e]
theorem ps_o11 (pc : Nat) : ps_ck 11 pc = true := by
  by_cases h : pc < 28
  · exact List.all_eq_true.mp (by decide +kernel : (List.range 28).all (ps_ck 11) = true) pc (List.mem_range.mpr h)
  · have e : ps_ins 11 pc = none := by show ps_c11 pc = none; unfold ps_c11; rw [ps_blt h]; rfl
    unfold ps_ck; rw [e]
theorem ps_o12 (pc : Nat) : ps_ck 12 pc = true := by
  by_cases h : pc < 25
  · exact List.all_eq_true.mp (by decide +kernel : (List.range 25).all (ps_ck 12) = true) pc (List.mem_range.mpr h)
  · have e : ps_ins 12 pc = none := by show ps_c12 pc = none; unfold ps_c12; rw [ps_blt h]; rfl
    unfold ps_ck; rw [e]
theorem ps_o13 (pc : Nat) : ps_ck 13 pc = true := by
  by_cases h : pc < 30
  · exact List.all_eq_true.mp (by decide +kernel : (List.range 30).all (ps_ck 13) = true) pc (List.mem_range.mpr h)
  · have e : ps_ins 13 pc = none := by show ps_c13 pc = none; unfold ps_c13; rw [ps_blt h]; rfl
    unfold ps_ck; rw [e]
theorem ps_o14 (pc : Nat) : ps_ck 14 pc = true := by
  by_cases h : pc < 32
  · exact List.all_eq_true.mp (by decide +kernel : (List.range 32).all (ps_ck 14) = true) pc (List.mem_range.mpr h)
  · have e : ps_ins 14 pc = none := by show ps_c14 pc = none; unfold ps_c14; rw [ps_blt h]; rfl
    unfold ps_ck; rw [e]
theorem ps_o15 (pc : Nat) : ps_ck 15 pc = true := by
  by_cases h : pc < 53
  · exact List.all_eq_true.mp (by decide +kernel : (List.range 53).all (ps_ck 15) = true) pc (List.mem_range.mpr h)
  · have e : ps_ins 15 pc = none := by show ps_c15 pc = none; unfold ps_c15; rw [ps_blt h]; rfl
    unfold ps_ck; rw [e]
theorem ps_o16 (pc : Nat) : ps_ck 16 pc = true := by
  by_cases h : pc < 52
  · exact List.all_eq_true.mp (by decide +kernel : (List.range 52).all (ps_ck 16) = true) pc (List.mem_range.mpr h)
  · have e : ps_ins 16 pc = none := by show ps_c16 pc = none; unfold ps_c16; rw [ps_blt h]; rfl
    unfold ps_ck; rw [e]
theorem ps_o17 (pc : Nat) : ps_ck 17 pc = true := by
  by_cases h : pc < 88
  · exact List.all_eq_true.mp (by decide +kernel : (List.range 88).all (ps_ck 17) = true) pc (List.mem_range.mpr h)
  · have e : ps_ins 17 pc = none := by show ps_c17 pc = none; unfold ps_c17; rw [ps_blt h]; rfl
    unfold ps_ck; rw [e]
theorem ps_o18 (pc : Nat) : ps_ck 18 pc = true := by
  by_cases h : pc < 87
  · exact List.all_eq_true.mp (by decide +kernel : (List.range 87).all (ps_ck 18) = true) pc (List.mem_range.mpr h)
  · have e : ps_ins 18 pc = none := by show ps_c18 pc = none; unfold ps_c18; rw [ps_blt h]; rfl
    unfold ps_ck; rw [e]
theorem ps_o19 (pc : Nat) : ps_ck 19 pc = true := by
  by_cases h : pc < 29
  · exact List.all_eq_true.mp (by decide +kernel : (List.range 29).all (ps_ck 19) = true) pc (List.mem_range.mpr h)
  · have e : ps_ins 19 pc = none := by show ps_c19 pc = none; unfold ps_c19; rw [ps_blt h]; rfl
    unfold ps_ck; rw [e]
theorem ps_o20 (pc : Nat) : ps_ck 20 pc = true := by
  by_cases h : pc < 47
  · exact List.all_eq_true.mp (by decide +kernel : (List.range 47).all (ps_ck 20) = true) pc (List.mem_range.mpr h)
  · have e : ps_ins 20 pc = none := by show ps_c20 pc = none; unfold ps_c20; rw [ps_blt h]; rfl
    unfold ps_ck; rw [e]
theorem ps_o21 (pc : Nat) : ps_ck 21 pc = true := by
  by_cases h : pc < 50
  · exact List.all_eq_true.mp (by decide +kernel : (List.range 50).all (ps_ck 21) = true) pc (List.mem_range.mpr h)
  · have e : ps_ins 21 pc = none := by show ps_c21 pc = none; unfold ps_c21; rw [ps_blt h]; rfl
    unfold ps_ck; rw [e]
theorem ps_o22 (pc : Nat) : ps_ck 22 pc = true := by
  by_cases h : pc < 118
  · exact List.all_eq_true.mp (by decide +kernel : (List.range 118).all (ps_ck 22) = true) pc (List.mem_range.mpr h)
  · have e : ps_ins 22 pc = none := by show ps_c22 pc = none; unfold ps_c22; rw [ps_blt h]; rfl
    unfold ps_ck; rw [e]
theorem ps_o23 (pc : Nat) : ps_ck 23 pc = true := by
  by_cases h : pc < 18
  · exact List.all_eq_true.mp (by decide +kernel : (List.range 18).all (ps_ck 23) = true) pc (List.mem_range.mpr h)
  · have e : ps_ins 23 pc = none := by show ps_c23 pc = none; unfold ps_c23; rw [ps_blt h]; rfl
    unfold ps_ck; rw [e]
theorem ps_o24 (pc : Nat) : ps_ck 24 pc = true := by
  by_cases h : pc < 15
  · exact List.all_eq_true.mp (by decide +kernel : (List.range 15).all (ps_ck 24) = true) pc (List.mem_range.mpr h)
  · have e : ps_ins 24 pc = none := by show ps_c24 pc = none; unfold ps_c24; rw [ps_blt h]; rfl
    unfold ps_ck; rw [e]
theorem ps_o25 (pc : Nat) : ps_ck 25 pc = true := by
  by_cases h : pc < 17
  · exact List.all_eq_true.mp (by decide +kernel : (List.range 17).all (ps_ck 25) = true) pc (List.mem_range.mpr h)
  · have e : ps_ins 25 pc = none := by show ps_c25 pc = none; unfold ps_c25; rw [ps_blt h]; rfl
    unfold ps_ck; rw [e]
theorem ps_o26 (pc : Nat) : ps_ck 26 pc = true := by
  by_cases h : pc < 20
  · exact List.all_eq_true.mp (by decide +kernel : (List.range 20).all (ps_ck 26) = true) pc (List.mem_range.mpr h)
  · have e : ps_ins 26 pc = none := by show ps_c26 pc = none; unfold ps_c26; rw [ps_blt h]; rfl
    unfold ps_ck; rw [e]
theorem ps_o27 (pc : Nat) : ps_ck 27 pc = true := by
  by_cases h : pc < 66
  · exact List.all_eq_true.mp (by decide +kernel : (List.range 66).all (ps_ck 27) = true) pc (List.mem_range.mpr h)
  · have e : ps_ins 27 pc = none := by show ps_c27 pc = none; unfold ps_c27; rw [ps_blt h]; rfl
    unfold ps_ck; rw [e]
theorem ps_o28 (pc : Nat) : ps_ck 28 pc = true := by
  by_cases h : pc < 28
  · exact List.all_eq_true.mp (by decide +kernel : (List.range 28).all (ps_ck 28) = true) pc (List.mem_range.mpr h)
  · have e : ps_ins 28 pc = none := by show ps_c28 pc = none; unfold ps_c28; rw [ps_blt h]; rfl
    unfold ps_ck; rw [e]
theorem ps_o29 (pc : Nat) : ps_ck 29 pc = true := by
  by_cases h : pc < 32
  · exact List.all_eq_true.mp (by decide +kernel : (List.range 32).all (ps_ck 29) = true) pc (List.mem_range.mpr h)
  · have e : ps_ins 29 pc = none := by show ps_c29 pc = none; unfold ps_c29; rw [ps_blt h]; rfl
    unfold ps_ck; rw [e]
theorem ps_o30 (pc : Nat) : ps_ck 30 pc = true := by
  by_cases h : pc < 44
  · exact List.all_eq_true.mp (by decide +kernel : (List.range 44).all (ps_ck 30) = true) pc (List.mem_range.mpr h)
  · have e : ps_ins 30 pc = none := by show ps_c30 pc = none; unfold ps_c30; rw [ps_blt h]; rfl
    unfold ps_ck; rw [e]
theorem ps_o31 (pc : Nat) : ps_ck 31 pc = true := by
  by_cases h : pc < 39
  · exact List.all_eq_true.mp (by decide +kernel : (List.range 39).all (ps_ck 31) = true) pc (List.mem_range.mpr h)
  · have e : ps_ins 31 pc = none := by show ps_c31 pc = none; unfold ps_c31; rw [ps_blt h]; rfl
    unfold ps_ck; rw [e]
theorem ps_o32 (pc : Nat) : ps_ck 32 pc = true := by
  by_cases h : pc < 152
  · exact List.all_eq_true.mp (by decide +kernel : (List.range 152).all (ps_ck 32) = true) pc (List.mem_range.mpr h)
  · have e : ps_ins 32 pc = none := by show ps_c32 pc = none; unfold ps_c32; rw [ps_blt h]; rfl
    unfold ps_ck; rw [e]
theorem ps_o33 (pc : Nat) : ps_ck 33 pc = true := by
  by_cases h : pc < 71
  · exact List.all_eq_true.mp (by decide +kernel : (List.range 71).all (ps_ck 33) = true) pc (List.mem_range.mpr h)
  · have e : ps_ins 33 pc = none := by show ps_c33 pc = none; unfold ps_c33; rw [ps_blt h]; rfl
    unfold ps_ck; rw [e]
theorem ps_o34 (pc : Nat) : ps_ck 34 pc = true := by
  by_cases h : pc < 19
  · exact List.all_eq_true.mp (by decide +kernel : (List.range 19).all (ps_ck 34) = true) pc (List.mem_range.mpr h)
  · have e : ps_ins 34 pc = none := by show ps_c34 pc = none; unfold ps_c34; rw [ps_blt h]; rfl
    unfold ps_ck; rw [e]
theorem ps_o35 (pc : Nat) : ps_ck 35 pc = true := by
  by_cases h : pc < 38
  · exact List.all_eq_true.mp (by decide +kernel : (List.range 38).all (ps_ck 35) = true) pc (List.mem_range.mpr h)
  · have e : ps_ins 35 pc = none := by show ps_c35 pc = none; unfold ps_c35; rw [ps_blt h]; rfl
    unfold ps_ck; rw [e]
theorem ps_o36 (pc : Nat) : ps_ck 36 pc = true := by
  by_cases h : pc < 26
  · exact List.all_eq_true.mp (by decide +kernel : (List.range 26).all (ps_ck 36) = true) pc (List.mem_range.mpr h)
  · have e : ps_ins 36 pc = none := by show ps_c36 pc = none; unfold ps_c36; rw [ps_blt h]; rfl
    unfold ps_ck; rw [e]
theorem ps_o37 (pc : Nat) : ps_ck 37 pc = true := by
  by_cases h : pc < 50
  · exact List.all_eq_true.mp (by decide +kernel : (List.range 50).all (ps_ck 37) = true) pc (List.mem_range.mpr h)
  · have e : ps_ins 37 pc = none := by show ps_c37 pc = none; unfold ps_c37; rw [ps_blt h]; rfl
    unfold ps_ck; rw [e]
theorem ps_o38 (pc : Nat) : ps_ck 38 pc = true := by
  by_cases h : pc < 55
  · exact List.all_eq_true.mp (by decide +kernel : (List.range 55).all (ps_ck 38) = true) pc (List.mem_range.mpr h)
  · have e : ps_ins 38 pc = none := by show ps_c38 pc = none; unfold ps_c38; rw [ps_blt h]; rfl
    unfold ps_ck; rw [e]
theorem ps_o39 (pc : Nat) : ps_ck 39 pc = true := by
  by_cases h : pc < 47
  · exact List.all_eq_true.mp (by decide +kernel : (List.range 47).all (ps_ck 39) = true) pc (List.mem_range.mpr h)
  · have e : ps_ins 39 pc = none := by show ps_c39 pc = none; unfold ps_c39; rw [ps_blt h]; rfl
    unfold ps_ck; rw [e]
theorem ps_o40 (pc : Nat) : ps_ck 40 pc = true := by
  by_cases h : pc < 38
  · exact List.all_eq_true.mp (by decide +kernel : (List.range 38).all (ps_ck 40) = true) pc (List.mem_range.mpr h)
  · have e : ps_ins 40 pc = none := by show ps_c40 pc = none; unfold ps_c40; rw [ps_blt h]; rfl
    unfold ps_ck; rw [e]
theorem ps_o41 (pc : Nat) : ps_ck 41 pc = true := by
  by_cases h : pc < 29
  · exact List.all_eq_true.mp (by decide +kernel : (List.range 29).all (ps_ck 41) = true) pc (List.mem_range.mpr h)
  · have e : ps_ins 41 pc = none := by show ps_c41 pc = none; unfold ps_c41; rw [ps_blt h]; rfl
    unfold ps_ck; rw [e]
theorem ps_o42 (pc : Nat) : ps_ck 42 pc = true := by
  by_cases h : pc < 41
  · exact List.all_eq_true.mp (by decide +kernel : (List.range 41).all (ps_ck 42) = true) pc (List.mem_range.mpr h)
  · have e : ps_ins 42 pc = none := by show ps_c42 pc = none; unfold ps_c42; rw [ps_blt h]; rfl
    unfold ps_ck; rw [e]
theorem ps_o43 (pc : Nat) : ps_ck 43 pc = true := by
  by_cases h : pc < 57
  · exact List.all_eq_true.mp (by decide +kernel : (List.range 57).all (ps_ck 43) = true) pc (List.mem_range.mpr h)
  · have e : ps_ins 43 pc = none := by show ps_c43 pc = none; unfold ps_c43; rw [ps_blt h]; rfl
    unfold ps_ck; rw [e]
theorem ps_o44 (pc : Nat) : ps_ck 44 pc = true := by
  by_cases h : pc < 10
  · exact List.all_eq_true.mp (by decide +kernel : (List.range 10).all (ps_ck 44) = true) pc (List.mem_range.mpr h)
  · have e : ps_ins 44 pc = none := by show ps_c44 pc = none; unfold ps_c44; rw [ps_blt h]; rfl
    unfold ps_ck; rw [e]
theorem ps_o45 (pc : Nat) : ps_ck 45 pc = true := by
  by_cases h : pc < 13
  · exact List.all_eq_true.mp (by decide +kernel : (List.range 13).all (ps_ck 45) = true) pc (List.mem_range.mpr h)
  · have e : ps_ins 45 pc = none := by show ps_c45 pc = none; unfold ps_c45; rw [ps_blt h]; rfl
    unfold ps_ck; rw [e]
theorem ps_o46 (pc : Nat) : ps_ck 46 pc = true := by
  by_cases h : pc < 18
  · exact List.all_eq_true.mp (by decide +kernel : (List.range 18).all (ps_ck 46) = true) pc (List.mem_range.mpr h)
  · have e : ps_ins 46 pc = none := by show ps_c46 pc = none; unfold ps_c46; rw [ps_blt h]; rfl
    unfold ps_ck; rw [e]
theorem ps_o47 (pc : Nat) : ps_ck 47 pc = true := by
  by_cases h : pc < 23
  · exact List.all_eq_true.mp (by decide +kernel : (List.range 23).all (ps_ck 47) = true) pc (List.mem_range.mpr h)
  · have e : ps_ins 47 pc = none := by show ps_c47 pc = none; unfold ps_c47; rw [ps_blt h]; rfl
    unfold ps_ck; rw [e]
theorem ps_o48 (pc : Nat) : ps_ck 48 pc = true := by
  by_cases h : pc < 46
  · exact List.all_eq_true.mp (by decide +kernel : (List.range 46).all (ps_ck 48) = true) pc (List.mem_range.mpr h)
  · have e : ps_ins 48 pc = none := by show ps_c48 pc = none; unfold ps_c48; rw [ps_blt h]; rfl
    unfold ps_ck; rw [e]
theorem ps_o49 (pc : Nat) : ps_ck 49 pc = true := by
  by_cases h : pc < 13
  · exact List.all_eq_true.mp (by decide +kernel : (List.range 13).all (ps_ck 49) = true) pc (List.mem_range.mpr h)
  · have e : ps_ins 49 pc = none := by show ps_c49 pc = none; unfold ps_c49; rw [ps_blt h]; rfl
    unfold ps_ck; rw [e]
theorem ps_o50 (pc : Nat) : ps_ck 50 pc = true := by
  by_cases h : pc < 19
  · exact List.all_eq_true.mp (by decide +kernel : (List.range 19).all (ps_ck 50) = true) pc (List.mem_range.mpr h)
  · have e : ps_ins 50 pc = none := by show ps_c50 pc = none; unfold ps_c50; rw [ps_blt h]; rfl
    unfold ps_ck; rw [e]
theorem ps_o51 (pc : Nat) : ps_ck 51 pc = true := by
  by_cases h : pc < 29
  · exact List.all_eq_true.mp (by decide +kernel : (List.range 29).all (ps_ck 51) = true) pc (List.mem_range.mpr h)
  · have e : ps_ins 51 pc = none := by show ps_c51 pc = none; unfold ps_c51; rw [ps_blt h]; rfl
    unfold ps_ck; rw [e]
theorem ps_o52 (pc : Nat) : ps_ck 52 pc = true := by
  by_cases h : pc < 30
  · exact List.all_eq_true.mp (by decide +kernel : (List.range 30).all (ps_ck 52) = true) pc (List.mem_range.mpr h)
  · have e : ps_ins 52 pc = none := by show ps_c52 pc = none; unfold ps_c52; rw [ps_blt h]; rfl
    unfold ps_ck; rw [e]
theorem ps_o53 (pc : Nat) : ps_ck 53 pc = true := by
  by_cases h : pc < 30
  · exact List.all_eq_true.mp (by decide +kernel : (List.range 30).all (ps_ck 53) = true) pc (List.mem_range.mpr h)
  · have e : ps_ins 53 pc = none := by show ps_c53 pc = none; unfold ps_c53; rw [ps_blt h]; rfl
    unfold ps_ck; rw [e]
theorem ps_o54 (pc : Nat) : ps_ck 54 pc = true := by
  by_cases h : pc < 138
  · exact List.all_eq_true.mp (by decide +kernel : (List.range 138).all (ps_ck 54) = true) pc (List.mem_range.mpr h)
  · have e : ps_ins 54 pc = none := by show ps_c54 pc = none; unfold ps_c54; rw [ps_blt h]; rfl
    unfold ps_ck; rw [e]
theorem ps_o55 (pc : Nat) : ps_ck 55 pc = true := by
  by_cases h : pc < 139
  · exact List.all_eq_true.mp (by decide +kernel : (List.range 139).all (ps_ck 55) = true) pc (List.mem_range.mpr h)
  · have e : ps_ins 55 pc = none := by show ps_c55 pc = none; unfold ps_c55; rw [ps_blt h]; rfl
    unfold ps_ck; rw [e]
theorem ps_o56 (pc : Nat) : ps_ck 56 pc = true := by
  by_cases h : pc < 199
  · exact List.all_eq_true.mp (by decide +kernel : (List.range 199).all (ps_ck 56) = true) pc (List.mem_range.mpr h)
  · have e : ps_ins 56 pc = none := by show ps_c56 pc = none; unfold ps_c56; rw [ps_blt h]; rfl
    unfold ps_ck; rw [e]
theorem ps_o57 (pc : Nat) : ps_ck 57 pc = true := by
  by_cases h : pc < 37
  · exact List.all_eq_true.mp (by decide +kernel : (List.range 37).all (ps_ck 57) = true) pc (List.mem_range.mpr h)
  · have e : ps_ins 57 pc = none := by show ps_c57 pc = none; unfold ps_c57; rw [ps_blt h]; rfl
    unfold ps_ck; rw [e]
theorem ps_o58 (pc : Nat) : ps_ck 58 pc = true := by
  by_cases h : pc < 62
  · exact List.all_eq_true.mp (by decide +kernel : (List.range 62).all (ps_ck 58) = true) pc (List.mem_range.mpr h)
  · have e : ps_ins 58 pc = none := by show ps_c58 pc = none; unfold ps_c58; rw [ps_blt h]; rfl
    unfold ps_ck; rw [e]
theorem ps_o59 (pc : Nat) : ps_ck 59 pc = true := by
  by_cases h : pc < 47
  · exact List.all_eq_true.mp (by decide +kernel : (List.range 47).all (ps_ck 59) = true) pc (List.mem_range.mpr h)
  · have e : ps_ins 59 pc = none := by show ps_c59 pc = none; unfold ps_c59; rw [ps_blt h]; rfl
    unfold ps_ck; rw [e]
theorem ps_o60 (pc : Nat) : ps_ck 60 pc = true := by
  by_cases h : pc < 39
  · exact List.all_eq_true.mp (by decide +kernel : (List.range 39).all (ps_ck 60) = true) pc (List.mem_range.mpr h)
  · have e : ps_ins 60 pc = none := by show ps_c60 pc = none; unfold ps_c60; rw [ps_blt h]; rfl
    unfold ps_ck; rw [e]
theorem ps_o61 (pc : Nat) : ps_ck 61 pc = true := by
  by_cases h : pc < 114
  · exact List.all_eq_true.mp (by decide +kernel : (List.range 114).all (ps_ck 61) = true) pc (List.mem_range.mpr h)
  · have e : ps_ins 61 pc = none := by show ps_c61 pc = none; unfold ps_c61; rw [ps_blt h]; rfl
    unfold ps_ck; rw [e]
theorem ps_o62 (pc : Nat) : ps_ck 62 pc = true := by
  by_cases h : pc < 59
  · exact List.all_eq_true.mp (by decide +kernel : (List.range 59).all (ps_ck 62) = true) pc (List.mem_range.mpr h)
  · have e : ps_ins 62 pc = none := by show ps_c62 pc = none; unfold ps_c62; rw [ps_blt h]; rfl
    unfold ps_ck; rw [e]
theorem ps_o63 (pc : Nat) : ps_ck 63 pc = true := by
  by_cases h : pc < 37
  · exact List.all_eq_true.mp (by decide +kernel : (List.range 37).all (ps_ck 63) = true) pc (List.mem_range.mpr h)
  · have e : ps_ins 63 pc = none := by show ps_c63 pc = none; unfold ps_c63; rw [ps_blt h]; rfl
    unfold ps_ck; rw [e]
theorem ps_o64 (pc : Nat) : ps_ck 64 pc = true := by
  by_cases h : pc < 66
  · exact List.all_eq_true.mp (by decide +kernel : (List.range 66).all (ps_ck 64) = true) pc (List.mem_range.mpr h)
  · have e : ps_ins 64 pc = none := by show ps_c64 pc = none; unfold ps_c64; rw [ps_blt h]; rfl
    unfold ps_ck; rw [e]
theorem ps_o65 (pc : Nat) : ps_ck 65 pc = true := by
  by_cases h : pc < 41
  · exact List.all_eq_true.mp (by decide +kernel : (List.range 41).all (ps_ck 65) = true) pc (List.mem_range.mpr h)
  · have e : ps_ins 65 pc = none := by show ps_c65 pc = none; unfold ps_c65; rw [ps_blt h]; rfl
    unfold ps_ck; rw [e]
theorem ps_o66 (pc : Nat) : ps_ck 66 pc = true := by
  by_cases h : pc < 93
  · exact List.all_eq_true.mp (by decide +kernel : (List.range 93).all (ps_ck 66) = true) pc (List.mem_range.mpr h)
  · have e : ps_ins 66 pc = none := by show ps_c66 pc = none; unfold ps_c66; rw [ps_blt h]; rfl
    unfold ps_ck; rw [e]
theorem ps_o67 (pc : Nat) : ps_ck 67 pc = true := by
  by_cases h : pc < 34
  · exact List.all_eq_true.mp (by decide +kernel : (List.range 34).all (ps_ck 67) = true) pc (List.mem_range.mpr h)
  · have e : ps_ins 67 pc = none := by show ps_c67 pc = none; unfold ps_c67; rw [ps_blt h]; rfl
    unfold ps_ck; rw [e]
theorem ps_o68 (pc : Nat) : ps_ck 68 pc = true := by
  by_cases h : pc < 142
  · exact List.all_eq_true.mp (by decide +kernel : (List.range 142).all (ps_ck 68) = true) pc (List.mem_range.mpr h)
  · have e : ps_ins 68 pc = none := by show ps_c68 pc = none; unfold ps_c68; rw [ps_blt h]; rfl
    unfold ps_ck; rw [e]
theorem ps_o69 (pc : Nat) : ps_ck 69 pc = true := by
  by_cases h : pc < 53
  · exact List.all_eq_true.mp (by decide +kernel : (List.range 53).all (ps_ck 69) = true) pc (List.mem_range.mpr h)
  · have e : ps_ins 69 pc = none := by show ps_c69 pc = none; unfold ps_c69; rw [ps_blt h]; rfl
    unfold ps_ck; rw [e]
theorem ps_o70 (pc : Nat) : ps_ck 70 pc = true := by
  by_cases h : pc < 36
  · exact List.all_eq_true.mp (by decide +kernel : (List.range 36).all (ps_ck 70) = true) pc (List.mem_range.mpr h)
  · have e : ps_ins 70 pc = none := by show ps_c70 pc = none; unfold ps_c70; rw [ps_blt h]; rfl
    unfold ps_ck; rw [e]
theorem ps_o71 (pc : Nat) : ps_ck 71 pc = true := by
  by_cases h : pc < 23
  · exact List.all_eq_true.mp (by decide +kernel : (List.range 23).all (ps_ck 71) = true) pc (List.mem_range.mpr h)
  · have e : ps_ins 71 pc = none := by show ps_c71 pc = none; unfold ps_c71; rw [ps_blt h]; rfl
    unfold ps_ck; rw [e]
theorem ps_o72 (pc : Nat) : ps_ck 72 pc = true := by
  by_cases h : pc < 39
  · exact List.all_eq_true.mp (by decide +kernel : (List.range 39).all (ps_ck 72) = true) pc (List.mem_range.mpr h)
  · have e : ps_ins 72 pc = none := by show ps_c72 pc = none; unfold ps_c72; rw [ps_blt h]; rfl
    unfold ps_ck; rw [e]
theorem ps_o73 (pc : Nat) : ps_ck 73 pc = true := by
  by_cases h : pc < 41
  · exact List.all_eq_true.mp (by decide +kernel : (List.range 41).all (ps_ck 73) = true) pc (List.mem_range.mpr h)
  · have e : ps_ins 73 pc = none := by show ps_c73 pc = none; unfold ps_c73; rw [ps_blt h]; rfl
    unfold ps_ck; rw [e]
theorem ps_o74 (pc : Nat) : ps_ck 74 pc = true := by
  by_cases h : pc < 53
  · exact List.all_eq_true.mp (by decide +kernel : (List.range 53).all (ps_ck 74) = true) pc (List.mem_range.mpr h)
  · have e : ps_ins 74 pc = none := by show ps_c74 pc = none; unfold ps_c74; rw [ps_blt h]; rfl
    unfold ps_ck; rw [e]
theorem ps_o75 (pc : Nat) : ps_ck 75 pc = true := by
  by_cases h : pc < 48
  · exact List.all_eq_true.mp (by decide +kernel : (List.range 48).all (ps_ck 75) = true) pc (List.mem_range.mpr h)
  · have e : ps_ins 75 pc = none := by show ps_c75 pc = none; unfold ps_c75; rw [ps_blt h]; rfl
    unfold ps_ck; rw [e]
theorem ps_o76 (pc : Nat) : ps_ck 76 pc = true := by
  by_cases h : pc < 88
  · exact List.all_eq_true.mp (by decide +kernel : (List.range 88).all (ps_ck 76) = true) pc (List.mem_range.mpr h)
  · have e : ps_ins 76 pc = none := by show ps_c76 pc = none; unfold ps_c76; rw [ps_blt h]; rfl
    unfold ps_ck; rw [e]
theorem ps_o77 (pc : Nat) : ps_ck 77 pc = true := by
  by_cases h : pc < 81
  · exact List.all_eq_true.mp (by decide +kernel : (List.range 81).all (ps_ck 77) = true) pc (List.mem_range.mpr h)
  · have e : ps_ins 77 pc = none := by show ps_c77 pc = none; unfold ps_c77; rw [ps_blt h]; rfl
    unfold ps_ck; rw [e]
theorem ps_o78 (pc : Nat) : ps_ck 78 pc = true := by
  by_cases h : pc < 51
  · exact List.all_eq_true.mp (by decide +kernel : (List.range 51).all (ps_ck 78) = true) pc (List.mem_range.mpr h)
  · have e : ps_ins 78 pc = none := by show ps_c78 pc = none; unfold ps_c78; rw [ps_blt h]; rfl
    unfold ps_ck; rw [e]
theorem ps_o79 (pc : Nat) : ps_ck 79 pc = true := by
  by_cases h : pc < 45
  · exact List.all_eq_true.mp (by decide +kernel : (List.range 45).all (ps_ck 79) = true) pc (List.mem_range.mpr h)
  · have e : ps_ins 79 pc = none := by show ps_c79 pc = none; unfold ps_c79; rw [ps_blt h]; rfl
    unfold ps_ck; rw [e]
theorem ps_o80 (pc : Nat) : ps_ck 80 pc = true := by
  by_cases h : pc < 145
  · exact List.all_eq_true.mp (by decide +kernel : (List.range 145).all (ps_ck 80) = true) pc (List.mem_range.mpr h)
  · have e : ps_ins 80 pc = none := by show ps_c80 pc = none; unfold ps_c80; rw [ps_blt h]; rfl
    unfold ps_ck; rw [e]
theorem ps_o81 (pc : Nat) : ps_ck 81 pc = true := by
  by_cases h : pc < 167
  · exact List.all_eq_true.mp (by decide +kernel : (List.range 167).all (ps_ck 81) = true) pc (List.mem_range.mpr h)
  · have e : ps_ins 81 pc = none := by show ps_c81 pc = none; unfold ps_c81; rw [ps_blt h]; rfl
    unfold ps_ck; rw [e]
theorem ps_o82 (pc : Nat) : ps_ck 82 pc = true := by
  by_cases h : pc < 89
  · exact List.all_eq_true.mp (by decide +kernel : (List.range 89).all (ps_ck 82) = true) pc (List.mem_range.mpr h)
  · have e : ps_ins 82 pc = none := by show ps_c82 pc = none; unfold ps_c82; rw [ps_blt h]; rfl
    unfold ps_ck; rw [e]
theorem ps_o83 (pc : Nat) : ps_ck 83 pc = true := by
  by_cases h : pc < 58
  · exact List.all_eq_true.mp (by decide +kernel : (List.range 58).all (ps_ck 83) = true) pc (List.mem_range.mpr h)
  · have e : ps_ins 83 pc = none := by show ps_c83 pc = none; unfold ps_c83; rw [ps_blt h]; rfl
    unfold ps_ck; rw [e]
theorem ps_o84 (pc : Nat) : ps_ck 84 pc = true := by
  by_cases h : pc < 103
  · exact List.all_eq_true.mp (by decide +kernel : (List.range 103).all (ps_ck 84) = true) pc (List.mem_range.mpr h)
  · have e : ps_ins 84 pc = none := by show ps_c84 pc = none; unfold ps_c84; rw [ps_blt h]; rfl
    unfold ps_ck; rw [e]
theorem ps_o85 (pc : Nat) : ps_ck 85 pc = true := by
  by_cases h : pc < 35
  · exact List.all_eq_true.mp (by decide +kernel : (List.range 35).all (ps_ck 85) = true) pc (List.mem_range.mpr h)
  · have e : ps_ins 85 pc = none := by show ps_c85 pc = none; unfold ps_c85; rw [ps_blt h]; rfl
    unfold ps_ck; rw [e]
theorem ps_o86 (pc : Nat) : ps_ck 86 pc = true := by
  by_cases h : pc < 88
  · exact List.all_eq_true.mp (by decide +kernel : (List.range 88).all (ps_ck 86) = true) pc (List.mem_range.mpr h)
  · have e : ps_ins 86 pc = none := by show ps_c86 pc = none; unfold ps_c86; rw [ps_blt h]; rfl
    unfold ps_ck; rw [e]
theorem ps_o87 (pc : Nat) : ps_ck 87 pc = true := by
  by_cases h : pc < 127
  · exact List.all_eq_true.mp (by decide +kernel : (List.range 127).all (ps_ck 87) = true) pc (List.mem_range.mpr h)
  · have e : ps_ins 87 pc = none := by show ps_c87 pc = none; unfold ps_c87; rw [ps_blt h]; rfl
    unfold ps_ck; rw [e]
theorem ps_o88 (pc : Nat) : ps_ck 88 pc = true := by
  by_cases h : pc < 88
  · exact List.all_eq_true.mp (by decide +kernel : (List.range 88).all (ps_ck 88) = true) pc (List.mem_range.mpr h)
  · have e : ps_ins 88 pc = none := by show ps_c88 pc = none; unfold ps_c88; rw [ps_blt h]; rfl
    unfold ps_ck; rw [e]
theorem ps_o89 (pc : Nat) : ps_ck 89 pc = true := by
  by_cases h : pc < 106
  · exact List.all_eq_true.mp (by decide +kernel : (List.range 106).all (ps_ck 89) = true) pc (List.mem_range.mpr h)
  · have e : ps_ins 89 pc = none := by show ps_c89 pc = none; unfold ps_c89; rw [ps_blt h]; rfl
    unfold ps_ck; rw [e]
theorem ps_o90 (pc : Nat) : ps_ck 90 pc = true := by
  by_cases h : pc < 42
  · exact List.all_eq_true.mp (by decide +kernel : (List.range 42).all (ps_ck 90) = true) pc (List.mem_range.mpr h)
  · have e : ps_ins 90 pc = none := by show ps_c90 pc = none; unfold ps_c90; rw [ps_blt h]; rfl
    unfold ps_ck; rw [e]
theorem ps_o91 (pc : Nat) : ps_ck 91 pc = true := by
  by_cases h : pc < 42
  · exact List.all_eq_true.mp (by decide +kernel : (List.range 42).all (ps_ck 91) = true) pc (List.mem_range.mpr h)
  · have e : ps_ins 91 pc = none := by show ps_c91 pc = none; unfold ps_c91; rw [ps_blt h]; rfl
    unfold ps_ck; rw [e]
theorem ps_o92 (pc : Nat) : ps_ck 92 pc = true := by
  by_cases h : pc < 118
  · exact List.all_eq_true.mp (by decide +kernel : (List.range 118).all (ps_ck 92) = true) pc (List.mem_range.mpr h)
  · have e : ps_ins 92 pc = none := by show ps_c92 pc = none; unfold ps_c92; rw [ps_blt h]; rfl
    unfold ps_ck; rw [e]
theorem ps_o93 (pc : Nat) : ps_ck 93 pc = true := by
  by_cases h : pc < 5
  · exact List.all_eq_true.mp (by decide +kernel : (List.range 5).all (ps_ck 93) = true) pc (List.mem_range.mpr h)
  · have e : ps_ins 93 pc = none := by show ps_c93 pc = none; unfold ps_c93; rw [ps_blt h]; rfl
    unfold ps_ck; rw [e]
theorem ps_o94 (pc : Nat) : ps_ck 94 pc = true := by
  by_cases h : pc < 5
  · exact List.all_eq_true.mp (by decide +kernel : (List.range 5).all (ps_ck 94) = true) pc (List.mem_range.mpr h)
  · have e : ps_ins 94 pc = none := by show ps_c94 pc = none; unfold ps_c94; rw [ps_blt h]; rfl
    unfold ps_ck; rw [e]
theorem ps_o95 (pc : Nat) : ps_ck 95 pc = true := by
  by_cases h : pc < 5
  · exact List.all_eq_true.mp (by decide +kernel : (List.range 5).all (ps_ck 95) = true) pc (List.mem_range.mpr h)
  · have e : ps_ins 95 pc = none := by show ps_c95 pc = none; unfold ps_c95; rw [ps_blt h]; rfl
    unfold ps_ck; rw [e]
theorem ps_o96 (pc : Nat) : ps_ck 96 pc = true := by
  by_cases h : pc < 20
  · exact List.all_eq_true.mp (by decide +kernel : (List.range 20).all (ps_ck 96) = true) pc (List.mem_range.mpr h)
  · have e : ps_ins 96 pc = none := by show ps_c96 pc = none; unfold ps_c96; rw [ps_blt h]; rfl
    unfold ps_ck; rw [e]
theorem ps_o97 (pc : Nat) : ps_ck 97 pc = true := by
  by_cases h : pc < 5
  · exact List.all_eq_true.mp (by decide +kernel : (List.range 5).all (ps_ck 97) = true) pc (List.mem_range.mpr h)
  · have e : ps_ins 97 pc = none := by show ps_c97 pc = none; unfold ps_c97; rw [ps_blt h]; rfl
    unfold ps_ck; rw [e]
theorem ps_o98 (pc : Nat) : ps_ck 98 pc = true := by
  by_cases h : pc < 21
  · exact List.all_eq_true.mp (by decide +kernel : (List.range 21).all (ps_ck 98) = true) pc (List.mem_range.mpr h)
  · have e : ps_ins 98 pc = none := by show ps_c98 pc = none; unfold ps_c98; rw [ps_blt h]; rfl
    unfold ps_ck; rw [e]
theorem ps_o99 (pc : Nat) : ps_ck 99 pc = true := by
  by_cases h : pc < 137
  · exact List.all_eq_true.mp (by decide +kernel : (List.range 137).all (ps_ck 99) = true) pc (List.mem_range.mpr h)
  · have e : ps_ins 99 pc = none := by show ps_c99 pc = none; unfold ps_c99; rw [ps_blt h]; rfl
    unfold ps_ck; rw [e]
theorem ps_o100 (pc : Nat) : ps_ck 100 pc = true := by
  by_cases h : pc < 16
  · exact List.all_eq_true.mp (by decide +kernel : (List.range 16).all (ps_ck 100) = true) pc (List.mem_range.mpr h)
  · have e : ps_ins 100 pc = none := by show ps_c100 pc = none; unfold ps_c100; rw [ps_blt h]; rfl
    unfold ps_ck; rw [e]
theorem ps_o101 (pc : Nat) : ps_ck 101 pc = true := by
  by_cases h : pc < 15
  · exact List.all_eq_true.mp (by decide +kernel : (List.range 15).all (ps_ck 101) = true) pc (List.mem_range.mpr h)
  · have e : ps_ins 101 pc = none := by show ps_c101 pc = none; unfold ps_c101; rw [ps_blt h]; rfl
    unfold ps_ck; rw [e]
theorem ps_o102 (pc : Nat) : ps_ck 102 pc = true := by
  by_cases h : pc < 15
  · exact List.all_eq_true.mp (by decide +kernel : (List.range 15).all (ps_ck 102) = true) pc (List.mem_range.mpr h)
  · have e : ps_ins 102 pc = none := by show ps_c102 pc = none; unfold ps_c102; rw [ps_blt h]; rfl
    unfold ps_ck; rw [e]
theorem ps_o103 (pc : Nat) : ps_ck 103 pc = true := by
  by_cases h : pc < 16
  · exact List.all_eq_true.mp (by decide +kernel : (List.range 16).all (ps_ck 103) = true) pc (List.mem_range.mpr h)
  · have e : ps_ins 103 pc = none := by show ps_c103 pc = none; unfold ps_c103; rw [ps_blt h]; rfl
    unfold ps_ck; rw [e]
theorem ps_o104 (pc : Nat) : ps_ck 104 pc = true := by
  by_cases h : pc < 33
  · exact List.all_eq_true.mp (by decide +kernel : (List.range 33).all (ps_ck 104) = true) pc (List.mem_range.mpr h)
  · have e : ps_ins 104 pc = none := by show ps_c104 pc = none; unfold ps_c104; rw [ps_blt h]; rfl
    unfold ps_ck; rw [e]
theorem ps_o105 (pc : Nat) : ps_ck 105 pc = true := by
  by_cases h : pc < 31
  · exact List.all_eq_true.mp (by decide +kernel : (List.range 31).all (ps_ck 105) = true) pc (List.mem_range.mpr h)
  · have e : ps_ins 105 pc = none := by show ps_c105 pc = none; unfold ps_c105; rw [ps_blt h]; rfl
    unfold ps_ck; rw [e]
theorem ps_o106 (pc : Nat) : ps_ck 106 pc = true := by
  by_cases h : pc < 18
  · exact List.all_eq_true.mp (by decide +kernel : (List.range 18).all (ps_ck 106) = true) pc (List.mem_range.mpr h)
  · have e : ps_ins 106 pc = none := by show ps_c106 pc = none; unfold ps_c106; rw [ps_blt h]; rfl
    unfold ps_ck; rw [e]
theorem ps_o107 (pc : Nat) : ps_ck 107 pc = true := by
  by_cases h : pc < 28
  · exact List.all_eq_true.mp (by decide +kernel : (List.range 28).all (ps_ck 107) = true) pc (List.mem_range.mpr h)
  · have e : ps_ins 107 pc = none := by show ps_c107 pc = none; unfold ps_c107; rw [ps_blt h]; rfl
    unfold ps_ck; rw [e]
theorem ps_o108 (pc : Nat) : ps_ck 108 pc = true := by
  by_cases h : pc < 85
  · exact List.all_eq_true.mp (by decide +kernel : (List.range 85).all (ps_ck 108) = true) pc (List.mem_range.mpr h)
  · have e : ps_ins 108 pc = none := by show ps_c108 pc = none; unfold ps_c108; rw [ps_blt h]; rfl
    unfold ps_ck; rw [e]
theorem ps_o109 (pc : Nat) : ps_ck 109 pc = true := by
  by_cases h : pc < 144
  · exact List.all_eq_true.mp (by decide +kernel : (List.range 144).all (ps_ck 109) = true) pc (List.mem_range.mpr h)
  · have e : ps_ins 109 pc = none := by show ps_c109 pc = none; unfold ps_c109; rw [ps_blt h]; rfl
    unfold ps_ck; rw [e]
theorem ps_o110 (pc : Nat) : ps_ck 110 pc = true := by
  by_cases h : pc < 113
  · exact List.all_eq_true.mp (by decide +kernel : (List.range 113).all (ps_ck 110) = true) pc (List.mem_range.mpr h)
  · have e : ps_ins 110 pc = none := by show ps_c110 pc = none; unfold ps_c110; rw [ps_blt h]; rfl
    unfold ps_ck; rw [e]
theorem ps_o111 (pc : Nat) : ps_ck 111 pc = true := by
  by_cases h : pc < 38
  · exact List.all_eq_true.mp (by decide +kernel : (List.range 38).all (ps_ck 111) = true) pc (List.mem_range.mpr h)
  · have e : ps_ins 111 pc = none := by show ps_c111 pc = none; unfold ps_c111; rw [ps_blt h]; rfl
    unfold ps_ck; rw [e]
theorem ps_o112 (pc : Nat) : ps_ck 112 pc = true := by
  by_cases h : pc < 37
  · exact List.all_eq_true.mp (by decide +kernel : (List.range 37).all (ps_ck 112) = true) pc (List.mem_range.mpr h)
  · have e : ps_ins 112 pc = none := by show ps_c112 pc = none; unfold ps_c112; rw [ps_blt h]; rfl
    unfold ps_ck; rw [e]
theorem ps_o113 (pc : Nat) : ps_ck 113 pc = true := by
  by_cases h : pc < 37
  · exact List.all_eq_true.mp (by decide +kernel : (List.range 37).all (ps_ck 113) = true) pc (List.mem_range.mpr h)
  · have e : ps_ins 113 pc = none := by show ps_c113 pc = none; unfold ps_c113; rw [ps_blt h]; rfl
    unfold ps_ck; rw [e]
theorem ps_o114 (pc : Nat) : ps_ck 114 pc = true := by
  by_cases h : pc < 98
  · exact List.all_eq_true.mp (by decide +kernel : (List.range 98).all (ps_ck 114) = true) pc (List.mem_range.mpr h)
  · have e : ps_ins 114 pc = none := by show ps_c114 pc = none; unfold ps_c114; rw [ps_blt h]; rfl
    unfold ps_ck; rw [e]
theorem ps_o115 (pc : Nat) : ps_ck 115 pc = true := by
  by_cases h : pc < 14
  · exact List.all_eq_true.mp (by decide +kernel : (List.range 14).all (ps_ck 115) = true) pc (List.mem_range.mpr h)
  · have e : ps_ins 115 pc = none := by show ps_c115 pc = none; unfold ps_c115; rw [ps_blt h]; rfl
    unfold ps_ck; rw [e]
theorem ps_o116 (pc : Nat) : ps_ck 116 pc = true := by
  by_cases h : pc < 28
  · exact List.all_eq_true.mp (by decide +kernel : (List.range 28).all (ps_ck 116) = true) pc (List.mem_range.mpr h)
  · have e : ps_ins 116 pc = none := by show ps_c116 pc = none; unfold ps_c116; rw [ps_blt h]; rfl
    unfold ps_ck; rw [e]
theorem ps_o117 (pc : Nat) : ps_ck 117 pc = true := by
  by_cases h : pc < 22
  · exact List.all_eq_true.mp (by decide +kernel : (List.range 22).all (ps_ck 117) = true) pc (List.mem_range.mpr h)
  · have e : ps_ins 117 pc = none := by show ps_c117 pc = none; unfold ps_c117; rw [ps_blt h]; rfl
    unfold ps_ck; rw [e]
theorem ps_o118 (pc : Nat) : ps_ck 118 pc = true := by
  by_cases h : pc < 23
  · exact List.all_eq_true.mp (by decide +kernel : (List.range 23).all (ps_ck 118) = true) pc (List.mem_range.mpr h)
  · have e : ps_ins 118 pc = none := by show ps_c118 pc = none; unfold ps_c118; rw [ps_blt h]; rfl
    unfold ps_ck; rw [e]
theorem ps_o119 (pc : Nat) : ps_ck 119 pc = true := by
  by_cases h : pc < 39
  · exact List.all_eq_true.mp (by decide +kernel : (List.range 39).all (ps_ck 119) = true) pc (List.mem_range.mpr h)
  · have e : ps_ins 119 pc = none := by show ps_c119 pc = none; unfold ps_c119; rw [ps_blt h]; rfl
    unfold ps_ck; rw [e]
theorem ps_o120 (pc : Nat) : ps_ck 120 pc = true := by
  by_cases h : pc < 87
  · exact List.all_eq_true.mp (by decide +kernel : (List.range 87).all (ps_ck 120) = true) pc (List.mem_range.mpr h)
  · have e : ps_ins 120 pc = none := by show ps_c120 pc = none; unfold ps_c120; rw [ps_blt h]; rfl
    unfold ps_ck; rw [e]
theorem ps_o121 (pc : Nat) : ps_ck 121 pc = true := by
  by_cases h : pc < 30
  · exact List.all_eq_true.mp (by decide +kernel : (List.range 30).all (ps_ck 121) = true) pc (List.mem_range.mpr h)
  · have e : ps_ins 121 pc = none := by show ps_c121 pc = none; unfold ps_c121; rw [ps_blt h]; rfl
    unfold ps_ck; rw [e]
theorem ps_o122 (pc : Nat) : ps_ck 122 pc = true := by
  by_cases h : pc < 145
  · exact List.all_eq_true.mp (by decide +kernel : (List.range 145).all (ps_ck 122) = true) pc (List.mem_range.mpr h)
  · have e : ps_ins 122 pc = none := by show ps_c122 pc = none; unfold ps_c122; rw [ps_blt h]; rfl
    unfold ps_ck; rw [e]
theorem ps_o123 (pc : Nat) : ps_ck 123 pc = true := by
  by_cases h : pc < 46
  · exact List.all_eq_true.mp (by decide +kernel : (List.range 46).all (ps_ck 123) = true) pc (List.mem_range.mpr h)
  · have e : ps_ins 123 pc = none := by show ps_c123 pc = none; unfold ps_c123; rw [ps_blt h]; rfl
    unfold ps_ck; rw [e]
theorem ps_o124 (pc : Nat) : ps_ck 124 pc = true := by
  by_cases h : pc < 47
  · exact List.all_eq_true.mp (by decide +kernel : (List.range 47).all (ps_ck 124) = true) pc (List.mem_range.mpr h)
  · have e : ps_ins 124 pc = none := by show ps_c124 pc = none; unfold ps_c124; rw [ps_blt h]; rfl
    unfold ps_ck; rw [e]
theorem ps_o125 (pc : Nat) : ps_ck 125 pc = true := by
  by_cases h : pc < 59
  · exact List.all_eq_true.mp (by decide +kernel : (List.range 59).all (ps_ck 125) = true) pc (List.mem_range.mpr h)
  · have e : ps_ins 125 pc = none := by show ps_c125 pc = none; unfold ps_c125; rw [ps_blt h]; rfl
    unfold ps_ck; rw [e]
theorem ps_o126 (pc : Nat) : ps_ck 126 pc = true := by
  by_cases h : pc < 142
  · exact List.all_eq_true.mp (by decide +kernel : (List.range 142).all (ps_ck 126) = true) pc (List.mem_range.mpr h)
  · have e : ps_ins 126 pc = none := by show ps_c126 pc = none; unfold ps_c126; rw [ps_blt h]; rfl
    unfold ps_ck; rw [e]
theorem ps_o127 (pc : Nat) : ps_ck 127 pc = true := by
  by_cases h : pc < 19
  · exact List.all_eq_true.mp (by decide +kernel : (List.range 19).all (ps_ck 127) = true) pc (List.mem_range.mpr h)
  · have e : ps_ins 127 pc = none := by show ps_c127 pc = none; unfold ps_c127; rw [ps_blt h]; rfl
    unfold ps_ck; rw [e]
theorem ps_o128 (pc : Nat) : ps_ck 128 pc = true := by
  by_cases h : pc < 15
  · exact List.all_eq_true.mp (by decide +kernel : (List.range 15).all (ps_ck 128) = true) pc (List.mem_range.mpr h)
  · have e : ps_ins 128 pc = none := by show ps_c128 pc = none; unfold ps_c128; rw [ps_blt h]; rfl
    unfold ps_ck; rw [e]
theorem ps_o129 (pc : Nat) : ps_ck 129 pc = true := by
  by_cases h : pc < 18
  · exact List.all_eq_true.mp (by decide +kernel : (List.range 18).all (ps_ck 129) = true) pc (List.mem_range.mpr h)
  · have e : ps_ins 129 pc = none := by show ps_c129 pc = none; unfold ps_c129; rw [ps_blt h]; rfl
    unfold ps_ck; rw [e]
theorem ps_o130 (pc : Nat) : ps_ck 130 pc = true := by
  by_cases h : pc < 7
  · exact List.all_eq_true.mp (by decide +kernel : (List.range 7).all (ps_ck 130) = true) pc (List.mem_range.mpr h)
  · have e : ps_ins 130 pc = none := by show ps_c130 pc = none; unfold ps_c130; rw [ps_blt h]; rfl
    unfold ps_ck; rw [e]
theorem ps_o131 (pc : Nat) : ps_ck 131 pc = true := by
  by_cases h : pc < 10
  · exact List.all_eq_true.mp (by decide +kernel : (List.range 10).all (ps_ck 131) = true) pc (List.mem_range.mpr h)
  · have e : ps_ins 131 pc = none := by show ps_c131 pc = none; unfold ps_c131; rw [ps_blt h]; rfl
    unfold ps_ck; rw [e]
theorem ps_o132 (pc : Nat) : ps_ck 132 pc = true := by
  by_cases h : pc < 10
  · exact List.all_eq_true.mp (by decide +kernel : (List.range 10).all (ps_ck 132) = true) pc (List.mem_range.mpr h)
  · have e : ps_ins 132 pc = none := by show ps_c132 pc = none; unfold ps_c132; rw [ps_blt h]; rfl
    unfold ps_ck; rw [e]
theorem ps_o133 (pc : Nat) : ps_ck 133 pc = true := by
  by_cases h : pc < 33
  · exact List.all_eq_true.mp (by decide +kernel : (List.range 33).all (ps_ck 133) = true) pc (List.mem_range.mpr h)
  · have e : ps_ins 133 pc = none := by show ps_c133 pc = none; unfold ps_c133; rw [ps_blt h]; rfl
    unfold ps_ck; rw [e]
theorem ps_o134 (pc : Nat) : ps_ck 134 pc = true := by
  by_cases h : pc < 34
  · exact List.all_eq_true.mp (by decide +kernel : (List.range 34).all (ps_ck 134) = true) pc (List.mem_range.mpr h)
  · have e : ps_ins 134 pc = none := by show ps_c134 pc = none; unfold ps_c134; rw [ps_blt h]; rfl
    unfold ps_ck; rw [e]
theorem ps_o135 (pc : Nat) : ps_ck 135 pc = true := by
  by_cases h : pc < 56
  · exact List.all_eq_true.mp (by decide +kernel : (List.range 56).all (ps_ck 135) = true) pc (List.mem_range.mpr h)
  · have e : ps_ins 135 pc = none := by show ps_c135 pc = none; unfold ps_c135; rw [ps_blt h]; rfl
    unfold ps_ck; rw [e]
theorem ps_o136 (pc : Nat) : ps_ck 136 pc = true := by
  by_cases h : pc < 48
  · exact List.all_eq_true.mp (by decide +kernel : (List.range 48).all (ps_ck 136) = true) pc (List.mem_range.mpr h)
  · have e : ps_ins 136 pc = none := by show ps_c136 pc = none; unfold ps_c136; rw [ps_blt h]; rfl
    unfold ps_ck; rw [e]
theorem ps_o137 (pc : Nat) : ps_ck 137 pc = true := by
  by_cases h : pc < 31
  · exact List.all_eq_true.mp (by decide +kernel : (List.range 31).all (ps_ck 137) = true) pc (List.mem_range.mpr h)
  · have e : ps_ins 137 pc = none := by show ps_c137 pc = none; unfold ps_c137; rw [ps_blt h]; rfl
    unfold ps_ck; rw [e]
theorem ps_o138 (pc : Nat) : ps_ck 138 pc = true := by
  by_cases h : pc < 33
  · exact List.all_eq_true.mp (by decide +kernel : (List.range 33).all (ps_ck 138) = true) pc (List.mem_range.mpr h)
  · have e : ps_ins 138 pc = none := by show ps_c138 pc = none; unfold ps_c138; rw [ps_blt h]; rfl
    unfold ps_ck; rw [e]
theorem ps_o139 (pc : Nat) : ps_ck 139 pc = true := by
  by_cases h : pc < 26
  · exact List.all_eq_true.mp (by decide +kernel : (List.range 26).all (ps_ck 139) = true) pc (List.mem_range.mpr h)
  · have e : ps_ins 139 pc = none := by show ps_c139 pc = none; unfold ps_c139; rw [ps_blt h]; rfl
    unfold ps_ck; rw [e]
theorem ps_o140 (pc : Nat) : ps_ck 140 pc = true := by
  by_cases h : pc < 159
  · exact List.all_eq_true.mp (by decide +kernel : (List.range 159).all (ps_ck 140) = true) pc (List.mem_range.mpr h)
  · have e : ps_ins 140 pc = none := by show ps_c140 pc = none; unfold ps_c140; rw [ps_blt h]; rfl
    unfold ps_ck; rw [e]
theorem ps_o141 (pc : Nat) : ps_ck 141 pc = true := by
  by_cases h : pc < 92
  · exact List.all_eq_true.mp (by decide +kernel : (List.range 92).all (ps_ck 141) = true) pc (List.mem_range.mpr h)
  · have e : ps_ins 141 pc = none := by show ps_c141 pc = none; unfold ps_c141; rw [ps_blt h]; rfl
    unfold ps_ck; rw [e]
theorem ps_o142 (pc : Nat) : ps_ck 142 pc = true := by
  by_cases h : pc < 61
  · exact List.all_eq_true.mp (by decide +kernel : (List.range 61).all (ps_ck 142) = true) pc (List.mem_range.mpr h)
  · have e : ps_ins 142 pc = none := by show ps_c142 pc = none; unfold ps_c142; rw [ps_blt h]; rfl
    unfold ps_ck; rw [e]
theorem ps_o143 (pc : Nat) : ps_ck 143 pc = true := by
  by_cases h : pc < 81
  · exact List.all_eq_true.mp (by decide +kernel : (List.range 81).all (ps_ck 143) = true) pc (List.mem_range.mpr h)
  · have e : ps_ins 143 pc = none := by show ps_c143 pc = none; unfold ps_c143; rw [ps_blt h]; rfl
    unfold ps_ck; rw [e]
theorem ps_o144 (pc : Nat) : ps_ck 144 pc = true := by
  by_cases h : pc < 15
  · exact List.all_eq_true.mp (by decide +kernel : (List.range 15).all (ps_ck 144) = true) pc (List.mem_range.mpr h)
  · have e : ps_ins 144 pc = none := by show ps_c144 pc = none; unfold ps_c144; rw [ps_blt h]; rfl
    unfold ps_ck; rw [e]
theorem ps_o145 (pc : Nat) : ps_ck 145 pc = true := by
  by_cases h : pc < 34
  · exact List.all_eq_true.mp (by decide +kernel : (List.range 34).all (ps_ck 145) = true) pc (List.mem_range.mpr h)
  · have e : ps_ins 145 pc = none := by show ps_c145 pc = none; unfold ps_c145; rw [ps_blt h]; rfl
    unfold ps_ck; rw [e]
theorem ps_o146 (pc : Nat) : ps_ck 146 pc = true := by
  by_cases h : pc < 65
  · exact List.all_eq_true.mp (by decide +kernel : (List.range 65).all (ps_ck 146) = true) pc (List.mem_range.mpr h)
  · have e : ps_ins 146 pc = none := by show ps_c146 pc = none; unfold ps_c146; rw [ps_blt h]; rfl
    unfold ps_ck; rw [e]
theorem ps_o147 (pc : Nat) : ps_ck 147 pc = true := by
  by_cases h : pc < 63
  · exact List.all_eq_true.mp (by decide +kernel : (List.range 63).all (ps_ck 147) = true) pc (List.mem_range.mpr h)
  · have e : ps_ins 147 pc = none := by show ps_c147 pc = none; unfold ps_c147; rw [ps_blt h]; rfl
    unfold ps_ck; rw [e]
theorem ps_o148 (pc : Nat) : ps_ck 148 pc = true := by
  by_cases h : pc < 199
  · exact List.all_eq_true.mp (by decide +kernel : (List.range 199).all (ps_ck 148) = true) pc (List.mem_range.mpr h)
  · have e : ps_ins 148 pc = none := by show ps_c148 pc = none; unfold ps_c148; rw [ps_blt h]; rfl
    unfold ps_ck; rw [e]
theorem ps_o149 (pc : Nat) : ps_ck 149 pc = true := by
  by_cases h : pc < 93
  · exact List.all_eq_true.mp (by decide +kernel : (List.range 93).all (ps_ck 149) = true) pc (List.mem_range.mpr h)
  · have e : ps_ins 149 pc = none := by show ps_c149 pc = none; unfold ps_c149; rw [ps_blt h]; rfl
    unfold ps_ck; rw [e]
theorem ps_o150 (pc : Nat) : ps_ck 150 pc = true := by
  by_cases h : pc < 85
  · exact List.all_eq_true.mp (by decide +kernel : (List.range 85).all (ps_ck 150) = true) pc (List.mem_range.mpr h)
  · have e : ps_ins 150 pc = none := by show ps_c150 pc = none; unfold ps_c150; rw [ps_blt h]; rfl
    unfold ps_ck; rw [e]
theorem ps_o151 (pc : Nat) : ps_ck 151 pc = true := by
  by_cases h : pc < 32
  · exact List.all_eq_true.mp (by decide +kernel : (List.range 32).all (ps_ck 151) = true) pc (List.mem_range.mpr h)
  · have e : ps_ins 151 pc = none := by show ps_c151 pc = none; unfold ps_c151; rw [ps_blt h]; rfl
    unfold ps_ck; rw [e]
theorem ps_o152 (pc : Nat) : ps_ck 152 pc = true := by
  by_cases h : pc < 202
  · exact List.all_eq_true.mp (by decide +kernel : (List.range 202).all (ps_ck 152) = true) pc (List.mem_range.mpr h)
  · have e : ps_ins 152 pc = none := by show ps_c152 pc = none; unfold ps_c152; rw [ps_blt h]; rfl
    unfold ps_ck; rw [e]
theorem ps_o153 (pc : Nat) : ps_ck 153 pc = true := by
  by_cases h : pc < 14
  · exact List.all_eq_true.mp (by decide +kernel : (List.range 14).all (ps_ck 153) = true) pc (List.mem_range.mpr h)
  · have e : ps_ins 153 pc = none := by show ps_c153 pc = none; unfold ps_c153; rw [ps_blt h]; rfl
    unfold ps_ck; rw [e]
theorem ps_o154 (pc : Nat) : ps_ck 154 pc = true := by
  by_cases h : pc < 16
  · exact List.all_eq_true.mp (by decide +kernel : (List.range 16).all (ps_ck 154) = true) pc (List.mem_range.mpr h)
  · have e : ps_ins 154 pc = none := by show ps_c154 pc = none; unfold ps_c154; rw [ps_blt h]; rfl
    unfold ps_ck; rw [e]
theorem ps_o155 (pc : Nat) : ps_ck 155 pc = true := by
  by_cases h : pc < 16
  · exact List.all_eq_true.mp (by decide +kernel : (List.range 16).all (ps_ck 155) = true) pc (List.mem_range.mpr h)
  · have e : ps_ins 155 pc = none := by show ps_c155 pc = none; unfold ps_c155; rw [ps_blt h]; rfl
    unfold ps_ck; rw [e]
theorem ps_o156 (pc : Nat) : ps_ck 156 pc = true := by
  by_cases h : pc < 24
  · exact List.all_eq_true.mp (by decide +kernel : (List.range 24).all (ps_ck 156) = true) pc (List.mem_range.mpr h)
  · have e : ps_ins 156 pc = none := by show ps_c156 pc = none; unfold ps_c156; rw [ps_blt h]; rfl
    unfold ps_ck; rw [e]
theorem ps_o157 (pc : Nat) : ps_ck 157 pc = true := by
  by_cases h : pc < 68
  · exact List.all_eq_true.mp (by decide +kernel : (List.range 68).all (ps_ck 157) = true) pc (List.mem_range.mpr h)
  · have e : ps_ins 157 pc = none := by show ps_c157 pc = none; unfold ps_c157; rw [ps_blt h]; rfl
    unfold ps_ck; rw [e]
theorem ps_o158 (pc : Nat) : ps_ck 158 pc = true := by
  by_cases h : pc < 19
  · exact List.all_eq_true.mp (by decide +kernel : (List.range 19).all (ps_ck 158) = true) pc (List.mem_range.mpr h)
  · have e : ps_ins 158 pc = none := by show ps_c158 pc = none; unfold ps_c158; rw [ps_blt h]; rfl
    unfold ps_ck; rw [e]
theorem ps_o159 (pc : Nat) : ps_ck 159 pc = true := by
  by_cases h : pc < 25
  · exact List.all_eq_true.mp (by decide +kernel : (List.range 25).all (ps_ck 159) = true) pc (List.mem_range.mpr h)
  · have e : ps_ins 159 pc = none := by show ps_c159 pc = none; unfold ps_c159; rw [ps_blt h]; rfl
    unfold ps_ck; rw [e]
theorem ps_o160 (pc : Nat) : ps_ck 160 pc = true := by
  by_cases h : pc < 84
  · exact List.all_eq_true.mp (by decide +kernel : (List.range 84).all (ps_ck 160) = true) pc (List.mem_range.mpr h)
  · have e : ps_ins 160 pc = none := by show ps_c160 pc = none; unfold ps_c160; rw [ps_blt h]; rfl
    unfold ps_ck; rw [e]
theorem ps_o161 (pc : Nat) : ps_ck 161 pc = true := by
  by_cases h : pc < 35
  · exact List.all_eq_true.mp (by decide +kernel : (List.range 35).all (ps_ck 161) = true) pc (List.mem_range.mpr h)
  · have e : ps_ins 161 pc = none := by show ps_c161 pc = none; unfold ps_c161; rw [ps_blt h]; rfl
    unfold ps_ck; rw [e]
theorem ps_o162 (pc : Nat) : ps_ck 162 pc = true := by
  by_cases h : pc < 46
  · exact List.all_eq_true.mp (by decide +kernel : (List.range 46).all (ps_ck 162) = true) pc (List.mem_range.mpr h)
  · have e : ps_ins 162 pc = none := by show ps_c162 pc = none; unfold ps_c162; rw [ps_blt h]; rfl
    unfold ps_ck; rw [e]
theorem ps_o163 (pc : Nat) : ps_ck 163 pc = true := by
  by_cases h : pc < 52
  · exact List.all_eq_true.mp (by decide +kernel : (List.range 52).all (ps_ck 163) = true) pc (List.mem_range.mpr h)
  · have e : ps_ins 163 pc = none := by show ps_c163 pc = none; unfold ps_c163; rw [ps_blt h]; rfl
    unfold ps_ck; rw [e]
theorem ps_o164 (pc : Nat) : ps_ck 164 pc = true := by
  by_cases h : pc < 132
  · exact List.all_eq_true.mp (by decide +kernel : (List.range 132).all (ps_ck 164) = true) pc (List.mem_range.mpr h)
  · have e : ps_ins 164 pc = none := by show ps_c164 pc = none; unfold ps_c164; rw [ps_blt h]; rfl
    unfold ps_ck; rw [e]
theorem ps_o165 (pc : Nat) : ps_ck 165 pc = true := by
  by_cases h : pc < 49
  · exact List.all_eq_true.mp (by decide +kernel : (List.range 49).all (ps_ck 165) = true) pc (List.mem_range.mpr h)
  · have e : ps_ins 165 pc = none := by show ps_c165 pc = none; unfold ps_c165; rw [ps_blt h]; rfl
    unfold ps_ck; rw [e]
theorem ps_o166 (pc : Nat) : ps_ck 166 pc = true := by
  by_cases h : pc < 52
  · exact List.all_eq_true.mp (by decide +kernel : (List.range 52).all (ps_ck 166) = true) pc (List.mem_range.mpr h)
  · have e : ps_ins 166 pc = none := by show ps_c166 pc = none; unfold ps_c166; rw [ps_blt h]; rfl
    unfold ps_ck; rw [e]
theorem ps_o167 (pc : Nat) : ps_ck 167 pc = true := by
  by_cases h : pc < 58
  · exact List.all_eq_true.mp (by decide +kernel : (List.range 58).all (ps_ck 167) = true) pc (List.mem_range.mpr h)
  · have e : ps_ins 167 pc = none := by show ps_c167 pc = none; unfold ps_c167; rw [ps_blt h]; rfl
    unfold ps_ck; rw [e]
theorem ps_o168 (pc : Nat) : ps_ck 168 pc = true := by
  by_cases h : pc < 19
  · exact List.all_eq_true.mp (by decide +kernel : (List.range 19).all (ps_ck 168) = true) pc (List.mem_range.mpr h)
  · have e : ps_ins 168 pc = none := by show ps_c168 pc = none; unfold ps_c168; rw [ps_blt h]; rfl
    unfold ps_ck; rw [e]
theorem ps_o169 (pc : Nat) : ps_ck 169 pc = true := by
  by_cases h : pc < 29
  · exact List.all_eq_true.mp (by decide +kernel : (List.range 29).all (ps_ck 169) = true) pc (List.mem_range.mpr h)
  · have e : ps_ins 169 pc = none := by show ps_c169 pc = none; unfold ps_c169; rw [ps_blt h]; rfl
    unfold ps_ck; rw [e]
theorem ps_o170 (pc : Nat) : ps_ck 170 pc = true := by
  by_cases h : pc < 60
  · exact List.all_eq_true.mp (by decide +kernel : (List.range 60).all (ps_ck 170) = true) pc (List.mem_range.mpr h)
  · have e : ps_ins 170 pc = none := by show ps_c170 pc = none; unfold ps_c170; rw [ps_blt h]; rfl
    unfold ps_ck; rw [e]
theorem ps_o171 (pc : Nat) : ps_ck 171 pc = true := by
  by_cases h : pc < 332
  · exact List.all_eq_true.mp (by decide +kernel : (List.range 332).all (ps_ck 171) = true) pc (List.mem_range.mpr h)
  · have e : ps_ins 171 pc = none := by show ps_c171 pc = none; unfold ps_c171; rw [ps_blt h]; rfl
    unfold ps_ck; rw [e]
theorem ps_o172 (pc : Nat) : ps_ck 172 pc = true := by
  by_cases h : pc < 10
  · exact List.all_eq_true.mp (by decide +kernel : (List.range 10).all (ps_ck 172) = true) pc (List.mem_range.mpr h)
  · have e : ps_ins 172 pc = none := by show ps_c172 pc = none; unfold ps_c172; rw [ps_blt h]; rfl
    unfold ps_ck; rw [e]
theorem ps_o173 (pc : Nat) : ps_ck 173 pc = true := by
  by_cases h : pc < 122
  · exact List.all_eq_true.mp (by decide +kernel : (List.range 122).all (ps_ck 173) = true) pc (List.mem_range.mpr h)
  · have e : ps_ins 173 pc = none := by show ps_c173 pc = none; unfold ps_c173; rw [ps_blt h]; rfl
    unfold ps_ck; rw [e]
theorem ps_o174 (pc : Nat) : ps_ck 174 pc = true := by
  by_cases h : pc < 36
  · exact List.all_eq_true.mp (by decide +kernel : (List.range 36).all (ps_ck 174) = true) pc (List.mem_range.mpr h)
  · have e : ps_ins 174 pc = none := by show ps_c174 pc = none; unfold ps_c174; rw [ps_blt h]; rfl
    unfold ps_ck; rw [e]
theorem ps_o175 (pc : Nat) : ps_ck 175 pc = true := by
  by_cases h : pc < 45
  · exact List.all_eq_true.mp (by decide +kernel : (List.range 45).all (ps_ck 175) = true) pc (List.mem_range.mpr h)
  · have e : ps_ins 175 pc = none := by show ps_c175 pc = none; unfold ps_c175; rw [ps_blt h]; rfl
    unfold ps_ck; rw [e]
theorem ps_o176 (pc : Nat) : ps_ck 176 pc = true := by
  by_cases h : pc < 17
  · exact List.all_eq_true.mp (by decide +kernel : (List.range 17).all (ps_ck 176) = true) pc (List.mem_range.mpr h)
  · have e : ps_ins 176 pc = none := by show ps_c176 pc = none; unfold ps_c176; rw [ps_blt h]; rfl
    unfold ps_ck; rw [e]
theorem ps_o177 (pc : Nat) : ps_ck 177 pc = true := by
  by_cases h : pc < 48
  · exact List.all_eq_true.mp (by decide +kernel : (List.range 48).all (ps_ck 177) = true) pc (List.mem_range.mpr h)
  · have e : ps_ins 177 pc = none := by show ps_c177 pc = none; unfold ps_c177; rw [ps_blt h]; rfl
    unfold ps_ck; rw [e]
theorem ps_o178 (pc : Nat) : ps_ck 178 pc = true := by
  by_cases h : pc < 42
  · exact List.all_eq_true.mp (by decide +kernel : (List.range 42).all (ps_ck 178) = true) pc (List.mem_range.mpr h)
  · have e : ps_ins 178 pc = none := by show ps_c178 pc = none; unfold ps_c178; rw [ps_blt h]; rfl
    unfold ps_ck; rw [e]
theorem ps_o179 (pc : Nat) : ps_ck 179 pc = true := by
  by_cases h : pc < 97
  · exact List.all_eq_true.mp (by decide +kernel : (List.range 97).all (ps_ck 179) = true) pc (List.mem_range.mpr h)
  · have e : ps_ins 179 pc = none := by show ps_c179 pc = none; unfold ps_c179; rw [ps_blt h]; rfl
    unfold ps_ck; rw [e]
theorem ps_o180 (pc : Nat) : ps_ck 180 pc = true := by
  by_cases h : pc < 34
  · exact List.all_eq_true.mp (by decide +kernel : (List.range 34).all (ps_ck 180) = true) pc (List.mem_range.mpr h)
  · have e : ps_ins 180 pc = none := by show ps_c180 pc = none; unfold ps_c180; rw [ps_blt h]; rfl
    unfold ps_ck; rw [e]
theorem ps_o181 (pc : Nat) : ps_ck 181 pc = true := by
  by_cases h : pc < 46
  · exact List.all_eq_true.mp (by decide +kernel : (List.range 46).all (ps_ck 181) = true) pc (List.mem_range.mpr h)
  · have e : ps_ins 181 pc = none := by show ps_c181 pc = none; unfold ps_c181; rw [ps_blt h]; rfl
    unfold ps_ck; rw [e]
theorem ps_o182 (pc : Nat) : ps_ck 182 pc = true := by
  by_cases h : pc < 59
  · exact List.all_eq_true.mp (by decide +kernel : (List.range 59).all (ps_ck 182) = true) pc (List.mem_range.mpr h)
  · have e : ps_ins 182 pc = none := by show ps_c182 pc = none; unfold ps_c182; rw [ps_blt h]; rfl
    unfold ps_ck; rw [e]
theorem ps_o183 (pc : Nat) : ps_ck 183 pc = true := by
  by_cases h : pc < 11
  · exact List.all_eq_true.mp (by decide +kernel : (List.range 11).all (ps_ck 183) = true) pc (List.mem_range.mpr h)
  · have e : ps_ins 183 pc = none := by show ps_c183 pc = none; unfold ps_c183; rw [ps_blt h]; rfl
    unfold ps_ck; rw [e]
theorem ps_o184 (pc : Nat) : ps_ck 184 pc = true := by
  by_cases h : pc < 49
  · exact List.all_eq_true.mp (by decide +kernel : (List.range 49).all (ps_ck 184) = true) pc (List.mem_range.mpr h)
  · have e : ps_ins 184 pc = none := by show ps_c184 pc = none; unfold ps_c184; rw [ps_blt h]; rfl
    unfold ps_ck; rw [e]
theorem ps_o185 (pc : Nat) : ps_ck 185 pc = true := by
  by_cases h : pc < 169
  · exact List.all_eq_true.mp (by decide +kernel : (List.range 169).all (ps_ck 185) = true) pc (List.mem_range.mpr h)
  · have e : ps_ins 185 pc = none := by show ps_c185 pc = none; unfold ps_c185; rw [ps_blt h]; rfl
    unfold ps_ck; rw [e]
theorem ps_o186 (pc : Nat) : ps_ck 186 pc = true := by
  by_cases h : pc < 22
  · exact List.all_eq_true.mp (by decide +kernel : (List.range 22).all (ps_ck 186) = true) pc (List.mem_range.mpr h)
  · have e : ps_ins 186 pc = none := by show ps_c186 pc = none; unfold ps_c186; rw [ps_blt h]; rfl
    unfold ps_ck; rw [e]
theorem ps_o187 (pc : Nat) : ps_ck 187 pc = true := by
  by_cases h : pc < 14
  · exact List.all_eq_true.mp (by decide +kernel : (List.range 14).all (ps_ck 187) = true) pc (List.mem_range.mpr h)
  · have e : ps_ins 187 pc = none := by show ps_c187 pc = none; unfold ps_c187; rw [ps_blt h]; rfl
    unfold ps_ck; rw [e]
theorem ps_o188 (pc : Nat) : ps_ck 188 pc = true := by
  by_cases h : pc < 107
  · exact List.all_eq_true.mp (by decide +kernel : (List.range 107).all (ps_ck 188) = true) pc (List.mem_range.mpr h)
  · have e : ps_ins 188 pc = none := by show ps_c188 pc = none; unfold ps_c188; rw [ps_blt h]; rfl
    unfold ps_ck; rw [e]
theorem ps_o189 (pc : Nat) : ps_ck 189 pc = true := by
  by_cases h : pc < 41
  · exact List.all_eq_true.mp (by decide +kernel : (List.range 41).all (ps_ck 189) = true) pc (List.mem_range.mpr h)
  · have e : ps_ins 189 pc = none := by show ps_c189 pc = none; unfold ps_c189; rw [ps_blt h]; rfl
    unfold ps_ck; rw [e]
theorem ps_o190 (pc : Nat) : ps_ck 190 pc = true := by
  by_cases h : pc < 142
  · exact List.all_eq_true.mp (by decide +kernel : (List.range 142).all (ps_ck 190) = true) pc (List.mem_range.mpr h)
  · have e : ps_ins 190 pc = none := by show ps_c190 pc = none; unfold ps_c190; rw [ps_blt h]; rfl
    unfold ps_ck; rw [e]
theorem ps_o191 (pc : Nat) : ps_ck 191 pc = true := by
  by_cases h : pc < 74
  · exact List.all_eq_true.mp (by decide +kernel : (List.range 74).all (ps_ck 191) = true) pc (List.mem_range.mpr h)
  · have e : ps_ins 191 pc = none := by show ps_c191 pc = none; unfold ps_c191; rw [ps_blt h]; rfl
    unfold ps_ck; rw [e]
theorem ps_o192 (pc : Nat) : ps_ck 192 pc = true := by
  by_cases h : pc < 68
  · exact List.all_eq_true.mp (by decide +kernel : (List.range 68).all (ps_ck 192) = true) pc (List.mem_range.mpr h)
  · have e : ps_ins 192 pc = none := by show ps_c192 pc = none; unfold ps_c192; rw [ps_blt h]; rfl
    unfold ps_ck; rw [e]
theorem ps_o193 (pc : Nat) : ps_ck 193 pc = true := by
  by_cases h : pc < 25
  · exact List.all_eq_true.mp (by decide +kernel : (List.range 25).all (ps_ck 193) = true) pc (List.mem_range.mpr h)
  · have e : ps_ins 193 pc = none := by show ps_c193 pc = none; unfold ps_c193; rw [ps_blt h]; rfl
    unfold ps_ck; rw [e]
theorem ps_o194 (pc : Nat) : ps_ck 194 pc = true := by
  by_cases h : pc < 155
  · exact List.all_eq_true.mp (by decide +kernel : (List.range 155).all (ps_ck 194) = true) pc (List.mem_range.mpr h)
  · have e : ps_ins 194 pc = none := by show ps_c194 pc = none; unfold ps_c194; rw [ps_blt h]; rfl
    unfold ps_ck; rw [e]
theorem ps_o195 (pc : Nat) : ps_ck 195 pc = true := by
  by_cases h : pc < 50
  · exact List.all_eq_true.mp (by decide +kernel : (List.range 50).all (ps_ck 195) = true) pc (List.mem_range.mpr h)
  · have e : ps_ins 195 pc = none := by show ps_c195 pc = none; unfold ps_c195; rw [ps_blt h]; rfl
    unfold ps_ck; rw [e]
theorem ps_o196 (pc : Nat) : ps_ck 196 pc = true := by
  by_cases h : pc < 142
  · exact List.all_eq_true.mp (by decide +kernel : (List.range 142).all (ps_ck 196) = true) pc (List.mem_range.mpr h)
  · have e : ps_ins 196 pc = none := by show ps_c196 pc = none; unfold ps_c196; rw [ps_blt h]; rfl
    unfold ps_ck; rw [e]
theorem ps_o197 (pc : Nat) : ps_ck 197 pc = true := by
  by_cases h : pc < 63
  · exact List.all_eq_true.mp (by decide +kernel : (List.range 63).all (ps_ck 197) = true) pc (List.mem_range.mpr h)
  · have e : ps_ins 197 pc = none := by show ps_c197 pc = none; unfold ps_c197; rw [ps_blt h]; rfl
    unfold ps_ck; rw [e]
theorem ps_o198 (pc : Nat) : ps_ck 198 pc = true := by
  by_cases h : pc < 41
  · exact List.all_eq_true.mp (by decide +kernel : (List.range 41).all (ps_ck 198) = true) pc (List.mem_range.mpr h)
  · have e : ps_ins 198 pc = none := by show ps_c198 pc = none; unfold ps_c198; rw [ps_blt h]; rfl
    unfold ps_ck; rw [e]
theorem ps_o199 (pc : Nat) : ps_ck 199 pc = true := by
  by_cases h : pc < 58
  · exact List.all_eq_true.mp (by decide +kernel : (List.range 58).all (ps_ck 199) = true) pc (List.mem_range.mpr h)
  · have e : ps_ins 199 pc = none := by show ps_c199 pc = none; unfold ps_c199; rw [ps_blt h]; rfl
    unfold ps_ck; rw [e]
theorem ps_o200 (pc : Nat) : ps_ck 200 pc = true := by
  by_cases h : pc < 98
  · exact List.all_eq_true.mp (by decide +kernel : (List.range 98).all (ps_ck 200) = true) pc (List.mem_range.mpr h)
  · have e : ps_ins 200 pc = none := by show ps_c200 pc = none; unfold ps_c200; rw [ps_blt h]; rfl
    unfold ps_ck; rw [e]
theorem ps_o201 (pc : Nat) : ps_ck 201 pc = true := by
  by_cases h : pc < 32
  · exact List.all_eq_true.mp (by decide +kernel : (List.range 32).all (ps_ck 201) = true) pc (List.mem_range.mpr h)
  · have e : ps_ins 201 pc = none := by show ps_c201 pc = none; unfold ps_c201; rw [ps_blt h]; rfl
    unfold ps_ck; rw [e]
theorem ps_o202 (pc : Nat) : ps_ck 202 pc = true := by
  by_cases h : pc < 97
  · exact List.all_eq_true.mp (by decide +kernel : (List.range 97).all (ps_ck 202) = true) pc (List.mem_range.mpr h)
  · have e : ps_ins 202 pc = none := by show ps_c202 pc = none; unfold ps_c202; rw [ps_blt h]; rfl
    unfold ps_ck; rw [e]
theorem ps_o203 (pc : Nat) : ps_ck 203 pc = true := by
  by_cases h : pc < 97
  · exact List.all_eq_true.mp (by decide +kernel : (List.range 97).all (ps_ck 203) = true) pc (List.mem_range.mpr h)
  · have e : ps_ins 203 pc = none := by show ps_c203 pc = none; unfold ps_c203; rw [ps_blt h]; rfl
    unfold ps_ck; rw [e]
theorem ps_o204 (pc : Nat) : ps_ck 204 pc = true := by
  by_cases h : pc < 78
  · exact List.all_eq_true.mp (by decide +kernel : (List.range 78).all (ps_ck 204) = true) pc (List.mem_range.mpr h)
  · have e : ps_ins 204 pc = none := by show ps_c204 pc = none; unfold ps_c204; rw [ps_blt h]; rfl
    unfold ps_ck; rw [e]
theorem ps_o205 (pc : Nat) : ps_ck 205 pc = true := by
  by_cases h : pc < 54
  · exact List.all_eq_true.mp (by decide +kernel : (List.range 54).all (ps_ck 205) = true) pc (List.mem_range.mpr h)
  · have e : ps_ins 205 pc = none := by show ps_c205 pc = none; unfold ps_c205; rw [ps_blt h]; rfl
    unfold ps_ck; rw [e]
theorem ps_o206 (pc : Nat) : ps_ck 206 pc = true := by
  by_cases h : pc < 33
  · exact List.all_eq_true.mp (by decide +kernel : (List.range 33).all (ps_ck 206) = true) pc (List.mem_range.mpr h)
  · have e : ps_ins 206 pc = none := by show ps_c206 pc = none; unfold ps_c206; rw [ps_blt h]; rfl
    unfold ps_ck; rw [e]
theorem ps_o207 (pc : Nat) : ps_ck 207 pc = true := by
  by_cases h : pc < 92
  · exact List.all_eq_true.mp (by decide +kernel : (List.range 92).all (ps_ck 207) = true) pc (List.mem_range.mpr h)
  · have e : ps_ins 207 pc = none := by show ps_c207 pc = none; unfold ps_c207; rw [ps_blt h]; rfl
    unfold ps_ck; rw [e]
theorem ps_o208 (pc : Nat) : ps_ck 208 pc = true := by
  by_cases h : pc < 75
  · exact List.all_eq_true.mp (by decide +kernel : (List.range 75).all (ps_ck 208) = true) pc (List.mem_range.mpr h)
  · have e : ps_ins 208 pc = none := by show ps_c208 pc = none; unfold ps_c208; rw [ps_blt h]; rfl
    unfold ps_ck; rw [e]
theorem ps_o209 (pc : Nat) : ps_ck 209 pc = true := by
  by_cases h : pc < 90
  · exact List.all_eq_true.mp (by decide +kernel : (List.range 90).all (ps_ck 209) = true) pc (List.mem_range.mpr h)
  · have e : ps_ins 209 pc = none := by show ps_c209 pc = none; unfold ps_c209; rw [ps_blt h]; rfl
    unfold ps_ck; rw [e]
theorem ps_o210 (pc : Nat) : ps_ck 210 pc = true := by
  by_cases h : pc < 49
  · exact List.all_eq_true.mp (by decide +kernel : (List.range 49).all (ps_ck 210) = true) pc (List.mem_range.mpr h)
  · have e : ps_ins 210 pc = none := by show ps_c210 pc = none; unfold ps_c210; rw [ps_blt h]; rfl
    unfold ps_ck; rw [e]
theorem ps_o211 (pc : Nat) : ps_ck 211 pc = true := by
  by_cases h : pc < 96
  · exact List.all_eq_true.mp (by decide +kernel : (List.range 96).all (ps_ck 211) = true) pc (List.mem_range.mpr h)
  · have e : ps_ins 211 pc = none := by show ps_c211 pc = none; unfold ps_c211; rw [ps_blt h]; rfl
    unfold ps_ck; rw [e]
theorem ps_o212 (pc : Nat) : ps_ck 212 pc = true := by
  by_cases h : pc < 41
  · exact List.all_eq_true.mp (by decide +kernel : (List.range 41).all (ps_ck 212) = true) pc (List.mem_range.mpr h)
  · have e : ps_ins 212 pc = none := by show ps_c212 pc = none; unfold ps_c212; rw [ps_blt h]; rfl
    unfold ps_ck; rw [e]
theorem ps_o213 (pc : Nat) : ps_ck 213 pc = true := by
  by_cases h : pc < 37
  · exact List.all_eq_true.mp (by decide +kernel : (List.range 37).all (ps_ck 213) = true) pc (List.mem_range.mpr h)
  · have e : ps_ins 213 pc = none := by show ps_c213 pc = none; unfold ps_c213; rw [ps_blt h]; rfl
    unfold ps_ck; rw [e]
theorem ps_o214 (pc : Nat) : ps_ck 214 pc = true := by
  by_cases h : pc < 110
  · exact List.all_eq_true.mp (by decide +kernel : (List.range 110).all (ps_ck 214) = true) pc (List.mem_range.mpr h)
  · have e : ps_ins 214 pc = none := by show ps_c214 pc = none; unfold ps_c214; rw [ps_blt h]; rfl
    unfold ps_ck; rw [e]
theorem ps_o215 (pc : Nat) : ps_ck 215 pc = true := by
  by_cases h : pc < 32
  · exact List.all_eq_true.mp (by decide +kernel : (List.range 32).all (ps_ck 215) = true) pc (List.mem_range.mpr h)
  · have e : ps_ins 215 pc = none := by show ps_c215 pc = none; unfold ps_c215; rw [ps_blt h]; rfl
    unfold ps_ck; rw [e]
theorem ps_o216 (pc : Nat) : ps_ck 216 pc = true := by
  by_cases h : pc < 32
  · exact List.all_eq_true.mp (by decide +kernel : (List.range 32).all (ps_ck 216) = true) pc (List.mem_range.mpr h)
  · have e : ps_ins 216 pc = none := by show ps_c216 pc = none; unfold ps_c216; rw [ps_blt h]; rfl
    unfold ps_ck; rw [e]
theorem ps_o217 (pc : Nat) : ps_ck 217 pc = true := by
  by_cases h : pc < 32
  · exact List.all_eq_true.mp (by decide +kernel : (List.range 32).all (ps_ck 217) = true) pc (List.mem_range.mpr h)
  · have e : ps_ins 217 pc = none := by show ps_c217 pc = none; unfold ps_c217; rw [ps_blt h]; rfl
    unfold ps_ck; rw [e]
theorem ps_o218 (pc : Nat) : ps_ck 218 pc = true := by
  by_cases h : pc < 26
  · exact List.all_eq_true.mp (by decide +kernel : (List.range 26).all (ps_ck 218) = true) pc (List.mem_range.mpr h)
  · have e : ps_ins 218 pc = none := by show ps_c218 pc = none; unfold ps_c218; rw [ps_blt h]; rfl
    unfold ps_ck; rw [e]
theorem ps_o219 (pc : Nat) : ps_ck 219 pc = true := by
  by_cases h : pc < 96
  · exact List.all_eq_true.mp (by decide +kernel : (List.range 96).all (ps_ck 219) = true) pc (List.mem_range.mpr h)
  · have e : ps_ins 219 pc = none := by show ps_c219 pc = none; unfold ps_c219; rw [ps_blt h]; rfl
    unfold ps_ck; rw [e]
theorem ps_o220 (pc : Nat) : ps_ck 220 pc = true := by
  by_cases h : pc < 5
  · exact List.all_eq_true.mp (by decide +kernel : (List.range 5).all (ps_ck 220) = true) pc (List.mem_range.mpr h)
  · have e : ps_ins 220 pc = none := by show ps_c220 pc = none; unfold ps_c220; rw [ps_blt h]; rfl
    unfold ps_ck; rw [e]
theorem ps_o221 (pc : Nat) : ps_ck 221 pc = true := by
  by_cases h : pc < 5
  · exact List.all_eq_true.mp (by decide +kernel : (List.range 5).all (ps_ck 221) = true) pc (List.mem_range.mpr h)
  · have e : ps_ins 221 pc = none := by show ps_c221 pc = none; unfold ps_c221; rw [ps_blt h]; rfl
    unfold ps_ck; rw [e]
theorem ps_o222 (pc : Nat) : ps_ck 222 pc = true := by
  by_cases h : pc < 5
  · exact List.all_eq_true.mp (by decide +kernel : (List.range 5).all (ps_ck 222) = true) pc (List.mem_range.mpr h)
  · have e : ps_ins 222 pc = none := by show ps_c222 pc = none; unfold ps_c222; rw [ps_blt h]; rfl
    unfold ps_ck; rw [e]
theorem ps_o223 (pc : Nat) : ps_ck 223 pc = true := by
  by_cases h : pc < 32
  · exact List.all_eq_true.mp (by decide +kernel : (List.range 32).all (ps_ck 223) = true) pc (List.mem_range.mpr h)
  · have e : ps_ins 223 pc = none := by show ps_c223 pc = none; unfold ps_c223; rw [ps_blt h]; rfl
    unfold ps_ck; rw [e]
theorem ps_o224 (pc : Nat) : ps_ck 224 pc = true := by
  by_cases h : pc < 37
  · exact List.all_eq_true.mp (by decide +kernel : (List.range 37).all (ps_ck 224) = true) pc (List.mem_range.mpr h)
  · have e : ps_ins 224 pc = none := by show ps_c224 pc = none; unfold ps_c224; rw [ps_blt h]; rfl
    unfold ps_ck; rw [e]
theorem ps_o225 (pc : Nat) : ps_ck 225 pc = true := by
  by_cases h : pc < 99
  · exact List.all_eq_true.mp (by decide +kernel : (List.range 99).all (ps_ck 225) = true) pc (List.mem_range.mpr h)
  · have e : ps_ins 225 pc = none := by show ps_c225 pc = none; unfold ps_c225; rw [ps_blt h]; rfl
    unfold ps_ck; rw [e]
theorem ps_o226 (pc : Nat) : ps_ck 226 pc = true := by
  by_cases h : pc < 82
  · exact List.all_eq_true.mp (by decide +kernel : (List.range 82).all (ps_ck 226) = true) pc (List.mem_range.mpr h)
  · have e : ps_ins 226 pc = none := by show ps_c226 pc = none; unfold ps_c226; rw [ps_blt h]; rfl
    unfold ps_ck; rw [e]
theorem ps_o227 (pc : Nat) : ps_ck 227 pc = true := by
  by_cases h : pc < 22
  · exact List.all_eq_true.mp (by decide +kernel : (List.range 22).all (ps_ck 227) = true) pc (List.mem_range.mpr h)
  · have e : ps_ins 227 pc = none := by show ps_c227 pc = none; unfold ps_c227; rw [ps_blt h]; rfl
    unfold ps_ck; rw [e]
theorem ps_o228 (pc : Nat) : ps_ck 228 pc = true := by
  by_cases h : pc < 5
  · exact List.all_eq_true.mp (by decide +kernel : (List.range 5).all (ps_ck 228) = true) pc (List.mem_range.mpr h)
  · have e : ps_ins 228 pc = none := by show ps_c228 pc = none; unfold ps_c228; rw [ps_blt h]; rfl
    unfold ps_ck; rw [e]
theorem ps_o229 (pc : Nat) : ps_ck 229 pc = true := by
  by_cases h : pc < 23
  · exact List.all_eq_true.mp (by decide +kernel : (List.range 23).all (ps_ck 229) = true) pc (List.mem_range.mpr h)
  · have e : ps_ins 229 pc = none := by show ps_c229 pc = none; unfold ps_c229; rw [ps_blt h]; rfl
    unfold ps_ck; rw [e]
theorem ps_o230 (pc : Nat) : ps_ck 230 pc = true := by
  by_cases h : pc < 271
  · exact List.all_eq_true.mp (by decide +kernel : (List.range 271).all (ps_ck 230) = true) pc (List.mem_range.mpr h)
  · have e : ps_ins 230 pc = none := by show ps_c230 pc = none; unfold ps_c230; rw [ps_blt h]; rfl
    unfold ps_ck; rw [e]
theorem ps_o231 (pc : Nat) : ps_ck 231 pc = true := by
  by_cases h : pc < 53
  · exact List.all_eq_true.mp (by decide +kernel : (List.range 53).all (ps_ck 231) = true) pc (List.mem_range.mpr h)
  · have e : ps_ins 231 pc = none := by show ps_c231 pc = none; unfold ps_c231; rw [ps_blt h]; rfl
    unfold ps_ck; rw [e]
theorem ps_o234 (pc : Nat) : ps_ck 234 pc = true := by
  by_cases h : pc < 74
  · exact List.all_eq_true.mp (by decide +kernel : (List.range 74).all (ps_ck 234) = true) pc (List.mem_range.mpr h)
  · have e : ps_ins 234 pc = none := by show ps_c234 pc = none; unfold ps_c234; rw [ps_blt h]; rfl
    unfold ps_ck; rw [e]
theorem ps_o235 (pc : Nat) : ps_ck 235 pc = true := by
  by_cases h : pc < 28
  · exact List.all_eq_true.mp (by decide +kernel : (List.range 28).all (ps_ck 235) = true) pc (List.mem_range.mpr h)
  · have e : ps_ins 235 pc = none := by show ps_c235 pc = none; unfold ps_c235; rw [ps_blt h]; rfl
    unfold ps_ck; rw [e]
theorem ps_o236 (pc : Nat) : ps_ck 236 pc = true := by
  by_cases h : pc < 28
  · exact List.all_eq_true.mp (by decide +kernel : (List.range 28).all (ps_ck 236) = true) pc (List.mem_range.mpr h)
  · have e : ps_ins 236 pc = none := by show ps_c236 pc = none; unfold ps_c236; rw [ps_blt h]; rfl
    unfold ps_ck; rw [e]
