-- ===== the constructor of the class =====
def cm_0 : ps_M := ps_nw ps_mu0 6 0 14
def cm_1 : ps_M := ps_nw cm_0 12 6 6
def cm_2 : ps_M := ps_sR cm_1 0 0 (some 1)
def cm_3 : ps_M := ps_nw cm_2 13 4 4
def cm_4 : ps_M := ps_sR cm_3 0 1 (some 2)
def cm_5 : ps_M := ps_nw cm_4 5 0 3
def cm_6 : ps_M := in6 cm_5 3
def cm_7 : ps_M := ps_sR cm_6 0 2 (some 3)
def cm_8 : ps_M := ps_nw cm_7 14 3 3
def cm_9 : ps_M := ps_sR cm_8 0 3 (some 9)
def cm_10 : ps_M := ps_sR cm_9 0 4 (some 4)
def cm_11 : ps_M := ps_nw cm_10 3 0 12
def cm_12 : ps_M := in3 cm_11 10
def cm_13 : ps_M := ps_sR cm_12 0 5 (some 10)
def cm_14 : ps_M := ps_nw cm_13 0 0 3
def cm_15 : ps_M := in0 cm_14 14
def cm_16 : ps_M := ps_sR cm_15 0 6 (some 14)
def cm_17 : ps_M := ps_nw cm_16 2 0 7
def cm_18 : ps_M := ps_nw cm_17 10 4 4
def cm_19 : ps_M := ps_sR cm_18 19 0 (some 20)
def cm_20 : ps_M := ps_nw cm_19 15 5 5
def cm_21 : ps_M := ps_sR cm_20 19 4 (some 21)
def cm_22 : ps_M := ps_nw cm_21 10 4 4
def cm_23 : ps_M := ps_sR cm_22 19 5 (some 22)
def cm_24 : ps_M := ps_nw cm_23 3 0 12
def cm_25 : ps_M := in3 cm_24 23
def cm_26 : ps_M := ps_sR cm_25 21 0 (some 23)
def cm_27 : ps_M := ps_nw cm_26 3 0 12
def cm_28 : ps_M := in3 cm_27 27
def cm_29 : ps_M := ps_sR cm_28 21 1 (some 27)
def cm_30 : ps_M := ps_nw cm_29 3 0 12
def cm_31 : ps_M := in3 cm_30 31
def cm_32 : ps_M := ps_sR cm_31 21 2 (some 31)
def cm_33 : ps_M := ps_nw cm_32 3 0 12
def cm_34 : ps_M := in3 cm_33 35
def cm_35 : ps_M := ps_sR cm_34 21 3 (some 35)
def cm_36 : ps_M := ps_nw cm_35 3 0 12
def cm_37 : ps_M := in3 cm_36 39
def cm_38 : ps_M := ps_sR cm_37 21 4 (some 39)
theorem c_X2 {X : Nat → Nat × (Nat → Int32)} {d : Nat} : ps_Ev X (d + 2) j_X2_init [.ref 19] cm_17 none cm_38 := by
  refine ⟨Nat.le_of_ble_eq_true rfl, ?_⟩
  refine e_4 rfl rfl ?_
  refine e_61 rfl (Nat.le_of_ble_eq_true rfl) ?_
  refine e_4 rfl rfl ?_
  refine e_0 rfl ?_
  refine n_58 (N := 4) (kd := 10) (c := 20) (μ' := cm_18) rfl (by decide) (by decide) (by decide) (by decide) (by decide +kernel) rfl ?_
  refine n_pr (ci := 2) (z := 0) (sl := 0) (μ' := cm_19) rfl (by decide +kernel) rfl rfl ?_
  refine e_4 rfl rfl ?_
  refine e_0 rfl ?_
  refine n_59 (N := 5) (kd := 15) (c := 21) (μ' := cm_20) rfl (by decide) (by decide) (by decide) (by decide) (by decide +kernel) rfl ?_
  refine n_pr (ci := 2) (z := 0) (sl := 4) (μ' := cm_21) rfl (by decide +kernel) rfl rfl ?_
  refine e_4 rfl rfl ?_
  refine e_0 rfl ?_
  refine n_58 (N := 4) (kd := 10) (c := 22) (μ' := cm_22) rfl (by decide) (by decide) (by decide) (by decide) (by decide +kernel) rfl ?_
  refine n_pr (ci := 2) (z := 0) (sl := 5) (μ' := cm_23) rfl (by decide +kernel) rfl rfl ?_
  refine e_0 rfl ?_
  refine e_5 rfl rfl ?_
  refine e_2 rfl rfl ?_
  refine e_0 rfl ?_
  refine e_40 rfl (fun h => absurd h (by decide)) (fun _ => ?_)
  refine e_4 rfl rfl ?_
  refine e_gr (ci := 2) (z := 0) (sl := 4) (q := 21) rfl (by decide +kernel) rfl (by decide +kernel) ?_
  refine e_2 rfl rfl ?_
  refine n_60 (N := 12) (kd := 3) (c := 23) (μ' := cm_24) rfl (by decide) (by decide) (by decide +kernel) rfl ?_
  refine e_28 rfl rfl ?_
  refine e_i0 (μ' := cm_25) rfl rfl rfl (Nat.le_of_ble_eq_true rfl) (c_X3 (by decide +kernel) (by decide +kernel) rfl) ?_
  refine n_53 (kd := 15) (n := 5) (q := 0) (z := 0) (μ' := cm_26) rfl (by decide +kernel) (by decide) (by decide) (by unfold vp_in; decide) (by decide +kernel) (by decide) rfl ?_
  refine e_8 rfl rfl rfl ?_
  refine e_42 rfl ?_
  refine e_2 rfl rfl ?_
  refine e_0 rfl ?_
  refine e_40 rfl (fun h => absurd h (by decide)) (fun _ => ?_)
  refine e_4 rfl rfl ?_
  refine e_gr (ci := 2) (z := 0) (sl := 4) (q := 21) rfl (by decide +kernel) rfl (by decide +kernel) ?_
  refine e_2 rfl rfl ?_
  refine n_60 (N := 12) (kd := 3) (c := 27) (μ' := cm_27) rfl (by decide) (by decide) (by decide +kernel) rfl ?_
  refine e_28 rfl rfl ?_
  refine e_i0 (μ' := cm_28) rfl rfl rfl (Nat.le_of_ble_eq_true rfl) (c_X3 (by decide +kernel) (by decide +kernel) rfl) ?_
  refine n_53 (kd := 15) (n := 5) (q := 1) (z := 0) (μ' := cm_29) rfl (by decide +kernel) (by decide) (by decide) (by unfold vp_in; decide) (by decide +kernel) (by decide) rfl ?_
  refine e_8 rfl rfl rfl ?_
  refine e_42 rfl ?_
  refine e_2 rfl rfl ?_
  refine e_0 rfl ?_
  refine e_40 rfl (fun h => absurd h (by decide)) (fun _ => ?_)
  refine e_4 rfl rfl ?_
  refine e_gr (ci := 2) (z := 0) (sl := 4) (q := 21) rfl (by decide +kernel) rfl (by decide +kernel) ?_
  refine e_2 rfl rfl ?_
  refine n_60 (N := 12) (kd := 3) (c := 31) (μ' := cm_30) rfl (by decide) (by decide) (by decide +kernel) rfl ?_
  refine e_28 rfl rfl ?_
  refine e_i0 (μ' := cm_31) rfl rfl rfl (Nat.le_of_ble_eq_true rfl) (c_X3 (by decide +kernel) (by decide +kernel) rfl) ?_
  refine n_53 (kd := 15) (n := 5) (q := 2) (z := 0) (μ' := cm_32) rfl (by decide +kernel) (by decide) (by decide) (by unfold vp_in; decide) (by decide +kernel) (by decide) rfl ?_
  refine e_8 rfl rfl rfl ?_
  refine e_42 rfl ?_
  refine e_2 rfl rfl ?_
  refine e_0 rfl ?_
  refine e_40 rfl (fun h => absurd h (by decide)) (fun _ => ?_)
  refine e_4 rfl rfl ?_
  refine e_gr (ci := 2) (z := 0) (sl := 4) (q := 21) rfl (by decide +kernel) rfl (by decide +kernel) ?_
  refine e_2 rfl rfl ?_
  refine n_60 (N := 12) (kd := 3) (c := 35) (μ' := cm_33) rfl (by decide) (by decide) (by decide +kernel) rfl ?_
  refine e_28 rfl rfl ?_
  refine e_i0 (μ' := cm_34) rfl rfl rfl (Nat.le_of_ble_eq_true rfl) (c_X3 (by decide +kernel) (by decide +kernel) rfl) ?_
  refine n_53 (kd := 15) (n := 5) (q := 3) (z := 0) (μ' := cm_35) rfl (by decide +kernel) (by decide) (by decide) (by unfold vp_in; decide) (by decide +kernel) (by decide) rfl ?_
  refine e_8 rfl rfl rfl ?_
  refine e_42 rfl ?_
  refine e_2 rfl rfl ?_
  refine e_0 rfl ?_
  refine e_40 rfl (fun h => absurd h (by decide)) (fun _ => ?_)
  refine e_4 rfl rfl ?_
  refine e_gr (ci := 2) (z := 0) (sl := 4) (q := 21) rfl (by decide +kernel) rfl (by decide +kernel) ?_
  refine e_2 rfl rfl ?_
  refine n_60 (N := 12) (kd := 3) (c := 39) (μ' := cm_36) rfl (by decide) (by decide) (by decide +kernel) rfl ?_
  refine e_28 rfl rfl ?_
  refine e_i0 (μ' := cm_37) rfl rfl rfl (Nat.le_of_ble_eq_true rfl) (c_X3 (by decide +kernel) (by decide +kernel) rfl) ?_
  refine n_53 (kd := 15) (n := 5) (q := 4) (z := 0) (μ' := cm_38) rfl (by decide +kernel) (by decide) (by decide) (by unfold vp_in; decide) (by decide +kernel) (by decide) rfl ?_
  refine e_8 rfl rfl rfl ?_
  refine e_42 rfl ?_
  refine e_2 rfl rfl ?_
  refine e_0 rfl ?_
  refine e_40 rfl (fun _ => ?_) (fun h => absurd (by decide) h)
  exact e_rv rfl rfl
def cm_39 : ps_M := ps_sR cm_38 0 7 (some 19)
def cm_40 : ps_M := ps_nw cm_39 10 3 3
def cm_41 : ps_M := ps_sR cm_40 0 8 (some 43)
def cm_42 : ps_M := ps_nw cm_41 10 6 6
def cm_43 : ps_M := ps_sR cm_42 0 9 (some 44)
def cm_44 : ps_M := ps_sI cm_43 0 10 0
def cm_45 : ps_M := ps_sI cm_44 0 11 0
def cm_46 : ps_M := ps_sL cm_45 0 12 0
def cm_47 : ps_M := ps_sL cm_46 0 13 1
def cm_48 : ps_M := ps_nw cm_47 1 0 2
def cm_49 : ps_M := in1 cm_48 45
def cm_50 : ps_M := ps_sR cm_49 1 0 (some 45)
def cm_51 : ps_M := ps_nw cm_50 1 0 2
def cm_52 : ps_M := in1 cm_51 47
def cm_53 : ps_M := ps_sR cm_52 1 1 (some 47)
def cm_54 : ps_M := ps_nw cm_53 1 0 2
def cm_55 : ps_M := in1 cm_54 49
def cm_56 : ps_M := ps_sR cm_55 1 2 (some 49)
def cm_57 : ps_M := ps_nw cm_56 1 0 2
def cm_58 : ps_M := in1 cm_57 51
def cm_59 : ps_M := ps_sR cm_58 1 3 (some 51)
def cm_60 : ps_M := ps_nw cm_59 1 0 2
def cm_61 : ps_M := in1 cm_60 53
def cm_62 : ps_M := ps_sR cm_61 1 4 (some 53)
def cm_63 : ps_M := ps_nw cm_62 1 0 2
def cm_64 : ps_M := in1 cm_63 55
def cm_65 : ps_M := ps_sR cm_64 1 5 (some 55)
def cm_66 : ps_M := ps_nw cm_65 4 0 2
def cm_67 : ps_M := in5 cm_66 57
def cm_68 : ps_M := ps_sR cm_67 2 0 (some 57)
def cm_69 : ps_M := ps_nw cm_68 4 0 2
def cm_70 : ps_M := in5 cm_69 59
def cm_71 : ps_M := ps_sR cm_70 2 1 (some 59)
def cm_72 : ps_M := ps_nw cm_71 4 0 2
def cm_73 : ps_M := in5 cm_72 61
def cm_74 : ps_M := ps_sR cm_73 2 2 (some 61)
def cm_75 : ps_M := ps_nw cm_74 4 0 2
def cm_76 : ps_M := in5 cm_75 63
def cm_77 : ps_M := ps_sR cm_76 2 3 (some 63)
def cm_78 : ps_M := ps_nw cm_77 5 0 3
def cm_79 : ps_M := in6 cm_78 65
def cm_80 : ps_M := ps_sR cm_79 9 0 (some 65)
def cm_81 : ps_M := ps_nw cm_80 5 0 3
def cm_82 : ps_M := in6 cm_81 71
def cm_83 : ps_M := ps_sR cm_82 9 1 (some 71)
def cm_84 : ps_M := ps_nw cm_83 5 0 3
def cm_85 : ps_M := in6 cm_84 77
def cm_86 : ps_M := ps_sR cm_85 9 2 (some 77)
theorem c_X7 {X : Nat → Nat × (Nat → Int32)} {d : Nat} : ps_Ev X (d + 3) j_X7_init [.ref 0] cm_0 none cm_86 := by
  refine ⟨Nat.le_of_ble_eq_true rfl, ?_⟩
  refine e_4 rfl rfl ?_
  refine e_61 rfl (Nat.le_of_ble_eq_true rfl) ?_
  refine e_4 rfl rfl ?_
  refine e_0 rfl ?_
  refine n_59 (N := 6) (kd := 12) (c := 1) (μ' := cm_1) rfl (by decide) (by decide) (by decide) (by decide) (by decide +kernel) rfl ?_
  refine n_pr (ci := 6) (z := 0) (sl := 0) (μ' := cm_2) rfl (by decide +kernel) rfl rfl ?_
  refine e_4 rfl rfl ?_
  refine e_0 rfl ?_
  refine n_59 (N := 4) (kd := 13) (c := 2) (μ' := cm_3) rfl (by decide) (by decide) (by decide) (by decide) (by decide +kernel) rfl ?_
  refine n_pr (ci := 6) (z := 0) (sl := 1) (μ' := cm_4) rfl (by decide +kernel) rfl rfl ?_
  refine e_4 rfl rfl ?_
  refine n_60 (N := 3) (kd := 5) (c := 3) (μ' := cm_5) rfl (by decide) (by decide) (by decide +kernel) rfl ?_
  refine e_28 rfl rfl ?_
  refine e_i0 (μ' := cm_6) rfl rfl rfl (Nat.le_of_ble_eq_true rfl) (c_X6 (by decide +kernel) (by decide +kernel) rfl) ?_
  refine n_pr (ci := 6) (z := 0) (sl := 2) (μ' := cm_7) rfl (by decide +kernel) rfl rfl ?_
  refine e_4 rfl rfl ?_
  refine e_0 rfl ?_
  refine n_59 (N := 3) (kd := 14) (c := 9) (μ' := cm_8) rfl (by decide) (by decide) (by decide) (by decide) (by decide +kernel) rfl ?_
  refine n_pr (ci := 6) (z := 0) (sl := 3) (μ' := cm_9) rfl (by decide +kernel) rfl rfl ?_
  refine e_4 rfl rfl ?_
  refine e_4 rfl rfl ?_
  refine e_gr (ci := 6) (z := 0) (sl := 2) (q := 3) rfl (by decide +kernel) rfl (by decide +kernel) ?_
  refine e_gr (ci := 5) (z := 0) (sl := 0) (q := 4) rfl (by decide +kernel) rfl (by decide +kernel) ?_
  refine n_pr (ci := 6) (z := 0) (sl := 4) (μ' := cm_10) rfl (by decide +kernel) rfl rfl ?_
  refine e_4 rfl rfl ?_
  refine n_60 (N := 12) (kd := 3) (c := 10) (μ' := cm_11) rfl (by decide) (by decide) (by decide +kernel) rfl ?_
  refine e_28 rfl rfl ?_
  refine e_i0 (μ' := cm_12) rfl rfl rfl (Nat.le_of_ble_eq_true rfl) (c_X3 (by decide +kernel) (by decide +kernel) rfl) ?_
  refine n_pr (ci := 6) (z := 0) (sl := 5) (μ' := cm_13) rfl (by decide +kernel) rfl rfl ?_
  refine e_4 rfl rfl ?_
  refine n_60 (N := 3) (kd := 0) (c := 14) (μ' := cm_14) rfl (by decide) (by decide) (by decide +kernel) rfl ?_
  refine e_28 rfl rfl ?_
  refine e_i0 (μ' := cm_15) rfl rfl rfl (Nat.le_of_ble_eq_true rfl) (c_X0 (by decide +kernel) (by decide +kernel) rfl) ?_
  refine n_pr (ci := 6) (z := 0) (sl := 6) (μ' := cm_16) rfl (by decide +kernel) rfl rfl ?_
  refine e_4 rfl rfl ?_
  refine n_60 (N := 7) (kd := 2) (c := 19) (μ' := cm_17) rfl (by decide) (by decide) (by decide +kernel) rfl ?_
  refine e_28 rfl rfl ?_
  refine e_i0 rfl rfl rfl (Nat.le_of_ble_eq_true rfl) (c_X2 (d := d)) ?_
  refine n_pr (ci := 6) (z := 0) (sl := 7) (μ' := cm_39) rfl (by decide +kernel) rfl rfl ?_
  refine e_4 rfl rfl ?_
  refine e_0 rfl ?_
  refine n_58 (N := 3) (kd := 10) (c := 43) (μ' := cm_40) rfl (by decide) (by decide) (by decide) (by decide) (by decide +kernel) rfl ?_
  refine n_pr (ci := 6) (z := 0) (sl := 8) (μ' := cm_41) rfl (by decide +kernel) rfl rfl ?_
  refine e_4 rfl rfl ?_
  refine e_0 rfl ?_
  refine n_58 (N := 6) (kd := 10) (c := 44) (μ' := cm_42) rfl (by decide) (by decide) (by decide) (by decide) (by decide +kernel) rfl ?_
  refine n_pr (ci := 6) (z := 0) (sl := 9) (μ' := cm_43) rfl (by decide +kernel) rfl rfl ?_
  refine e_4 rfl rfl ?_
  refine e_0 rfl ?_
  refine n_pi (ci := 6) (z := 0) (sl := 10) (tc := 0) (μ' := cm_44) rfl (by decide +kernel) rfl (Or.inl rfl) rfl ?_
  refine e_4 rfl rfl ?_
  refine e_0 rfl ?_
  refine n_pi (ci := 6) (z := 0) (sl := 11) (tc := 0) (μ' := cm_45) rfl (by decide +kernel) rfl (Or.inl rfl) rfl ?_
  refine e_4 rfl rfl ?_
  refine e_1 rfl ?_
  refine n_pl (ci := 6) (z := 0) (sl := 12) (μ' := cm_46) rfl (by decide +kernel) rfl rfl ?_
  refine e_4 rfl rfl ?_
  refine e_1 rfl ?_
  refine n_pl (ci := 6) (z := 0) (sl := 13) (μ' := cm_47) rfl (by decide +kernel) rfl rfl ?_
  refine e_0 rfl ?_
  refine e_5 rfl rfl ?_
  refine e_2 rfl rfl ?_
  refine e_0 rfl ?_
  refine e_39 rfl (fun h => absurd h (by decide)) (fun _ => ?_)
  refine e_4 rfl rfl ?_
  refine e_gr (ci := 6) (z := 0) (sl := 0) (q := 1) rfl (by decide +kernel) rfl (by decide +kernel) ?_
  refine e_2 rfl rfl ?_
  refine n_60 (N := 2) (kd := 1) (c := 45) (μ' := cm_48) rfl (by decide) (by decide) (by decide +kernel) rfl ?_
  refine e_28 rfl rfl ?_
  refine e_i0 (μ' := cm_49) rfl rfl rfl (Nat.le_of_ble_eq_true rfl) (c_X1 (by decide +kernel) (by decide +kernel) rfl) ?_
  refine n_53 (kd := 12) (n := 6) (q := 0) (z := 0) (μ' := cm_50) rfl (by decide +kernel) (by decide) (by decide) (by unfold vp_in; decide) (by decide +kernel) (by decide) rfl ?_
  refine e_8 rfl rfl rfl ?_
  refine e_42 rfl ?_
  refine e_2 rfl rfl ?_
  refine e_0 rfl ?_
  refine e_39 rfl (fun h => absurd h (by decide)) (fun _ => ?_)
  refine e_4 rfl rfl ?_
  refine e_gr (ci := 6) (z := 0) (sl := 0) (q := 1) rfl (by decide +kernel) rfl (by decide +kernel) ?_
  refine e_2 rfl rfl ?_
  refine n_60 (N := 2) (kd := 1) (c := 47) (μ' := cm_51) rfl (by decide) (by decide) (by decide +kernel) rfl ?_
  refine e_28 rfl rfl ?_
  refine e_i0 (μ' := cm_52) rfl rfl rfl (Nat.le_of_ble_eq_true rfl) (c_X1 (by decide +kernel) (by decide +kernel) rfl) ?_
  refine n_53 (kd := 12) (n := 6) (q := 1) (z := 0) (μ' := cm_53) rfl (by decide +kernel) (by decide) (by decide) (by unfold vp_in; decide) (by decide +kernel) (by decide) rfl ?_
  refine e_8 rfl rfl rfl ?_
  refine e_42 rfl ?_
  refine e_2 rfl rfl ?_
  refine e_0 rfl ?_
  refine e_39 rfl (fun h => absurd h (by decide)) (fun _ => ?_)
  refine e_4 rfl rfl ?_
  refine e_gr (ci := 6) (z := 0) (sl := 0) (q := 1) rfl (by decide +kernel) rfl (by decide +kernel) ?_
  refine e_2 rfl rfl ?_
  refine n_60 (N := 2) (kd := 1) (c := 49) (μ' := cm_54) rfl (by decide) (by decide) (by decide +kernel) rfl ?_
  refine e_28 rfl rfl ?_
  refine e_i0 (μ' := cm_55) rfl rfl rfl (Nat.le_of_ble_eq_true rfl) (c_X1 (by decide +kernel) (by decide +kernel) rfl) ?_
  refine n_53 (kd := 12) (n := 6) (q := 2) (z := 0) (μ' := cm_56) rfl (by decide +kernel) (by decide) (by decide) (by unfold vp_in; decide) (by decide +kernel) (by decide) rfl ?_
  refine e_8 rfl rfl rfl ?_
  refine e_42 rfl ?_
  refine e_2 rfl rfl ?_
  refine e_0 rfl ?_
  refine e_39 rfl (fun h => absurd h (by decide)) (fun _ => ?_)
  refine e_4 rfl rfl ?_
  refine e_gr (ci := 6) (z := 0) (sl := 0) (q := 1) rfl (by decide +kernel) rfl (by decide +kernel) ?_
  refine e_2 rfl rfl ?_
  refine n_60 (N := 2) (kd := 1) (c := 51) (μ' := cm_57) rfl (by decide) (by decide) (by decide +kernel) rfl ?_
  refine e_28 rfl rfl ?_
  refine e_i0 (μ' := cm_58) rfl rfl rfl (Nat.le_of_ble_eq_true rfl) (c_X1 (by decide +kernel) (by decide +kernel) rfl) ?_
  refine n_53 (kd := 12) (n := 6) (q := 3) (z := 0) (μ' := cm_59) rfl (by decide +kernel) (by decide) (by decide) (by unfold vp_in; decide) (by decide +kernel) (by decide) rfl ?_
  refine e_8 rfl rfl rfl ?_
  refine e_42 rfl ?_
  refine e_2 rfl rfl ?_
  refine e_0 rfl ?_
  refine e_39 rfl (fun h => absurd h (by decide)) (fun _ => ?_)
  refine e_4 rfl rfl ?_
  refine e_gr (ci := 6) (z := 0) (sl := 0) (q := 1) rfl (by decide +kernel) rfl (by decide +kernel) ?_
  refine e_2 rfl rfl ?_
  refine n_60 (N := 2) (kd := 1) (c := 53) (μ' := cm_60) rfl (by decide) (by decide) (by decide +kernel) rfl ?_
  refine e_28 rfl rfl ?_
  refine e_i0 (μ' := cm_61) rfl rfl rfl (Nat.le_of_ble_eq_true rfl) (c_X1 (by decide +kernel) (by decide +kernel) rfl) ?_
  refine n_53 (kd := 12) (n := 6) (q := 4) (z := 0) (μ' := cm_62) rfl (by decide +kernel) (by decide) (by decide) (by unfold vp_in; decide) (by decide +kernel) (by decide) rfl ?_
  refine e_8 rfl rfl rfl ?_
  refine e_42 rfl ?_
  refine e_2 rfl rfl ?_
  refine e_0 rfl ?_
  refine e_39 rfl (fun h => absurd h (by decide)) (fun _ => ?_)
  refine e_4 rfl rfl ?_
  refine e_gr (ci := 6) (z := 0) (sl := 0) (q := 1) rfl (by decide +kernel) rfl (by decide +kernel) ?_
  refine e_2 rfl rfl ?_
  refine n_60 (N := 2) (kd := 1) (c := 55) (μ' := cm_63) rfl (by decide) (by decide) (by decide +kernel) rfl ?_
  refine e_28 rfl rfl ?_
  refine e_i0 (μ' := cm_64) rfl rfl rfl (Nat.le_of_ble_eq_true rfl) (c_X1 (by decide +kernel) (by decide +kernel) rfl) ?_
  refine n_53 (kd := 12) (n := 6) (q := 5) (z := 0) (μ' := cm_65) rfl (by decide +kernel) (by decide) (by decide) (by unfold vp_in; decide) (by decide +kernel) (by decide) rfl ?_
  refine e_8 rfl rfl rfl ?_
  refine e_42 rfl ?_
  refine e_2 rfl rfl ?_
  refine e_0 rfl ?_
  refine e_39 rfl (fun _ => ?_) (fun h => absurd (by decide) h)
  refine e_0 rfl ?_
  refine e_5 rfl rfl ?_
  refine e_2 rfl rfl ?_
  refine e_0 rfl ?_
  refine e_39 rfl (fun h => absurd h (by decide)) (fun _ => ?_)
  refine e_4 rfl rfl ?_
  refine e_gr (ci := 6) (z := 0) (sl := 1) (q := 2) rfl (by decide +kernel) rfl (by decide +kernel) ?_
  refine e_2 rfl rfl ?_
  refine n_60 (N := 2) (kd := 4) (c := 57) (μ' := cm_66) rfl (by decide) (by decide) (by decide +kernel) rfl ?_
  refine e_28 rfl rfl ?_
  refine e_i0 (μ' := cm_67) rfl rfl rfl (Nat.le_of_ble_eq_true rfl) (c_X5 (by decide +kernel) (by decide +kernel) rfl) ?_
  refine n_53 (kd := 13) (n := 4) (q := 0) (z := 0) (μ' := cm_68) rfl (by decide +kernel) (by decide) (by decide) (by unfold vp_in; decide) (by decide +kernel) (by decide) rfl ?_
  refine e_8 rfl rfl rfl ?_
  refine e_42 rfl ?_
  refine e_2 rfl rfl ?_
  refine e_0 rfl ?_
  refine e_39 rfl (fun h => absurd h (by decide)) (fun _ => ?_)
  refine e_4 rfl rfl ?_
  refine e_gr (ci := 6) (z := 0) (sl := 1) (q := 2) rfl (by decide +kernel) rfl (by decide +kernel) ?_
  refine e_2 rfl rfl ?_
  refine n_60 (N := 2) (kd := 4) (c := 59) (μ' := cm_69) rfl (by decide) (by decide) (by decide +kernel) rfl ?_
  refine e_28 rfl rfl ?_
  refine e_i0 (μ' := cm_70) rfl rfl rfl (Nat.le_of_ble_eq_true rfl) (c_X5 (by decide +kernel) (by decide +kernel) rfl) ?_
  refine n_53 (kd := 13) (n := 4) (q := 1) (z := 0) (μ' := cm_71) rfl (by decide +kernel) (by decide) (by decide) (by unfold vp_in; decide) (by decide +kernel) (by decide) rfl ?_
  refine e_8 rfl rfl rfl ?_
  refine e_42 rfl ?_
  refine e_2 rfl rfl ?_
  refine e_0 rfl ?_
  refine e_39 rfl (fun h => absurd h (by decide)) (fun _ => ?_)
  refine e_4 rfl rfl ?_
  refine e_gr (ci := 6) (z := 0) (sl := 1) (q := 2) rfl (by decide +kernel) rfl (by decide +kernel) ?_
  refine e_2 rfl rfl ?_
  refine n_60 (N := 2) (kd := 4) (c := 61) (μ' := cm_72) rfl (by decide) (by decide) (by decide +kernel) rfl ?_
  refine e_28 rfl rfl ?_
  refine e_i0 (μ' := cm_73) rfl rfl rfl (Nat.le_of_ble_eq_true rfl) (c_X5 (by decide +kernel) (by decide +kernel) rfl) ?_
  refine n_53 (kd := 13) (n := 4) (q := 2) (z := 0) (μ' := cm_74) rfl (by decide +kernel) (by decide) (by decide) (by unfold vp_in; decide) (by decide +kernel) (by decide) rfl ?_
  refine e_8 rfl rfl rfl ?_
  refine e_42 rfl ?_
  refine e_2 rfl rfl ?_
  refine e_0 rfl ?_
  refine e_39 rfl (fun h => absurd h (by decide)) (fun _ => ?_)
  refine e_4 rfl rfl ?_
  refine e_gr (ci := 6) (z := 0) (sl := 1) (q := 2) rfl (by decide +kernel) rfl (by decide +kernel) ?_
  refine e_2 rfl rfl ?_
  refine n_60 (N := 2) (kd := 4) (c := 63) (μ' := cm_75) rfl (by decide) (by decide) (by decide +kernel) rfl ?_
  refine e_28 rfl rfl ?_
  refine e_i0 (μ' := cm_76) rfl rfl rfl (Nat.le_of_ble_eq_true rfl) (c_X5 (by decide +kernel) (by decide +kernel) rfl) ?_
  refine n_53 (kd := 13) (n := 4) (q := 3) (z := 0) (μ' := cm_77) rfl (by decide +kernel) (by decide) (by decide) (by unfold vp_in; decide) (by decide +kernel) (by decide) rfl ?_
  refine e_8 rfl rfl rfl ?_
  refine e_42 rfl ?_
  refine e_2 rfl rfl ?_
  refine e_0 rfl ?_
  refine e_39 rfl (fun _ => ?_) (fun h => absurd (by decide) h)
  refine e_0 rfl ?_
  refine e_5 rfl rfl ?_
  refine e_2 rfl rfl ?_
  refine e_0 rfl ?_
  refine e_39 rfl (fun h => absurd h (by decide)) (fun _ => ?_)
  refine e_4 rfl rfl ?_
  refine e_gr (ci := 6) (z := 0) (sl := 3) (q := 9) rfl (by decide +kernel) rfl (by decide +kernel) ?_
  refine e_2 rfl rfl ?_
  refine n_60 (N := 3) (kd := 5) (c := 65) (μ' := cm_78) rfl (by decide) (by decide) (by decide +kernel) rfl ?_
  refine e_28 rfl rfl ?_
  refine e_i0 (μ' := cm_79) rfl rfl rfl (Nat.le_of_ble_eq_true rfl) (c_X6 (by decide +kernel) (by decide +kernel) rfl) ?_
  refine n_53 (kd := 14) (n := 3) (q := 0) (z := 0) (μ' := cm_80) rfl (by decide +kernel) (by decide) (by decide) (by unfold vp_in; decide) (by decide +kernel) (by decide) rfl ?_
  refine e_8 rfl rfl rfl ?_
  refine e_42 rfl ?_
  refine e_2 rfl rfl ?_
  refine e_0 rfl ?_
  refine e_39 rfl (fun h => absurd h (by decide)) (fun _ => ?_)
  refine e_4 rfl rfl ?_
  refine e_gr (ci := 6) (z := 0) (sl := 3) (q := 9) rfl (by decide +kernel) rfl (by decide +kernel) ?_
  refine e_2 rfl rfl ?_
  refine n_60 (N := 3) (kd := 5) (c := 71) (μ' := cm_81) rfl (by decide) (by decide) (by decide +kernel) rfl ?_
  refine e_28 rfl rfl ?_
  refine e_i0 (μ' := cm_82) rfl rfl rfl (Nat.le_of_ble_eq_true rfl) (c_X6 (by decide +kernel) (by decide +kernel) rfl) ?_
  refine n_53 (kd := 14) (n := 3) (q := 1) (z := 0) (μ' := cm_83) rfl (by decide +kernel) (by decide) (by decide) (by unfold vp_in; decide) (by decide +kernel) (by decide) rfl ?_
  refine e_8 rfl rfl rfl ?_
  refine e_42 rfl ?_
  refine e_2 rfl rfl ?_
  refine e_0 rfl ?_
  refine e_39 rfl (fun h => absurd h (by decide)) (fun _ => ?_)
  refine e_4 rfl rfl ?_
  refine e_gr (ci := 6) (z := 0) (sl := 3) (q := 9) rfl (by decide +kernel) rfl (by decide +kernel) ?_
  refine e_2 rfl rfl ?_
  refine n_60 (N := 3) (kd := 5) (c := 77) (μ' := cm_84) rfl (by decide) (by decide) (by decide +kernel) rfl ?_
  refine e_28 rfl rfl ?_
  refine e_i0 (μ' := cm_85) rfl rfl rfl (Nat.le_of_ble_eq_true rfl) (c_X6 (by decide +kernel) (by decide +kernel) rfl) ?_
  refine n_53 (kd := 14) (n := 3) (q := 2) (z := 0) (μ' := cm_86) rfl (by decide +kernel) (by decide) (by decide) (by unfold vp_in; decide) (by decide +kernel) (by decide) rfl ?_
  refine e_8 rfl rfl rfl ?_
  refine e_42 rfl ?_
  refine e_2 rfl rfl ?_
  refine e_0 rfl ?_
  refine e_39 rfl (fun _ => ?_) (fun h => absurd (by decide) h)
  exact e_rv rfl rfl
