-- ===== the constructors =====
section CON
variable {X : Nat → Nat × (Nat → Int32)} {Cl : Nat → List Value → ps_M → Option Value → ps_M → Prop} {j : Nat} {K : ps_F → Prop} {pc : Nat} {v : Int32} {w : Int64} {nx b : Nat} {lv : List (Nat × Value)} {st : List Value} {μ μ' : ps_M} {k c kd N d : Nat}
theorem n_58 {n : Int32} (h0 : ps_ins j pc = some (58, v, w, nx, b)) (h1 : ¬ n < 0) (h2 : n.toNatClampNeg = N) (h3 : N ≤ 3000) (hv : v.toNatClampNeg = kd) (hn : ps_n μ = c) (hm : ps_nw μ kd N N = μ') (h4 : ps_To X Cl j K (nx, lv, .ref c :: st, μ')) : ps_To X Cl j K (pc, lv, .int n :: st, μ) := by
  subst hv hn hm
  exact e_58 h0 h1 h2 h3 h4
theorem n_59 {n : Int32} (h0 : ps_ins j pc = some (59, v, w, nx, b)) (h1 : ¬ n < 0) (h2 : n.toNatClampNeg = N) (h3 : N ≤ 3000) (hv : v.toNatClampNeg = kd) (hn : ps_n μ = c) (hm : ps_nw μ kd N N = μ') (h4 : ps_To X Cl j K (nx, lv, .ref c :: st, μ')) : ps_To X Cl j K (pc, lv, .int n :: st, μ) := by
  subst hv hn hm
  exact e_59 h0 h1 h2 h3 h4
theorem n_60 (h0 : ps_ins j pc = some (60, v, w, nx, b)) (hv : v.toNatClampNeg = kd) (hz : ps_nf kd = N) (hn : ps_n μ = c) (hm : ps_nw μ kd 0 N = μ') (h4 : ps_To X Cl j K (nx, lv, .ref c :: st, μ')) : ps_To X Cl j K (pc, lv, st, μ) := by
  subst hv hz hn hm
  exact e_60 h0 h4
theorem n_pr {ci z sl x : Nat} (h0 : ps_ins j pc = some (46, v, w, nx, b)) (h1 : ps_s μ k = (ci, z)) (h2 : ps_f2 b ci = some (sl, 2)) (hm : ps_sR μ k sl (some x) = μ') (h3 : ps_To X Cl j K (nx, lv, st, μ')) : ps_To X Cl j K (pc, lv, .ref x :: .ref k :: st, μ) := by
  subst hm
  exact e_pr h0 h1 h2 h3
theorem n_pi {ci z sl tc : Nat} {x : Int32} (h0 : ps_ins j pc = some (46, v, w, nx, b)) (h1 : ps_s μ k = (ci, z)) (h2 : ps_f2 b ci = some (sl, tc)) (ht : tc = 0 ∨ tc = 3 ∧ (x = 0 ∨ x = 1)) (hm : ps_sI μ k sl x = μ') (h3 : ps_To X Cl j K (nx, lv, st, μ')) : ps_To X Cl j K (pc, lv, .int x :: .ref k :: st, μ) := by
  subst hm
  exact e_pi h0 h1 h2 ht h3
theorem n_pl {ci z sl : Nat} {x : Int64} (h0 : ps_ins j pc = some (46, v, w, nx, b)) (h1 : ps_s μ k = (ci, z)) (h2 : ps_f2 b ci = some (sl, 1)) (hm : ps_sL μ k sl x = μ') (h3 : ps_To X Cl j K (nx, lv, st, μ')) : ps_To X Cl j K (pc, lv, .long x :: .ref k :: st, μ) := by
  subst hm
  exact e_pl h0 h1 h2 h3
theorem n_49 {n q : Nat} {i x : Int32} (h0 : ps_ins j pc = some (49, v, w, nx, b)) (h1 : ps_s μ k = (10, n)) (h2 : vp_in i n) (hi : i.toNatClampNeg = q) (hm : ps_sI μ k q x = μ') (h3 : ps_To X Cl j K (nx, lv, st, μ')) : ps_To X Cl j K (pc, lv, .int x :: .int i :: .ref k :: st, μ) := by
  subst hi hm
  exact e_49 h0 h1 h2 h3
theorem n_53 {n q x z : Nat} {i : Int32} (h0 : ps_ins j pc = some (53, v, w, nx, b)) (h1 : ps_s μ k = (kd, n)) (h2 : 12 ≤ kd) (h3 : kd < 16) (h4 : vp_in i n) (h5 : ps_s μ x = (ps_el kd, z)) (hi : i.toNatClampNeg = q) (hm : ps_sR μ k q (some x) = μ') (h6 : ps_To X Cl j K (nx, lv, st, μ')) : ps_To X Cl j K (pc, lv, .ref x :: .int i :: .ref k :: st, μ) := by
  subst hi hm
  exact e_53 h0 h1 h2 h3 h4 h5 h6
theorem nw_s {a e f : Nat} (h : k < ps_n μ) : ps_s (ps_nw μ a e f) k = ps_s μ k := if_neg (Nat.ne_of_lt h)
theorem nw_r {a e f i : Nat} (h : k < ps_n μ) : ps_r (ps_nw μ a e f) k i = ps_r μ k i := if_neg (Nat.ne_of_lt h)
theorem nw_at {a e f : Nat} : ps_s (ps_nw μ a e f) (ps_n μ) = (a, e) := if_pos rfl
theorem nw_n {a e f : Nat} : ps_n (ps_nw μ a e f) = ps_n μ + 1 := rfl
/-- a ship at the cell k -/
def in3 (μ : ps_M) (k : Nat) : ps_M := ps_sR (ps_nw (ps_sR (ps_nw (ps_sR (ps_nw μ 10 6 6) k 9 (some (ps_n μ))) 10 6 6) k 10 (some (ps_n μ + 1))) 10 6 6) k 11 (some (ps_n μ + 2))
theorem in3_n : ps_n (in3 μ k) = ps_n μ + 3 := rfl
theorem in3_s {x : Nat} (h : x < ps_n μ) : ps_s (in3 μ k) x = ps_s μ x := by
  show (if x = ps_n μ + 1 + 1 then _ else if x = ps_n μ + 1 then _ else if x = ps_n μ then _ else _) = _
  rw [if_neg (by omega), if_neg (by omega), if_neg (by omega)]
theorem in3_r {x i : Nat} (h : x < ps_n μ) (hk : ¬ x = k) : ps_r (in3 μ k) x i = ps_r μ x i := by
  show (if x = k ∧ i = 11 then _ else if x = ps_n μ + 1 + 1 then _ else if x = k ∧ i = 10 then _ else if x = ps_n μ + 1 then _ else if x = k ∧ i = 9 then _ else if x = ps_n μ then _ else _) = _
  rw [if_neg (fun q => hk q.1), if_neg (by omega), if_neg (fun q => hk q.1), if_neg (by omega), if_neg (fun q => hk q.1), if_neg (by omega)]
theorem c_X3 (hs : ps_s μ k = (3, 0)) (hk : k < ps_n μ) (hm : in3 μ k = μ') : ps_Ev X (d + 1) j_X3_init [.ref k] μ none μ' := by
  subst hm
  refine ⟨Nat.le_of_ble_eq_true rfl, ?_⟩
  obtain ⟨μ1, e1⟩ : ∃ x, x = ps_sR (ps_nw μ 10 6 6) k 9 (some (ps_n μ)) := ⟨_, rfl⟩
  obtain ⟨μ2, e2⟩ : ∃ x, x = ps_sR (ps_nw μ1 10 6 6) k 10 (some (ps_n μ + 1)) := ⟨_, rfl⟩
  obtain ⟨μ3, e3⟩ : ∃ x, x = ps_sR (ps_nw μ2 10 6 6) k 11 (some (ps_n μ + 2)) := ⟨_, rfl⟩
  have s1 : ps_s μ1 k = (3, 0) := by rw [e1]; exact (nw_s (f := 6) hk).trans hs
  have n1 : ps_n μ1 = ps_n μ + 1 := by rw [e1]; rfl
  have s2 : ps_s μ2 k = (3, 0) := by rw [e2]; exact (nw_s (f := 6) (by omega)).trans s1
  have n2 : ps_n μ2 = ps_n μ + 2 := by rw [e2]; show ps_n μ1 + 1 = _; rw [n1]
  have ef : in3 μ k = μ3 := by rw [e3, e2, e1]; rfl
  rw [ef]
  refine e_4 rfl rfl ?_
  refine e_61 rfl (Nat.le_of_ble_eq_true rfl) ?_
  refine e_4 rfl rfl ?_
  refine e_0 rfl ?_
  refine n_58 (N := 6) (kd := 10) rfl (by decide) (by decide) (by decide) (by decide) rfl rfl ?_
  refine n_pr rfl ((nw_s hk).trans hs) rfl e1.symm ?_
  refine e_4 rfl rfl ?_
  refine e_0 rfl ?_
  refine n_58 (N := 6) (kd := 10) rfl (by decide) (by decide) (by decide) (by decide) n1 rfl ?_
  refine n_pr rfl ((nw_s (by omega)).trans s1) rfl e2.symm ?_
  refine e_4 rfl rfl ?_
  refine e_0 rfl ?_
  refine n_58 (N := 6) (kd := 10) rfl (by decide) (by decide) (by decide) (by decide) n2 rfl ?_
  refine n_pr rfl ((nw_s (by omega)).trans s2) rfl e3.symm ?_
  exact e_rv rfl rfl
/-- a voyage at the cell k -/
def in6 (μ : ps_M) (k : Nat) : ps_M := ps_sR (ps_nw (ps_sI (ps_sR (in3 (ps_nw μ 3 0 12) (ps_n μ)) k 0 (some (ps_n μ))) k 1 0) 10 440 440) k 2 (some (ps_n μ + 4))
theorem c_X6 (hs : ps_s μ k = (5, 0)) (hk : k < ps_n μ) (hm : in6 μ k = μ') : ps_Ev X (d + 2) j_X6_init [.ref k] μ none μ' := by
  subst hm
  refine ⟨Nat.le_of_ble_eq_true rfl, ?_⟩
  obtain ⟨μ1, e1⟩ : ∃ x, x = ps_nw μ 3 0 12 := ⟨_, rfl⟩
  obtain ⟨μ2, e2⟩ : ∃ x, x = in3 μ1 (ps_n μ) := ⟨_, rfl⟩
  obtain ⟨μ3, e3⟩ : ∃ x, x = ps_sR μ2 k 0 (some (ps_n μ)) := ⟨_, rfl⟩
  obtain ⟨μ4, e4⟩ : ∃ x, x = ps_sI μ3 k 1 0 := ⟨_, rfl⟩
  obtain ⟨μ5, e5⟩ : ∃ x, x = ps_nw μ4 10 440 440 := ⟨_, rfl⟩
  obtain ⟨μ6, e6⟩ : ∃ x, x = ps_sR μ5 k 2 (some (ps_n μ + 4)) := ⟨_, rfl⟩
  have n1 : ps_n μ1 = ps_n μ + 1 := by rw [e1]; rfl
  have s1 : ps_s μ1 k = (5, 0) := by rw [e1]; exact (nw_s hk).trans hs
  have t1 : ps_s μ1 (ps_n μ) = (3, 0) := by rw [e1]; exact nw_at
  have n2 : ps_n μ2 = ps_n μ + 4 := by rw [e2, in3_n, n1]
  have s2 : ps_s μ2 k = (5, 0) := by rw [e2, in3_s (by omega)]; exact s1
  have s3 : ps_s μ3 k = (5, 0) := by rw [e3]; exact s2
  have s4 : ps_s μ4 k = (5, 0) := by rw [e4]; exact s3
  have n4 : ps_n μ4 = ps_n μ + 4 := by rw [e4, e3]; exact n2
  have s5 : ps_s μ5 k = (5, 0) := by rw [e5]; exact (nw_s (by omega)).trans s4
  have ef : in6 μ k = μ6 := by rw [e6, e5, e4, e3, e2, e1]; rfl
  rw [ef]
  refine e_4 rfl rfl ?_
  refine e_61 rfl (Nat.le_of_ble_eq_true rfl) ?_
  refine e_4 rfl rfl ?_
  refine n_60 (kd := 3) (N := 12) rfl (by decide) (by decide) rfl e1.symm ?_
  refine e_28 rfl rfl ?_
  refine e_i0 rfl rfl rfl (Nat.le_of_ble_eq_true rfl) (c_X3 t1 (by omega) e2.symm) ?_
  refine n_pr rfl s2 rfl e3.symm ?_
  refine e_4 rfl rfl ?_
  refine e_0 rfl ?_
  refine n_pi rfl s3 rfl (Or.inr ⟨rfl, Or.inl rfl⟩) e4.symm ?_
  refine e_4 rfl rfl ?_
  refine e_0 rfl ?_
  refine n_58 (N := 440) (kd := 10) rfl (by decide) (by decide) (by decide) (by decide) n4 e5.symm ?_
  refine n_pr rfl s5 rfl e6.symm ?_
  exact e_rv rfl rfl
/-- a reader at the cell k -/
def in0 (μ : ps_M) (k : Nat) : ps_M := ps_sR (in3 (ps_nw μ 3 0 12) (ps_n μ)) k 0 (some (ps_n μ))
theorem c_X0 (hs : ps_s μ k = (0, 0)) (hk : k < ps_n μ) (hm : in0 μ k = μ') : ps_Ev X (d + 2) j_X0_init [.ref k] μ none μ' := by
  subst hm
  refine ⟨Nat.le_of_ble_eq_true rfl, ?_⟩
  obtain ⟨μ1, e1⟩ : ∃ x, x = ps_nw μ 3 0 12 := ⟨_, rfl⟩
  obtain ⟨μ2, e2⟩ : ∃ x, x = in3 μ1 (ps_n μ) := ⟨_, rfl⟩
  obtain ⟨μ3, e3⟩ : ∃ x, x = ps_sR μ2 k 0 (some (ps_n μ)) := ⟨_, rfl⟩
  have n1 : ps_n μ1 = ps_n μ + 1 := by rw [e1]; rfl
  have s1 : ps_s μ1 k = (0, 0) := by rw [e1]; exact (nw_s hk).trans hs
  have t1 : ps_s μ1 (ps_n μ) = (3, 0) := by rw [e1]; exact nw_at
  have s2 : ps_s μ2 k = (0, 0) := by rw [e2, in3_s (by omega)]; exact s1
  have ef : in0 μ k = μ3 := by rw [e3, e2, e1]; rfl
  rw [ef]
  refine e_4 rfl rfl ?_
  refine e_61 rfl (Nat.le_of_ble_eq_true rfl) ?_
  refine e_4 rfl rfl ?_
  refine n_60 (kd := 3) (N := 12) rfl (by decide) (by decide) rfl e1.symm ?_
  refine e_28 rfl rfl ?_
  refine e_i0 rfl rfl rfl (Nat.le_of_ble_eq_true rfl) (c_X3 t1 (by omega) e2.symm) ?_
  refine n_pr rfl s2 rfl e3.symm ?_
  exact e_rv rfl rfl
/-- a row, a text at the cell k -/
theorem c_X4a (hs : ps_s μ k = (1, 0)) (hm : ps_sI μ k 0 (-1) = μ') : ps_Ev X (d + 1) j_X4_init [.ref k] μ none μ' := by
  refine ⟨Nat.le_of_ble_eq_true rfl, ?_⟩
  refine e_4 rfl rfl ?_
  refine e_61 rfl (Nat.le_of_ble_eq_true rfl) ?_
  refine e_4 rfl rfl ?_
  refine e_0 rfl ?_
  refine n_pi rfl hs rfl (Or.inl rfl) hm ?_
  exact e_rv rfl rfl
theorem c_X4b (hs : ps_s μ k = (4, 0)) (hm : ps_sI μ k 0 (-1) = μ') : ps_Ev X (d + 1) j_X4_init [.ref k] μ none μ' := by
  refine ⟨Nat.le_of_ble_eq_true rfl, ?_⟩
  refine e_4 rfl rfl ?_
  refine e_61 rfl (Nat.le_of_ble_eq_true rfl) ?_
  refine e_4 rfl rfl ?_
  refine e_0 rfl ?_
  refine n_pi rfl hs rfl (Or.inl rfl) hm ?_
  exact e_rv rfl rfl
def in1 (μ : ps_M) (k : Nat) : ps_M := ps_sR (ps_nw (ps_sI μ k 0 (-1)) 10 40 40) k 1 (some (ps_n μ))
theorem c_X1 (hs : ps_s μ k = (1, 0)) (hk : k < ps_n μ) (hm : in1 μ k = μ') : ps_Ev X (d + 2) j_X1_init [.ref k] μ none μ' := by
  refine ⟨Nat.le_of_ble_eq_true rfl, ?_⟩
  obtain ⟨μ1, e1⟩ : ∃ x, x = ps_sI μ k 0 (-1) := ⟨_, rfl⟩
  obtain ⟨μ2, e2⟩ : ∃ x, x = ps_nw μ1 10 40 40 := ⟨_, rfl⟩
  have n1 : ps_n μ1 = ps_n μ := by rw [e1]; rfl
  have s1 : ps_s μ1 k = (1, 0) := by rw [e1]; exact hs
  have s2 : ps_s μ2 k = (1, 0) := by rw [e2]; exact (nw_s (by omega)).trans s1
  refine e_4 rfl rfl ?_
  refine e_i0 rfl rfl rfl (Nat.le_of_ble_eq_true rfl) (c_X4a hs e1.symm) ?_
  refine e_4 rfl rfl ?_
  refine e_0 rfl ?_
  refine n_58 (N := 40) (kd := 10) rfl (by decide) (by decide) (by decide) (by decide) n1 e2.symm ?_
  refine n_pr (μ' := μ') rfl s2 rfl (show ps_sR μ2 k 1 (some (ps_n μ)) = μ' by rw [e2, e1]; exact hm) ?_
  exact e_rv rfl rfl
def in5 (μ : ps_M) (k : Nat) : ps_M := ps_sR (ps_nw (ps_sI μ k 0 (-1)) 11 60 60) k 1 (some (ps_n μ))
theorem c_X5 (hs : ps_s μ k = (4, 0)) (hk : k < ps_n μ) (hm : in5 μ k = μ') : ps_Ev X (d + 2) j_X5_init [.ref k] μ none μ' := by
  refine ⟨Nat.le_of_ble_eq_true rfl, ?_⟩
  obtain ⟨μ1, e1⟩ : ∃ x, x = ps_sI μ k 0 (-1) := ⟨_, rfl⟩
  obtain ⟨μ2, e2⟩ : ∃ x, x = ps_nw μ1 11 60 60 := ⟨_, rfl⟩
  have n1 : ps_n μ1 = ps_n μ := by rw [e1]; rfl
  have s1 : ps_s μ1 k = (4, 0) := by rw [e1]; exact hs
  have s2 : ps_s μ2 k = (4, 0) := by rw [e2]; exact (nw_s (by omega)).trans s1
  refine e_4 rfl rfl ?_
  refine e_i0 rfl rfl rfl (Nat.le_of_ble_eq_true rfl) (c_X4b hs e1.symm) ?_
  refine e_4 rfl rfl ?_
  refine e_0 rfl ?_
  refine n_58 (N := 60) (kd := 11) rfl (by decide) (by decide) (by decide) (by decide) n1 e2.symm ?_
  refine n_pr (μ' := μ') rfl s2 rfl (show ps_sR μ2 k 1 (some (ps_n μ)) = μ' by rw [e2, e1]; exact hm) ?_
  exact e_rv rfl rfl
end CON
