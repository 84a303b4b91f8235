-- ===== rules that make cells; the JDK's own =====
section CLN
variable {p : Program} {l : Launch} {e : Env} {R : Room} {s : State} {m : MethodId} {args : Array Value} {below : List Frame} {meth : Method} {c : Code} {Q : State → Prop}
variable {base : Nat} {ex : Nat → Nat} {cA dC : Nat → ClassId} {dI : Nat → Nat → Nat} {X : Nat → Nat × (Nat → Int32)} {j n0 w0 nF wF : Nat}
/-- a new cell's address is known -/
theorem ps_fresh {μ : ps_M} {H : Heap} {locs : List Loc} {slots q : Nat} {e0 : va_E} {g : JFrame} (hs0 : s.heap.size = base + n0) (hnX : ps_n μ ≤ ps_X) (hn0 : n0 ≤ ps_n μ) (hP : va_P (dC, dI) ps_cl (ps_ws (ps_ph base ex) cA μ ++ [(q, e0)]) H) (hD : va_D (fun q => base ≤ q) (ps_ws (ps_ph base ex) cA μ ++ [(q, e0)])) (kk : q = base + ps_n μ → W p l e R s m args below meth c H locs (ps_n μ - n0 + 1) slots Q g) : W p l e R s m args below meth c H locs (ps_n μ - n0 + 1) slots Q g := by
  intro T hT X
  have hlen : (ps_ws (ps_ph base ex) cA μ).length = ps_n μ := by simp [ps_ws]
  have hq : (ps_ws (ps_ph base ex) cA μ ++ [(q, e0)])[ps_n μ]? = some (q, e0) := by
    rw [List.getElem?_append_right (by omega), hlen, Nat.sub_self]
    rfl
  have h1 : q < H.size := (hP _ _ hq).lt
  have h2 : base ≤ q := hD.2 _ _ hq
  have h3 : H.size ≤ base + ps_n μ + 1 := by
    have := X.heapSize
    rw [hT, hs0] at this
    omega
  have h4 : ¬ q < base + ps_n μ := by
    intro h
    have hk : q - base < ps_n μ := by omega
    have hg : (ps_ws (ps_ph base ex) cA μ ++ [(q, e0)])[q - base]? = some (ps_ph base ex (q - base), ps_ce (ps_ph base ex) cA μ (q - base)) := by
      rw [List.getElem?_append_left (by omega)]
      exact ps_ws_get hk
    have hph : ps_ph base ex (q - base) = q := by
      unfold ps_ph
      rw [if_pos (by omega)]
      omega
    have := hD.1 _ _ _ _ hg hq hph
    omega
  exact kk (by omega) T hT X

theorem pw_60 (hx : p.tables.exec = Jvm.exec) (hb : c.code = ps_by j) (hok : ∀ pc, ps_ck j pc = true) (hown : s.vm.findClass (ps_own (ps_m j).1) = some m.cls) (hTB : ps_TB s) (hK : va_K (dC, dI) ps_cl (ps_tys cA) s) (hnF : nF ≤ ps_X) (hs0 : s.heap.size = base + n0) (hRc : R.cells = nF - n0) (hRs : R.slots = wF - w0) : ru_60 j (ps_PW p l e R s m args below meth c Q base ex cA dC dI j n0 w0 nF wF) := by
  intro pc v w nx b lv st μ h kk
  have h1 : ps_n μ + 1 ≤ nF ∧ ps_w μ + ps_nf v.toNatClampNeg ≤ wF := kk.1
  refine ⟨⟨by show ps_n μ ≤ nF; omega, by show ps_w μ ≤ wF; omega⟩, fun ls H locs hR => ?_⟩
  obtain ⟨hl, hsz, hP, hS, h9, hn0, hw0⟩ := hR
  simp only at hl hsz hP hS h9 hn0 hw0
  have hnX : ps_n μ + 1 ≤ ps_X := Nat.le_trans h1.1 hnF
  have hk : ps_k60 (ps_m j) pc v nx b = true := ps_use hok h
  unfold ps_k60 at hk
  split at hk
  · rename_i idx hd
    simp only [Bool.and_eq_true, decide_eq_true_eq] at hk
    obtain ⟨rfl, h8, h3⟩ := hk
    obtain ⟨r, hr⟩ : ∃ r, ps_cl[v.toNatClampNeg]? = some r := ⟨_, List.getElem?_eq_getElem (show v.toNatClampNeg < ps_cl.length from h8)⟩
    obtain ⟨-, hon, hN, hin, hnms, hini, hins, ty0, hty, htyF⟩ := ps_clf _ r hr
    have hA : ∀ q : Nat, s.heap.size ≤ q → base ≤ q := fun q hq => by rw [hs0] at hq; omega
    refine va_new (ci := v.toNatClampNeg) (C := r.1) (T := r.2.1) (N := r.2.2) (fs := (List.range (ps_nf v.toNatClampNeg)).map (fun i => ps_fv (ps_ph base ex) (ps_nw μ v.toNatClampNeg 0 (ps_nf v.toNatClampNeg)) (ps_tc v.toNatClampNeg i) (ps_n μ) i)) hx hb (Ts := ps_T) (fun w hw => hTB w hw _) hin ty0 hty hown (by rw [← hon]; exact hTB _ (ps_inw h3 rfl) _) (hTB _ hins _) (hTB _ hini _) hK hP (ps_D (by omega)) hS hA hr ?_ (by show ps_n μ - n0 + 1 ≤ R.cells; rw [hRc]; omega) (by show ps_w μ - w0 + r.2.2 ≤ R.slots; rw [hRs, hN]; omega) hd ?_
    · intro i hi
      obtain ⟨t0, t3, t1, t2, t4⟩ := htyF i hi
      have hdt : ps_dt (r.2.1 i).2.2.1 = ps_tc v.toNatClampNeg i := by
        unfold ps_tc
        rw [hr]
      rw [hdt] at t0 t3 t1 t2 t4
      have hv : vp_V ((List.range (ps_nf v.toNatClampNeg)).map (fun i => ps_fv (ps_ph base ex) (ps_nw μ v.toNatClampNeg 0 (ps_nf v.toNatClampNeg)) (ps_tc v.toNatClampNeg i) (ps_n μ) i)) i = ps_fv (ps_ph base ex) (ps_nw μ v.toNatClampNeg 0 (ps_nf v.toNatClampNeg)) (ps_tc v.toNatClampNeg i) (ps_n μ) i := by
        unfold vp_V
        rw [List.getD_eq_getElem?_getD, List.getElem?_map, List.getElem?_range (by omega)]
        rfl
      rw [hv]
      have e1 : ps_i (ps_nw μ v.toNatClampNeg 0 (ps_nf v.toNatClampNeg)) (ps_n μ) i = 0 := if_pos rfl
      have e2 : ps_l (ps_nw μ v.toNatClampNeg 0 (ps_nf v.toNatClampNeg)) (ps_n μ) i = 0 := if_pos rfl
      have e3 : ps_r (ps_nw μ v.toNatClampNeg 0 (ps_nf v.toNatClampNeg)) (ps_n μ) i = none := if_pos rfl
      unfold ps_fv
      rw [e1, e2, e3]
      rcases (show ps_tc v.toNatClampNeg i = 0 ∨ ps_tc v.toNatClampNeg i = 1 ∨ ps_tc v.toNatClampNeg i = 2 ∨ ps_tc v.toNatClampNeg i = 3 by omega) with q | q | q | q
      · rw [t0 q, q]; rfl
      · rw [t1 q, q]; rfl
      · rw [q]
        rcases t2 q with ⟨C, hC⟩ | ⟨t, hC⟩ <;> rw [hC] <;> rfl
      · rw [t3 q, q]; rfl
    · intro q H1 hP1 hD1 hS1
      refine ps_fresh (μ := μ) hs0 (by omega) hn0 hP1 hD1 (fun hq => ?_)
      subst hq
      have hws : ps_ws (ps_ph base ex) cA μ ++ [(base + ps_n μ, .inr (v.toNatClampNeg, (List.range (ps_nf v.toNatClampNeg)).map (fun i => ps_fv (ps_ph base ex) (ps_nw μ v.toNatClampNeg 0 (ps_nf v.toNatClampNeg)) (ps_tc v.toNatClampNeg i) (ps_n μ) i)))] = ps_ws (ps_ph base ex) cA (ps_nw μ v.toNatClampNeg 0 (ps_nf v.toNatClampNeg)) := by
        refine ps_ws_push rfl ?_ (ps_ce_ob (z := 0) (show (if ps_n μ = ps_n μ then (v.toNatClampNeg, 0) else ps_s μ (ps_n μ)) = _ from if_pos rfl) (by omega)) (fun i hi => ps_ce_nw hi)
        unfold ps_ph
        rw [if_pos (by omega)]
      have hP1 : va_P (dC, dI) ps_cl (ps_ws (ps_ph base ex) cA (ps_nw μ v.toNatClampNeg 0 (ps_nf v.toNatClampNeg))) H1 := by rw [← hws]; exact hP1
      have hph : ps_ph base ex (ps_n μ) = base + ps_n μ := by
        unfold ps_ph
        rw [if_pos (by omega)]
      refine W.cs (cells' := ps_n (ps_nw μ v.toNatClampNeg 0 (ps_nf v.toNatClampNeg)) - n0) (slots' := ps_w (ps_nw μ v.toNatClampNeg 0 (ps_nf v.toNatClampNeg)) - w0) (by show ps_n μ - n0 + 1 = ps_n μ + 1 - n0; omega) (by show ps_w μ - w0 + r.2.2 = ps_w μ + ps_nf v.toNatClampNeg - w0; omega) ?_
      refine ps_size (μ := ps_nw μ v.toNatClampNeg 0 (ps_nf v.toNatClampNeg)) hs0 hnX (show n0 ≤ ps_n μ + 1 by omega) hP1 hS1 (fun hz => ?_)
      have k2 := kk.2 ls H1 locs ⟨hl, hz, hP1, hS1, ?_, show n0 ≤ ps_n μ + 1 by omega, show w0 ≤ ps_w μ + ps_nf v.toNatClampNeg by omega⟩
      · simp only [List.map_cons, ps_cv, hph] at k2
        exact k2
      · intro i hi
        have hi : ps_n μ + 1 ≤ i := hi
        show (if i = ps_n μ then (v.toNatClampNeg, 0) else ps_s μ i).1 = 99
        rw [if_neg (by omega)]
        exact h9 i (by omega)
  · cases hk
/-- the end of a making of an array -/
theorem ps_newE {kd N pc : Nat} {μ : ps_M} {H1 : Heap} {locs : List Loc} {ls : Array Slot} {lv : List (Nat × Value)} {st : List Value} {q : Nat} {e0 : va_E} (hnF : nF ≤ ps_X) (hs0 : s.heap.size = base + n0) (h1 : ps_n μ + 1 ≤ nF) (hn0 : n0 ≤ ps_n μ) (hw0 : w0 ≤ ps_w μ) (h9 : ∀ k, ps_n μ ≤ k → (ps_s μ k).1 = 99) (hl : lv_has ls (ps_ml j) (ps_lm (ps_ph base ex) lv)) (he : ps_ce (ps_ph base ex) cA (ps_nw μ kd N N) (ps_n μ) = e0) (hP1 : va_P (dC, dI) ps_cl (ps_ws (ps_ph base ex) cA μ ++ [(q, e0)]) H1) (hD1 : va_D (fun q => base ≤ q) (ps_ws (ps_ph base ex) cA μ ++ [(q, e0)])) (hS1 : va_S (fun q => base ≤ q) s.heap H1 locs)
    (kk : ∀ (ls : Array Slot) (H : Heap) (locs : List Loc), ps_Rl base ex cA dC dI j n0 w0 s (pc, lv, .ref (ps_n μ) :: st, ps_nw μ kd N N) ls H locs → W p l e R s m args below meth c H locs (ps_n (ps_nw μ kd N N) - n0) (ps_w (ps_nw μ kd N N) - w0) Q (F0 m pc ls ((Value.ref (ps_n μ) :: st).map (ps_cv (ps_ph base ex))))) : W p l e R s m args below meth c H1 locs (ps_n μ - n0 + 1) (ps_w μ - w0 + N) Q (F0 m pc ls (.ref q :: st.map (ps_cv (ps_ph base ex)))) := by
  have hnX : ps_n μ + 1 ≤ ps_X := Nat.le_trans h1 hnF
  refine ps_fresh (μ := μ) hs0 (by omega) hn0 hP1 hD1 (fun hq => ?_)
  subst hq
  have hph : ps_ph base ex (ps_n μ) = base + ps_n μ := by
    unfold ps_ph
    rw [if_pos (by omega)]
  have hws : ps_ws (ps_ph base ex) cA μ ++ [(base + ps_n μ, e0)] = ps_ws (ps_ph base ex) cA (ps_nw μ kd N N) := ps_ws_push rfl hph he (fun i hi => ps_ce_nw hi)
  have hP1 : va_P (dC, dI) ps_cl (ps_ws (ps_ph base ex) cA (ps_nw μ kd N N)) H1 := by rw [← hws]; exact hP1
  refine W.cs (cells' := ps_n (ps_nw μ kd N N) - n0) (slots' := ps_w (ps_nw μ kd N N) - w0) (by show ps_n μ - n0 + 1 = ps_n μ + 1 - n0; omega) (by show ps_w μ - w0 + N = ps_w μ + N - w0; omega) ?_
  refine ps_size (μ := ps_nw μ kd N N) hs0 hnX (show n0 ≤ ps_n μ + 1 by omega) hP1 hS1 (fun hz => ?_)
  have k2 := kk ls H1 locs ⟨hl, hz, hP1, hS1, ?_, show n0 ≤ ps_n μ + 1 by omega, show w0 ≤ ps_w μ + N by omega⟩
  · simp only [List.map_cons, ps_cv, hph] at k2
    exact k2
  · intro i hi
    have hi : ps_n μ + 1 ≤ i := hi
    show (if i = ps_n μ then (kd, N) else ps_s μ i).1 = 99
    rw [if_neg (by omega)]
    exact h9 i (by omega)
theorem ps_hA (hs0 : s.heap.size = base + n0) : ∀ q : Nat, s.heap.size ≤ q → base ≤ q := fun q hq => by rw [hs0] at hq; omega
theorem ps_acI : Cond.arrayClass .int ∈ ps_T := ps_in (by decide +kernel) rfl
theorem ps_acB : Cond.arrayClass .byte ∈ ps_T := ps_in (by decide +kernel) rfl
theorem ps_ao {kd : Nat} (h1 : 12 ≤ kd) (h2 : kd < 16) : Cond.arrayOver (.object (ps_own (ps_el kd))) ∈ ps_T := by
  rcases (show kd = 12 ∨ kd = 13 ∨ kd = 14 ∨ kd = 15 by omega) with rfl | rfl | rfl | rfl <;> exact ps_in (by decide +kernel) rfl
theorem ps_sm3 {N a k : Nat} (h : N ≤ 3000) (hk : k ≤ 8) (ha : a = k) : N * a ≤ 536870912 := by
  subst ha
  exact Nat.le_trans (Nat.mul_le_mul h hk) (by decide)

theorem pw_58 (hx : p.tables.exec = Jvm.exec) (hb : c.code = ps_by j) (hok : ∀ pc, ps_ck j pc = true) (hown : s.vm.findClass (ps_own (ps_m j).1) = some m.cls) (hTB : ps_TB s) (hK : va_K (dC, dI) ps_cl (ps_tys cA) s) (hnF : nF ≤ ps_X) (hs0 : s.heap.size = base + n0) (hRc : R.cells = nF - n0) (hRs : R.slots = wF - w0) : ru_58 j (ps_PW p l e R s m args below meth c Q base ex cA dC dI j n0 w0 nF wF) := by
  intro pc v w nx b lv st μ n N h hn hN h3000 kk
  have h1 : ps_n μ + 1 ≤ nF ∧ ps_w μ + N ≤ wF := kk.1
  refine ⟨⟨by show ps_n μ ≤ nF; omega, by show ps_w μ ≤ wF; omega⟩, fun ls H locs hR => ?_⟩
  obtain ⟨hl, hsz, hP, hS, h9, hn0, hw0⟩ := hR
  simp only at hl hsz hP hS h9 hn0 hw0
  have hnX : ps_n μ + 1 ≤ ps_X := Nat.le_trans h1.1 hnF
  have hk : ps_k58 (ps_m j) pc v nx = true := ps_use hok h
  unfold ps_k58 at hk
  have hi0 : ps_i (ps_nw μ v.toNatClampNeg N N) (ps_n μ) = fun _ => 0 := by
    funext i
    exact if_pos rfl
  have hs1 : ps_s (ps_nw μ v.toNatClampNeg N N) (ps_n μ) = (v.toNatClampNeg, N) := if_pos rfl
  split at hk
  · rename_i hd
    simp only [Bool.and_eq_true, decide_eq_true_eq] at hk
    obtain ⟨rfl, rfl⟩ := hk
    refine va_newa (atype := .int) (a0 := (N, .inl (fun _ => 0))) (ty := .int) hx hb (hTB (Cond.arrayClass .int) ps_acI _) rfl hK hP (ps_D (by omega)) hS (ps_hA hs0) (fun _ => rfl) hn hN (ps_sm3 (k := 4) h3000 (by decide) rfl) (by show ps_n μ - n0 + 1 ≤ R.cells; rw [hRc]; omega) (by show ps_w μ - w0 + N ≤ R.slots; rw [hRs]; omega) hd ?_
    intro q c' H1 hK1 hP1 hD1 hS1
    have hc : c' = cA 10 := by
      have r1 : s.vm.findClass ("[" ++ FieldType.int.toString) = some c' := (hK1.2 6 (c', .int) rfl).2
      have r2 : s.vm.findClass ("[" ++ FieldType.int.toString) = some (cA 10) := (hK.2 0 (cA 10, .int) rfl).2
      exact Option.some.inj (r1.symm.trans r2)
    subst hc
    exact ps_newE hnF hs0 h1.1 hn0 hw0 h9 hl (by rw [ps_ce_in hs1 (by decide) (by decide), hi0]; rfl) hP1 hD1 hS1 kk.2
  · rename_i hd
    simp only [Bool.and_eq_true, decide_eq_true_eq] at hk
    obtain ⟨rfl, rfl⟩ := hk
    refine va_newa (atype := .byte) (a0 := (N, .inl (fun _ => 0))) (ty := .byte) hx hb (hTB (Cond.arrayClass .byte) ps_acB _) rfl hK hP (ps_D (by omega)) hS (ps_hA hs0) (fun _ => rfl) hn hN (ps_sm3 (k := 1) h3000 (by decide) rfl) (by show ps_n μ - n0 + 1 ≤ R.cells; rw [hRc]; omega) (by show ps_w μ - w0 + N ≤ R.slots; rw [hRs]; omega) hd ?_
    intro q c' H1 hK1 hP1 hD1 hS1
    have hc : c' = cA 11 := by
      have r1 : s.vm.findClass ("[" ++ FieldType.byte.toString) = some c' := (hK1.2 6 (c', .byte) rfl).2
      have r2 : s.vm.findClass ("[" ++ FieldType.byte.toString) = some (cA 11) := (hK.2 1 (cA 11, .byte) rfl).2
      exact Option.some.inj (r1.symm.trans r2)
    subst hc
    exact ps_newE hnF hs0 h1.1 hn0 hw0 h9 hl (by rw [ps_ce_in hs1 (by decide) (by decide), hi0]; rfl) hP1 hD1 hS1 kk.2
  · cases hk
theorem pw_59 (hx : p.tables.exec = Jvm.exec) (hb : c.code = ps_by j) (hok : ∀ pc, ps_ck j pc = true) (hown : s.vm.findClass (ps_own (ps_m j).1) = some m.cls) (hTB : ps_TB s) (hK : va_K (dC, dI) ps_cl (ps_tys cA) s) (hnF : nF ≤ ps_X) (hs0 : s.heap.size = base + n0) (hRc : R.cells = nF - n0) (hRs : R.slots = wF - w0) : ru_59 j (ps_PW p l e R s m args below meth c Q base ex cA dC dI j n0 w0 nF wF) := by
  intro pc v w nx b lv st μ n N h hn hN h3000 kk
  have h1 : ps_n μ + 1 ≤ nF ∧ ps_w μ + N ≤ wF := kk.1
  refine ⟨⟨by show ps_n μ ≤ nF; omega, by show ps_w μ ≤ wF; omega⟩, fun ls H locs hR => ?_⟩
  obtain ⟨hl, hsz, hP, hS, h9, hn0, hw0⟩ := hR
  simp only at hl hsz hP hS h9 hn0 hw0
  have hnX : ps_n μ + 1 ≤ ps_X := Nat.le_trans h1.1 hnF
  have hk : ps_k59 (ps_m j) pc v nx b = true := ps_use hok h
  unfold ps_k59 at hk
  have hr0 : ps_r (ps_nw μ v.toNatClampNeg N N) (ps_n μ) = fun _ => none := by
    funext i
    exact if_pos rfl
  have hs1 : ps_s (ps_nw μ v.toNatClampNeg N N) (ps_n μ) = (v.toNatClampNeg, N) := if_pos rfl
  split at hk
  · rename_i idx hd
    simp only [Bool.and_eq_true, decide_eq_true_eq] at hk
    obtain ⟨rfl, h12, h16, h4⟩ := hk
    refine va_newq (C := ps_own (ps_el v.toNatClampNeg)) hx hb hown (hTB _ (ps_inw h4 rfl) _) (hTB _ (ps_ao h12 h16) _) hK hP (ps_D (by omega)) hS (ps_hA hs0) hn hN (by omega) (by show ps_n μ - n0 + 1 ≤ R.cells; rw [hRc]; omega) (by show ps_w μ - w0 + N ≤ R.slots; rw [hRs]; omega) hd ?_
    intro q c' H1 hK1 hP1 hD1 hS1
    have hc : c' = cA v.toNatClampNeg := by
      obtain ⟨-, -, -, -, -, r1⟩ := (hK1.2 6 (c', .object (ps_own (ps_el v.toNatClampNeg))) rfl).2
      obtain ⟨-, -, -, -, -, r2⟩ := (hK.2 _ _ (ps_tyk cA h12 h16)).2
      exact Option.some.inj (r1.symm.trans r2)
    subst hc
    exact ps_newE hnF hs0 h1.1 hn0 hw0 h9 hl (by rw [ps_ce_rf hs1 h12, hr0]; rfl) hP1 hD1 hS1 kk.2
  · cases hk
theorem ps_ctk {b kd : Nat} {e0 : Nat × Nat × Nat × Nat × MethodName × String × List (Nat × Nat × List Nat)} (he : ps_ct[b]? = some e0) (hk : e0.1 = kd) {q : Nat × Nat × List Nat} (hq : q ∈ e0.2.2.2.2.2.2) : ps_c1chk kd (ps_own e0.2.1) e0.2.2.1 e0.2.2.2.1 e0.2.2.2.2.1 e0.2.2.2.2.2.1 q = true := by
  have h1 := List.all_eq_true.mp ps_ct_ok e0 (List.mem_of_getElem? he)
  unfold ps_cchk at h1
  have h2 := List.all_eq_true.mp h1 q hq
  rw [hk] at h2
  exact h2
theorem pw_61 (hx : p.tables.exec = Jvm.exec) (hb : c.code = ps_by j) (hok : ∀ pc, ps_ck j pc = true) (hown : s.vm.findClass (ps_own (ps_m j).1) = some m.cls) (hTB : ps_TB s) (hml : c.maxLocals = ps_ml j) (hRf : 1 ≤ R.frames) (hRl : 40 ≤ R.locals) : ru_61 j (ps_PW p l e R s m args below meth c Q base ex cA dC dI j n0 w0 nF wF) := by
  intro pc v w nx b lv st μ k h hsum kk
  refine ⟨kk.1, fun ls H locs hR => ?_⟩
  have hk : ps_k61 (ps_m j) pc nx b = true := ps_use hok h
  unfold ps_k61 at hk
  split at hk
  · rename_i idx e0 hd he
    simp only [Bool.and_eq_true, decide_eq_true_eq] at hk
    obtain ⟨rfl, h7, h2, h3, hne⟩ := hk
    obtain ⟨q, hq⟩ := List.exists_mem_of_ne_nil _ hne
    have hc := ps_ctk he h7 hq
    rw [h2, h3] at hc
    simp only [ps_c1chk] at hc
    have hc : (ps_wd _ _ && (ps_wd _ _ && ps_wd _ _)) = true := hc
    simp only [Bool.and_eq_true] at hc
    refine W.objInit (a := ps_ph base ex k) (rest := st.map (ps_cv (ps_ph base ex))) hx hb hown (hTB _ (ps_inw hc.1 rfl) _) (hTB _ (ps_inw hc.2.1 rfl) _) (hTB _ (ps_inw hc.2.2 rfl) _) rfl (by rw [hml]; exact hR.1.1) rfl hd hRf ?_ (kk.2 ls H locs hR)
    rw [ps_cv_sum]
    show 2 * 0 + (st.map fun v => v.category).sum + 12 ≤ R.locals
    omega
  · cases hk
theorem pw_62 (hx : p.tables.exec = Jvm.exec) (hb : c.code = ps_by j) (hok : ∀ pc, ps_ck j pc = true) (hown : s.vm.findClass (ps_own (ps_m j).1) = some m.cls) (hTB : ps_TB s) (hml : c.maxLocals = ps_ml j) (hK : va_K (dC, dI) ps_cl (ps_tys cA) s) (hnF : nF ≤ ps_X) (hs0 : s.heap.size = base + n0) (hRf : 1 ≤ R.frames) (hRl : 40 ≤ R.locals) : ru_62 j (ps_PW p l e R s m args below meth c Q base ex cA dC dI j n0 w0 nF wF) := by
  intro pc v w nx b lv st μ k0 k1 n0' n1 sp dp n h hs0' hs1 g1 g2 g3 g4 g5 hsum kk
  refine ⟨kk.1, fun ls H locs hR => ?_⟩
  obtain ⟨hl, hsz, hP, hS, h9, hn0, hw0⟩ := hR
  simp only at hl hsz hP hS h9 hn0 hw0
  have hnX : ps_n μ ≤ ps_X := Nat.le_trans kk.1.1 hnF
  have hk : ps_k62 (ps_m j) pc nx b = true := ps_use hok h
  unfold ps_k62 at hk
  split at hk
  · rename_i idx e0 hd he
    simp only [Bool.and_eq_true, decide_eq_true_eq] at hk
    obtain ⟨rfl, h7, h2, h3, hne⟩ := hk
    obtain ⟨q, hq⟩ := List.exists_mem_of_ne_nil _ hne
    have hc := ps_ctk he h7 hq
    rw [h2, h3] at hc
    simp only [ps_c1chk] at hc
    have hc : (ps_wd _ _ && (ps_wd _ _ && (ps_wd _ _ && ps_wd _ _))) = true := hc
    simp only [Bool.and_eq_true] at hc
    have l0 := ps_lt h9 hs0' (by decide)
    have l1 := ps_lt h9 hs1 (by decide)
    refine va_copyi (ty := .int) hx hb (by rw [hml]; exact hl.1.symm) hown (hTB _ (ps_inw hc.1 rfl) _) (hTB _ (ps_inw hc.2.1 rfl) _) (hTB _ (ps_inw hc.2.2.1 rfl) _) (hTB _ (ps_inw hc.2.2.2 rfl) _) hK hP (ps_D hnX) hS k0 k1 0 0 ((ps_ws_get l0).trans (by rw [ps_ce_in hs0' (by decide) (by decide)])) ((ps_ws_get l1).trans (by rw [ps_ce_in hs1 (by decide) (by decide)])) rfl rfl rfl g1 g2 g3 g4 g5 (fun _ _ => rfl) hRf ?_ hd ?_
    · rw [ps_cv_sum]
      have : nativeFrameWords "java/lang/System" "arraycopy" 5 ≤ 20 := by decide +kernel
      omega
    · intro H1 locs1 hP1 _ hS1
      have hset : (ps_ws (ps_ph base ex) cA μ).set k1 (ps_ph base ex k1, .inl (cA 10, n1, .inl (va_cpy (ps_i μ k0) (ps_i μ k1) sp.toNatClampNeg dp.toNatClampNeg n.toNatClampNeg))) = ps_ws (ps_ph base ex) cA (ps_cp μ k0 sp.toNatClampNeg k1 dp.toNatClampNeg n.toNatClampNeg) := by
        refine ps_ws_set (μ' := ps_cp μ k0 sp.toNatClampNeg k1 dp.toNatClampNeg n.toNatClampNeg) rfl ((ps_ce_in (μ := ps_cp μ k0 sp.toNatClampNeg k1 dp.toNatClampNeg n.toNatClampNeg) hs1 (by decide) (by decide)).trans ?_) (fun q hq => ps_ce_cp hq)
        congr 4
        funext i
        exact if_pos rfl
      have hP1 : va_P (dC, dI) ps_cl (ps_ws (ps_ph base ex) cA (ps_cp μ k0 sp.toNatClampNeg k1 dp.toNatClampNeg n.toNatClampNeg)) H1 := by rw [← hset]; exact hP1
      exact ps_size (μ := ps_cp μ k0 sp.toNatClampNeg k1 dp.toNatClampNeg n.toNatClampNeg) hs0 hnX hn0 hP1 hS1 (fun hz => kk.2 ls H1 locs1 ⟨hl, hz, hP1, hS1, h9, hn0, hw0⟩)
  · cases hk
theorem pw_66 (hx : p.tables.exec = Jvm.exec) (hb : c.code = ps_by j) (hok : ∀ pc, ps_ck j pc = true) (hown : s.vm.findClass (ps_own (ps_m j).1) = some m.cls) (hTB : ps_TB s) (hml : c.maxLocals = ps_ml j) (hRf : 1 ≤ R.frames) (hRl : 40 ≤ R.locals) (hRc : R.cells = nF - n0) (hRs : R.slots = wF - w0) : ru_66 j (ps_PW p l e R s m args below meth c Q base ex cA dC dI j n0 w0 nF wF) := by
  intro pc v w nx b lv st μ x y h hsum kk
  have h1 := kk.1
  simp only at h1
  refine ⟨h1, fun ls H locs hR => ?_⟩
  have hk : ps_k66 (ps_m j) pc nx b Lib.Math.max.name = true := ps_use hok h
  unfold ps_k66 at hk
  split at hk
  · rename_i idx hd
    simp only [Bool.and_eq_true, decide_eq_true_eq] at hk
    obtain ⟨rfl, h2⟩ := hk
    refine va_mmax hx hb (by rw [hml]; exact hR.1.1.symm) hown (hTB _ (ps_inw h2 rfl) _) (hTB _ (ps_in ps_mxs rfl) _) (hTB _ (ps_in ps_mi rfl) _) (hTB _ (ps_in ps_mx rfl) _) hRf ?_ (by show ps_n μ - n0 ≤ R.cells; rw [hRc]; omega) (by show ps_w μ - w0 ≤ R.slots; rw [hRs]; omega) hd (kk.2 ls H locs hR)
    rw [ps_cv_sum]
    omega
  · cases hk
theorem pw_67 (hx : p.tables.exec = Jvm.exec) (hb : c.code = ps_by j) (hok : ∀ pc, ps_ck j pc = true) (hown : s.vm.findClass (ps_own (ps_m j).1) = some m.cls) (hTB : ps_TB s) (hml : c.maxLocals = ps_ml j) (hRf : 1 ≤ R.frames) (hRl : 40 ≤ R.locals) (hRc : R.cells = nF - n0) (hRs : R.slots = wF - w0) : ru_67 j (ps_PW p l e R s m args below meth c Q base ex cA dC dI j n0 w0 nF wF) := by
  intro pc v w nx b lv st μ x y h hsum kk
  have h1 := kk.1
  simp only at h1
  refine ⟨h1, fun ls H locs hR => ?_⟩
  have hk : ps_k66 (ps_m j) pc nx b Lib.Math.min.name = true := ps_use hok h
  unfold ps_k66 at hk
  split at hk
  · rename_i idx hd
    simp only [Bool.and_eq_true, decide_eq_true_eq] at hk
    obtain ⟨rfl, h2⟩ := hk
    refine va_mmin hx hb (by rw [hml]; exact hR.1.1.symm) hown (hTB _ (ps_inw h2 rfl) _) (hTB _ (ps_in ps_mns rfl) _) (hTB _ (ps_in ps_mi rfl) _) (hTB _ (ps_in ps_mn rfl) _) hRf ?_ (by show ps_n μ - n0 ≤ R.cells; rw [hRc]; omega) (by show ps_w μ - w0 ≤ R.slots; rw [hRs]; omega) hd (kk.2 ls H locs hR)
    rw [ps_cv_sum]
    omega
  · cases hk
end CLN
