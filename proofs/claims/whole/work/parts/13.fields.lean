-- ===== rules on fields and arrays =====
section CLQ
variable {p : Program} {l : Launch} {e : Env} {R : Room} {s : State} {m : MethodId} {args : Array Value} {below : List Frame} {meth : Method} {c : Code} {Q : State → Prop}
variable {base : Nat} {ex : Nat → Nat} {cA dC : Nat → ClassId} {dI : Nat → Nat → Nat} {X : Nat → Nat × (Nat → Int32)} {j n0 w0 nF wF : Nat}
theorem ps_lt {μ : ps_M} {k kd z : Nat} (h9 : ∀ k, ps_n μ ≤ k → (ps_s μ k).1 = 99) (hs : ps_s μ k = (kd, z)) (hk : kd < 99) : k < ps_n μ := by
  rcases Nat.lt_or_ge k (ps_n μ) with q | q
  · exact q
  · have := h9 k q
    rw [hs] at this
    simp only at this
    omega
theorem ps_gat {φ : Nat → Nat} {μ : ps_M} {ci k sl : Nat} (h : sl < ps_nf ci) : ((List.range (ps_nf ci)).map (fun i => ps_fv φ μ (ps_tc ci i) k i))[sl]? = some (ps_fv φ μ (ps_tc ci sl) k sl) := by
  simp [h]
/-- a field is read -/
theorem ps_getF (hx : p.tables.exec = Jvm.exec) (hb : c.code = ps_by j) (hok : ∀ pc, ps_ck j pc = true) (hown : s.vm.findClass (ps_own (ps_m j).1) = some m.cls) (hTB : ps_TB s) (hK : va_K (dC, dI) ps_cl (ps_tys cA) s) {pc nx b k ci z sl tc : Nat} {v : Int32} {w : Int64} {μ : ps_M} {H : Heap} {locs : List Loc} {cells slots : Nat} {ls : Array Slot} {st : List Value} (h : ps_ins j pc = some (45, v, w, nx, b)) (hs : ps_s μ k = (ci, z)) (hf : ps_fs b ci = some (sl, tc)) (h9 : ∀ k, ps_n μ ≤ k → (ps_s μ k).1 = 99) (hP : va_P (dC, dI) ps_cl (ps_ws (ps_ph base ex) cA μ) H)
    (kk : W p l e R s m args below meth c H locs cells slots Q (F0 m nx ls (ps_fv (ps_ph base ex) μ tc k sl :: st))) : W p l e R s m args below meth c H locs cells slots Q (F0 m pc ls (.ref (ps_ph base ex k) :: st)) := by
  have hk : ps_k45 (ps_m j) pc nx b = true := ps_use hok h
  unfold ps_k45 at hk
  obtain ⟨e0, r, he, hr, hsl, hlink, hsame, htc, -⟩ := ps_fld hf
  rw [he] at hk
  split at hk
  · rename_i idx e' hd he'
    cases he'
    simp only [Bool.and_eq_true, decide_eq_true_eq] at hk
    obtain ⟨rfl, h2, h3⟩ := hk
    obtain ⟨h8, -, hN, hin, -⟩ := ps_clf ci r hr
    have hlt := ps_lt h9 hs (show ci < 99 by omega)
    refine va_get (D := (dC, dI)) (ref := e0.2.2.1) hx hb (Ts := ps_T) (fun w hw => hTB w hw _) hin hown hK hP k ((ps_ws_get hlt).trans (by rw [ps_ce_ob hs (by omega)])) hr sl hsl (by rw [← h2, ← h3]; exact hTB _ hlink _) ?_ (ps_gat (by rw [← hN]; exact hsl)) hd (by rw [htc]; exact kk)
    intro x hx'
    rcases hsame with q | q
    · rw [← q]; exact hx'
    · exact u_same (hTB _ q #[]) x hx'
  · cases hk
/-- the heap's size is known -/
theorem ps_size {μ : ps_M} {H : Heap} {locs : List Loc} {slots : Nat} {g : JFrame} (hs0 : s.heap.size = base + n0) (hnX : ps_n μ ≤ ps_X) (hn0 : n0 ≤ ps_n μ) (hP : va_P (dC, dI) ps_cl (ps_ws (ps_ph base ex) cA μ) H) (hS : va_S (fun q => base ≤ q) s.heap H locs) (kk : H.size = base + ps_n μ → W p l e R s m args below meth c H locs (ps_n μ - n0) slots Q g) : W p l e R s m args below meth c H locs (ps_n μ - n0) slots Q g := by
  intro T hT X
  have h1 : H.size ≤ base + ps_n μ := by
    have := X.heapSize
    rw [hT, hs0] at this
    omega
  have h2 : base + ps_n μ ≤ H.size := by
    have h0 := hS.1
    rw [hs0] at h0
    rcases Nat.eq_zero_or_pos (ps_n μ) with q | q
    · omega
    · have hl := (hP (ps_n μ - 1) _ (ps_ws_get (show ps_n μ - 1 < ps_n μ by omega))).lt
      have : ps_ph base ex (ps_n μ - 1) = base + (ps_n μ - 1) := by
        unfold ps_ph
        rw [if_pos (by omega)]
      simp only [this] at hl
      omega
  exact kk (by omega) T hT X
/-- a field is written -/
theorem ps_putF (hx : p.tables.exec = Jvm.exec) (hb : c.code = ps_by j) (hok : ∀ pc, ps_ck j pc = true) (hown : s.vm.findClass (ps_own (ps_m j).1) = some m.cls) (hTB : ps_TB s) (hK : va_K (dC, dI) ps_cl (ps_tys cA) s) (hnm : (ps_m j).2.1 = "<init>" → meth.name = "<init>") (hnF : nF ≤ ps_X) (hs0 : s.heap.size = base + n0) {pc nx b k ci z sl tc : Nat} {v : Int32} {w : Int64} {μ μ' : ps_M} {lv : List (Nat × Value)} {st : List Value} {x : Value} {y : Value} (hy : ps_cv (ps_ph base ex) y = x) (h : ps_ins j pc = some (46, v, w, nx, b)) (hs : ps_s μ k = (ci, z)) (hf : ps_fs b ci = some (sl, tc))
    (hv : ∀ ty : FieldType, (tc = 0 → ty = .int) → (tc = 3 → ty = .boolean) → (tc = 1 → ty = .long) → (tc = 2 → (∃ C, ty = .object C) ∨ ∃ t, ty = .array t) → narrow ty x = x ∧ fits ty x = true)
    (hn' : ps_n μ' = ps_n μ) (hw' : ps_w μ' = ps_w μ) (hs' : ps_s μ' = ps_s μ) (hce : ∀ i, ps_fv (ps_ph base ex) μ' (ps_tc ci i) k i = if i = sl then x else ps_fv (ps_ph base ex) μ (ps_tc ci i) k i) (hco : ∀ i, i ≠ k → ps_ce (ps_ph base ex) cA μ' i = ps_ce (ps_ph base ex) cA μ i)
    (kk : ps_PW p l e R s m args below meth c Q base ex cA dC dI j n0 w0 nF wF (nx, lv, st, μ')) : ps_PW p l e R s m args below meth c Q base ex cA dC dI j n0 w0 nF wF (pc, lv, y :: .ref k :: st, μ) := by
  have h1 := kk.1
  simp only [hn', hw'] at h1
  refine ⟨h1, fun ls H locs hR => ?_⟩
  obtain ⟨hl, hsz, hP, hS, h9, hn0, hw0⟩ := hR
  simp only at hl hsz hP hS h9 hn0 hw0
  have hnX : ps_n μ ≤ ps_X := Nat.le_trans h1.1 hnF
  have hk : ps_k46 (ps_m j) pc nx b = true := ps_use hok h
  unfold ps_k46 at hk
  obtain ⟨e0, r, he, hr, hsl, hlink, hsame, htc, q, hq, hq1, hq2⟩ := ps_fld hf
  rw [he] at hk
  split at hk
  · rename_i idx e' hd he'
    cases he'
    simp only [Bool.and_eq_true, decide_eq_true_eq] at hk
    obtain ⟨rfl, h2, h3, h4⟩ := hk
    have h4 := List.all_eq_true.mp h4 q hq
    rw [hq1, hq2, hr] at h4
    simp only [Bool.or_eq_true, Bool.and_eq_true, decide_eq_true_eq] at h4
    obtain ⟨h8, -, hN, hin, hnms, -, -, ty0, hty, htyF⟩ := ps_clf ci r hr
    have hlt := ps_lt h9 hs (show ci < 99 by omega)
    have hdt : ps_dt (r.2.1 sl).2.2.1 = tc := by
      rw [← htc]
      unfold ps_tc
      rw [hr]
    obtain ⟨t0, t3, t1, t2, -⟩ := htyF sl hsl
    rw [hdt] at t0 t3 t1 t2
    obtain ⟨hnar, hfit⟩ := hv (ty0 sl) t0 t3 t1 t2
    have hget : (ps_ws (ps_ph base ex) cA μ)[k]? = some (ps_ph base ex k, .inr (ci, (List.range (ps_nf ci)).map (fun i => ps_fv (ps_ph base ex) μ (ps_tc ci i) k i))) := (ps_ws_get hlt).trans (by rw [ps_ce_ob hs (by omega)])
    have hsame' : ∀ x, s.fieldFound? (r.2.1 sl).1 (r.2.1 sl).2.1 (r.2.1 sl).2.2.1 = some x → s.fieldFound? e0.2.2.1 (r.2.1 sl).2.1 (r.2.1 sl).2.2.1 = some x := by
      intro x hx'
      rcases hsame with q | q
      · rw [← q]; exact hx'
      · exact u_same (hTB _ q #[]) x hx'
    have hset : (ps_ws (ps_ph base ex) cA μ).set k (ps_ph base ex k, .inr (ci, ((List.range (ps_nf ci)).map (fun i => ps_fv (ps_ph base ex) μ (ps_tc ci i) k i)).set sl x)) = ps_ws (ps_ph base ex) cA μ' := by
      refine ps_ws_set hn' ?_ hco
      rw [ps_ce_ob (ci := ci) (z := z) (show ps_s μ' k = (ci, z) by rw [hs']; exact hs) (by omega)]
      congr 2
      refine (ps_set_map _ _ _ _ _ ?_ ?_).symm
      · rw [hce, if_pos rfl]
      · intro i hi
        rw [hce, if_neg hi]
    have fin : ∀ (H1 : Heap) (locs1 : List Loc), va_P (dC, dI) ps_cl ((ps_ws (ps_ph base ex) cA μ).set k (ps_ph base ex k, .inr (ci, ((List.range (ps_nf ci)).map (fun i => ps_fv (ps_ph base ex) μ (ps_tc ci i) k i)).set sl x))) H1 → va_D (fun q => base ≤ q) ((ps_ws (ps_ph base ex) cA μ).set k (ps_ph base ex k, .inr (ci, ((List.range (ps_nf ci)).map (fun i => ps_fv (ps_ph base ex) μ (ps_tc ci i) k i)).set sl x))) → va_S (fun q => base ≤ q) s.heap H1 locs1 → W p l e R s m args below meth c H1 locs1 (ps_n μ - n0) (ps_w μ - w0) Q (F0 m (pc + 3) ls (st.map (ps_cv (ps_ph base ex)))) := by
      intro H1 locs1 hP1 _ hS1
      rw [hset] at hP1
      have k2 := kk.2 ls H1 locs1
      simp only [hn', hw'] at k2
      rw [← hn', ← hw']
      refine ps_size (μ := μ') hs0 (by rw [hn']; exact hnX) (by rw [hn']; exact hn0) hP1 hS1 (fun hz => ?_)
      rw [hn', hw']
      exact k2 ⟨hl, hz, hP1, hS1, fun i hi => by rw [hs']; exact h9 i (by rw [← hn']; exact hi), by rw [hn']; exact hn0, by rw [hw']; exact hw0⟩
    show W p l e R s m args below meth c H locs (ps_n μ - n0) (ps_w μ - w0) Q (F0 m pc ls (ps_cv (ps_ph base ex) y :: .ref (ps_ph base ex k) :: st.map (ps_cv (ps_ph base ex))))
    rw [hy]
    rcases h4 with h4 | ⟨h4, h5⟩
    · exact va_put (D := (dC, dI)) (ref := e0.2.2.1) (ty := ty0 sl) hx hb (Ts := ps_T) (fun w hw => hTB w hw _) hin ty0 hty hnms hown hK hP (ps_D hnX) hS k hget hr sl hsl (by rw [← h2, ← h3]; exact hTB _ hlink _) hsame' h4 (hty sl hsl) hnar hfit (by simpa [hN] using hsl) hd fin
    · by_cases hfin : (r.2.1 sl).2.2.2 = false
      · exact va_put (D := (dC, dI)) (ref := e0.2.2.1) (ty := ty0 sl) hx hb (Ts := ps_T) (fun w hw => hTB w hw _) hin ty0 hty hnms hown hK hP (ps_D hnX) hS k hget hr sl hsl (by rw [← h2, ← h3]; exact hTB _ hlink _) hsame' hfin (hty sl hsl) hnar hfit (by simpa [hN] using hsl) hd fin
      · exact va_putF (D := (dC, dI)) (ref := e0.2.2.1) (ty := ty0 sl) hx hb (Ts := ps_T) (fun w hw => hTB w hw _) hin ty0 hty hnms hown hK hP (ps_D hnX) hS k hget hr sl hsl (by rw [← h2, ← h3]; exact hTB _ hlink _) hsame' (by simpa using hfin) (hnm h4) h5 (hty sl hsl) hnar hfit (by simpa [hN] using hsl) hd fin
  · cases hk

theorem pw_45i (hx : p.tables.exec = Jvm.exec) (hb : c.code = ps_by j) (hok : ∀ pc, ps_ck j pc = true) (hown : s.vm.findClass (ps_own (ps_m j).1) = some m.cls) (hTB : ps_TB s) (hK : va_K (dC, dI) ps_cl (ps_tys cA) s) : ru_45i j (ps_PW p l e R s m args below meth c Q base ex cA dC dI j n0 w0 nF wF) := by
  intro pc v w nx b lv st μ k ci z sl tc h hs hf ht kk
  refine ⟨kk.1, fun ls H locs hR => ?_⟩
  refine ps_getF hx hb hok hown hTB hK h hs hf hR.2.2.2.2.1 hR.2.2.1 ?_
  have e : ps_fv (ps_ph base ex) μ tc k sl = .int (ps_i μ k sl) := by
    unfold ps_fv
    rcases ht with rfl | rfl <;> rfl
  rw [e]
  exact kk.2 ls H locs hR
theorem pw_45l (hx : p.tables.exec = Jvm.exec) (hb : c.code = ps_by j) (hok : ∀ pc, ps_ck j pc = true) (hown : s.vm.findClass (ps_own (ps_m j).1) = some m.cls) (hTB : ps_TB s) (hK : va_K (dC, dI) ps_cl (ps_tys cA) s) : ru_45l j (ps_PW p l e R s m args below meth c Q base ex cA dC dI j n0 w0 nF wF) := by
  intro pc v w nx b lv st μ k ci z sl h hs hf kk
  refine ⟨kk.1, fun ls H locs hR => ?_⟩
  exact ps_getF hx hb hok hown hTB hK h hs hf hR.2.2.2.2.1 hR.2.2.1 (kk.2 ls H locs hR)
theorem pw_45r (hx : p.tables.exec = Jvm.exec) (hb : c.code = ps_by j) (hok : ∀ pc, ps_ck j pc = true) (hown : s.vm.findClass (ps_own (ps_m j).1) = some m.cls) (hTB : ps_TB s) (hK : va_K (dC, dI) ps_cl (ps_tys cA) s) : ru_45r j (ps_PW p l e R s m args below meth c Q base ex cA dC dI j n0 w0 nF wF) := by
  intro pc v w nx b lv st μ k ci z sl h hs hf kk
  refine ⟨kk.1, fun ls H locs hR => ?_⟩
  refine ps_getF hx hb hok hown hTB hK h hs hf hR.2.2.2.2.1 hR.2.2.1 ?_
  have e : ps_fv (ps_ph base ex) μ 2 k sl = ps_cv (ps_ph base ex) (va_rf (ps_r μ k sl)) := (ps_cv_rf _ _).symm
  rw [e]
  exact kk.2 ls H locs hR
theorem pw_46i (hx : p.tables.exec = Jvm.exec) (hb : c.code = ps_by j) (hok : ∀ pc, ps_ck j pc = true) (hown : s.vm.findClass (ps_own (ps_m j).1) = some m.cls) (hTB : ps_TB s) (hK : va_K (dC, dI) ps_cl (ps_tys cA) s) (hnm : (ps_m j).2.1 = "<init>" → meth.name = "<init>") (hnF : nF ≤ ps_X) (hs0 : s.heap.size = base + n0) : ru_46i j (ps_PW p l e R s m args below meth c Q base ex cA dC dI j n0 w0 nF wF) := by
  intro pc v w nx b lv st μ k ci z sl tc x h hs hf ht kk
  obtain ⟨e0, r, he, hr, hsl, hlink, hsame, htc, -⟩ := ps_fld hf
  refine ps_putF (μ' := ps_sI μ k sl x) (y := .int x) (x := .int x) hx hb hok hown hTB hK hnm hnF hs0 rfl h hs hf ?_ rfl rfl rfl ?_ (fun i hi => ps_ce_sI hi) kk
  · intro ty h0 h3 _ _
    rcases ht with rfl | ⟨rfl, hb'⟩
    · rw [h0 rfl]; exact ⟨rfl, rfl⟩
    · rw [h3 rfl]
      rcases hb' with rfl | rfl <;> exact ⟨by decide, by decide⟩
  · intro i
    by_cases hi : i = sl
    · subst hi
      rw [if_pos rfl, htc]
      have e : ps_i (ps_sI μ k i x) k i = x := by
        show ps_up (ps_i μ) k i x k i = x
        unfold ps_up
        rw [if_pos ⟨rfl, rfl⟩]
      unfold ps_fv
      rcases ht with rfl | ⟨rfl, -⟩
      · rw [if_neg (by decide), if_neg (by decide), e]
      · rw [if_neg (by decide), if_neg (by decide), e]
    · rw [if_neg hi]
      have e : ps_i (ps_sI μ k sl x) k i = ps_i μ k i := by
        show ps_up (ps_i μ) k sl x k i = ps_i μ k i
        unfold ps_up
        rw [if_neg (fun q => hi q.2)]
      unfold ps_fv
      rw [e]
      rfl
theorem pw_46l (hx : p.tables.exec = Jvm.exec) (hb : c.code = ps_by j) (hok : ∀ pc, ps_ck j pc = true) (hown : s.vm.findClass (ps_own (ps_m j).1) = some m.cls) (hTB : ps_TB s) (hK : va_K (dC, dI) ps_cl (ps_tys cA) s) (hnm : (ps_m j).2.1 = "<init>" → meth.name = "<init>") (hnF : nF ≤ ps_X) (hs0 : s.heap.size = base + n0) : ru_46l j (ps_PW p l e R s m args below meth c Q base ex cA dC dI j n0 w0 nF wF) := by
  intro pc v w nx b lv st μ k ci z sl x h hs hf kk
  obtain ⟨e0, r, he, hr, hsl, hlink, hsame, htc, -⟩ := ps_fld hf
  refine ps_putF (μ' := ps_sL μ k sl x) (y := .long x) (x := .long x) hx hb hok hown hTB hK hnm hnF hs0 rfl h hs hf ?_ rfl rfl rfl ?_ (fun i hi => ps_ce_sL hi) kk
  · intro ty _ _ h1 _
    rw [h1 rfl]; exact ⟨rfl, rfl⟩
  · intro i
    by_cases hi : i = sl
    · subst hi
      rw [if_pos rfl, htc]
      have e : ps_l (ps_sL μ k i x) k i = x := by
        show ps_up (ps_l μ) k i x k i = x
        unfold ps_up
        rw [if_pos ⟨rfl, rfl⟩]
      unfold ps_fv
      rw [if_pos rfl, e]
    · rw [if_neg hi]
      have e : ps_l (ps_sL μ k sl x) k i = ps_l μ k i := by
        show ps_up (ps_l μ) k sl x k i = ps_l μ k i
        unfold ps_up
        rw [if_neg (fun q => hi q.2)]
      unfold ps_fv
      rw [e]
      rfl
theorem pw_46r (hx : p.tables.exec = Jvm.exec) (hb : c.code = ps_by j) (hok : ∀ pc, ps_ck j pc = true) (hown : s.vm.findClass (ps_own (ps_m j).1) = some m.cls) (hTB : ps_TB s) (hK : va_K (dC, dI) ps_cl (ps_tys cA) s) (hnm : (ps_m j).2.1 = "<init>" → meth.name = "<init>") (hnF : nF ≤ ps_X) (hs0 : s.heap.size = base + n0) : ru_46r j (ps_PW p l e R s m args below meth c Q base ex cA dC dI j n0 w0 nF wF) := by
  intro pc v w nx b lv st μ k ci z sl x h hs hf kk
  obtain ⟨e0, r, he, hr, hsl, hlink, hsame, htc, -⟩ := ps_fld hf
  refine ps_putF (μ' := ps_sR μ k sl (some x)) (y := .ref x) (x := .ref (ps_ph base ex x)) hx hb hok hown hTB hK hnm hnF hs0 rfl h hs hf ?_ rfl rfl rfl ?_ (fun i hi => ps_ce_sR hi) kk
  · intro ty _ _ _ h2
    rcases h2 rfl with ⟨C, rfl⟩ | ⟨t, rfl⟩ <;> exact ⟨rfl, rfl⟩
  · intro i
    by_cases hi : i = sl
    · subst hi
      rw [if_pos rfl, htc]
      have e : ps_r (ps_sR μ k i (some x)) k i = some x := by
        show ps_up (ps_r μ) k i (some x) k i = some x
        unfold ps_up
        rw [if_pos ⟨rfl, rfl⟩]
      unfold ps_fv
      rw [if_neg (by decide), if_pos rfl, e]
      rfl
    · rw [if_neg hi]
      have e : ps_r (ps_sR μ k sl (some x)) k i = ps_r μ k i := by
        show ps_up (ps_r μ) k sl (some x) k i = ps_r μ k i
        unfold ps_up
        rw [if_neg (fun q => hi q.2)]
      unfold ps_fv
      rw [e]
      rfl
theorem pw_47 (hx : p.tables.exec = Jvm.exec) (hb : c.code = ps_by j) (hok : ∀ pc, ps_ck j pc = true) (hown : s.vm.findClass (ps_own (ps_m j).1) = some m.cls) (hTB : ps_TB s) (hE : ps_E base ex X s s.heap) : ru_47 j (ps_PW p l e R s m args below meth c Q base ex cA dC dI j n0 w0 nF wF) := by
  intro pc v w nx b lv st μ h kk
  refine ⟨kk.1, fun ls H locs hR => ?_⟩
  have hk : ps_k47 (ps_m j) pc v w nx b = true := ps_use hok h
  unfold ps_k47 at hk
  have hph : ps_ph base ex (ps_X + v.toNatClampNeg) = ex v.toNatClampNeg := by
    unfold ps_ph
    rw [if_neg (by omega), Nat.add_sub_cancel_left]
  have k2 := kk.2 ls H locs hR
  simp only [List.map_cons, ps_cv, hph] at k2
  split at hk
  · rename_i idx hd
    simp only [Bool.and_eq_true, decide_eq_true_eq] at hk
    obtain ⟨rfl, h2, h3⟩ := hk
    split at h3
    · exact va_gets hx hb (hE.1 _ h2) hR.2.2.2.1 hown (hTB _ (ps_inw h3 rfl) _) (fun _ q => q) hd k2
    · exact va_getsN hx hb (hE.1 _ h2) hR.2.2.2.1 hown (hTB _ (ps_inw h3 rfl) _) (fun _ q => q) hd k2
  · cases hk
theorem pw_48 (hx : p.tables.exec = Jvm.exec) (hb : c.code = ps_by j) (hok : ∀ pc, ps_ck j pc = true) (hK : va_K (dC, dI) ps_cl (ps_tys cA) s) : ru_48 j (ps_PW p l e R s m args below meth c Q base ex cA dC dI j n0 w0 nF wF) := by
  intro pc v w nx b lv st μ k n i h hs hin kk
  refine ⟨kk.1, fun ls H locs hR => ?_⟩
  obtain ⟨hd, rfl⟩ := ps_smo (show ps_sm (ps_m j) pc nx .iaload 1 = true from ps_use hok h)
  have hlt := ps_lt hR.2.2.2.2.1 hs (by decide)
  exact va_iald hx hb hK hR.2.2.1 k 0 ((ps_ws_get hlt).trans (by rw [ps_ce_in hs (by decide) (by decide)])) rfl hin hd (kk.2 ls H locs hR)
theorem pw_50 (hx : p.tables.exec = Jvm.exec) (hb : c.code = ps_by j) (hok : ∀ pc, ps_ck j pc = true) (hK : va_K (dC, dI) ps_cl (ps_tys cA) s) : ru_50 j (ps_PW p l e R s m args below meth c Q base ex cA dC dI j n0 w0 nF wF) := by
  intro pc v w nx b lv st μ k n i h hs hin kk
  refine ⟨kk.1, fun ls H locs hR => ?_⟩
  obtain ⟨hd, rfl⟩ := ps_smo (show ps_sm (ps_m j) pc nx .baload 1 = true from ps_use hok h)
  have hlt := ps_lt hR.2.2.2.2.1 hs (by decide)
  exact va_bald hx hb hK hR.2.2.1 k 1 ((ps_ws_get hlt).trans (by rw [ps_ce_in hs (by decide) (by decide)])) rfl hin hd (kk.2 ls H locs hR)
theorem pw_48x (hx : p.tables.exec = Jvm.exec) (hb : c.code = ps_by j) (hok : ∀ pc, ps_ck j pc = true) (hE : ps_E base ex X s s.heap) : ru_48x X j (ps_PW p l e R s m args below meth c Q base ex cA dC dI j n0 w0 nF wF) := by
  intro pc v w nx b lv st μ t i h ht hin kk
  refine ⟨kk.1, fun ls H locs hR => ?_⟩
  obtain ⟨hd, rfl⟩ := ps_smo (show ps_sm (ps_m j) pc nx .iaload 1 = true from ps_use hok h)
  have hph : ps_ph base ex (ps_X + t) = ex t := by
    unfold ps_ph
    rw [if_neg (by omega), Nat.add_sub_cancel_left]
  show W p l e R s m args below meth c H locs (ps_n μ - n0) (ps_w μ - w0) Q (F0 m pc ls (.int i :: .ref (ps_ph base ex (ps_X + t)) :: st.map (ps_cv (ps_ph base ex))))
  rw [hph]
  exact va_ti hx hb (hE.2 t ht) hR.2.2.2.1 hin rfl hd (kk.2 ls H locs hR)
theorem pw_49 (hx : p.tables.exec = Jvm.exec) (hb : c.code = ps_by j) (hok : ∀ pc, ps_ck j pc = true) (hK : va_K (dC, dI) ps_cl (ps_tys cA) s) (hnF : nF ≤ ps_X) (hs0 : s.heap.size = base + n0) : ru_49 j (ps_PW p l e R s m args below meth c Q base ex cA dC dI j n0 w0 nF wF) := by
  intro pc v w nx b lv st μ k n i x h hs hin kk
  refine ⟨kk.1, fun ls H locs hR => ?_⟩
  obtain ⟨hd, rfl⟩ := ps_smo (show ps_sm (ps_m j) pc nx .iastore 1 = true from ps_use hok h)
  obtain ⟨hl, hsz, hP, hS, h9, hn0, hw0⟩ := hR
  have hlt := ps_lt h9 hs (by decide)
  have hnX : ps_n μ ≤ ps_X := Nat.le_trans kk.1.1 hnF
  refine va_iast hx hb hK hP (ps_D hnX) hS k 0 ((ps_ws_get hlt).trans (by rw [ps_ce_in hs (by decide) (by decide)])) rfl hin hd (fun H1 locs1 hP1 _ hS1 => ?_)
  have hset : (ps_ws (ps_ph base ex) cA μ).set k (ps_ph base ex k, .inl (cA 10, n, .inl (upd (ps_i μ k) i.toNatClampNeg x))) = ps_ws (ps_ph base ex) cA (ps_sI μ k i.toNatClampNeg x) := by
    refine ps_ws_set (μ' := ps_sI μ k i.toNatClampNeg x) rfl ((ps_ce_in (μ := ps_sI μ k i.toNatClampNeg x) hs (by decide) (by decide)).trans ?_) (fun q hq => ps_ce_sI hq)
    congr 4
    funext q
    show ps_up (ps_i μ) k i.toNatClampNeg x k q = upd (ps_i μ k) i.toNatClampNeg x q
    unfold ps_up upd
    by_cases hq : q = i.toNatClampNeg
    · rw [if_pos ⟨rfl, hq⟩, if_pos hq]
    · rw [if_neg (fun z => hq z.2), if_neg hq]
  have hP1 : va_P (dC, dI) ps_cl (ps_ws (ps_ph base ex) cA (ps_sI μ k i.toNatClampNeg x)) H1 := by rw [← hset]; exact hP1
  exact ps_size (μ := ps_sI μ k i.toNatClampNeg x) hs0 hnX hn0 hP1 hS1 (fun hz => kk.2 ls H1 locs1 ⟨hl, hz, hP1, hS1, h9, hn0, hw0⟩)
theorem pw_51 (hx : p.tables.exec = Jvm.exec) (hb : c.code = ps_by j) (hok : ∀ pc, ps_ck j pc = true) (hK : va_K (dC, dI) ps_cl (ps_tys cA) s) (hnF : nF ≤ ps_X) (hs0 : s.heap.size = base + n0) : ru_51 j (ps_PW p l e R s m args below meth c Q base ex cA dC dI j n0 w0 nF wF) := by
  intro pc v w nx b lv st μ k n i x h hs hin kk
  refine ⟨kk.1, fun ls H locs hR => ?_⟩
  obtain ⟨hd, rfl⟩ := ps_smo (show ps_sm (ps_m j) pc nx .bastore 1 = true from ps_use hok h)
  obtain ⟨hl, hsz, hP, hS, h9, hn0, hw0⟩ := hR
  have hlt := ps_lt h9 hs (by decide)
  have hnX : ps_n μ ≤ ps_X := Nat.le_trans kk.1.1 hnF
  refine va_bast hx hb hK hP (ps_D hnX) hS k 1 ((ps_ws_get hlt).trans (by rw [ps_ce_in hs (by decide) (by decide)])) rfl hin hd (fun H1 locs1 hP1 _ hS1 => ?_)
  have hset : (ps_ws (ps_ph base ex) cA μ).set k (ps_ph base ex k, .inl (cA 11, n, .inl (upd (ps_i μ k) i.toNatClampNeg (vp_nar .byte x)))) = ps_ws (ps_ph base ex) cA (ps_sI μ k i.toNatClampNeg (vp_nar .byte x)) := by
    refine ps_ws_set (μ' := ps_sI μ k i.toNatClampNeg (vp_nar .byte x)) rfl ((ps_ce_in (μ := ps_sI μ k i.toNatClampNeg (vp_nar .byte x)) hs (by decide) (by decide)).trans ?_) (fun q hq => ps_ce_sI hq)
    congr 4
    funext q
    show ps_up (ps_i μ) k i.toNatClampNeg (vp_nar .byte x) k q = upd (ps_i μ k) i.toNatClampNeg (vp_nar .byte x) q
    unfold ps_up upd
    by_cases hq : q = i.toNatClampNeg
    · rw [if_pos ⟨rfl, hq⟩, if_pos hq]
    · rw [if_neg (fun z => hq z.2), if_neg hq]
  have hP1 : va_P (dC, dI) ps_cl (ps_ws (ps_ph base ex) cA (ps_sI μ k i.toNatClampNeg (vp_nar .byte x))) H1 := by rw [← hset]; exact hP1
  exact ps_size (μ := ps_sI μ k i.toNatClampNeg (vp_nar .byte x)) hs0 hnX hn0 hP1 hS1 (fun hz => kk.2 ls H1 locs1 ⟨hl, hz, hP1, hS1, h9, hn0, hw0⟩)
theorem ps_tyk (cA : Nat → ClassId) {kd : Nat} (h1 : 12 ≤ kd) (h2 : kd < 16) : (ps_tys cA)[kd - 10]? = some (cA kd, .object (ps_own (ps_el kd))) := by
  rcases (show kd = 12 ∨ kd = 13 ∨ kd = 14 ∨ kd = 15 by omega) with rfl | rfl | rfl | rfl <;> rfl
theorem pw_52 (hx : p.tables.exec = Jvm.exec) (hb : c.code = ps_by j) (hok : ∀ pc, ps_ck j pc = true) (hK : va_K (dC, dI) ps_cl (ps_tys cA) s) : ru_52 j (ps_PW p l e R s m args below meth c Q base ex cA dC dI j n0 w0 nF wF) := by
  intro pc v w nx b lv st μ k kd n i h hs h1 h2 hin kk
  refine ⟨kk.1, fun ls H locs hR => ?_⟩
  obtain ⟨hd, rfl⟩ := ps_smo (show ps_sm (ps_m j) pc nx .aaload 1 = true from ps_use hok h)
  have hlt := ps_lt hR.2.2.2.2.1 hs (by omega)
  refine va_aldq hx hb hK hR.2.2.1 k (kd - 10) ((ps_ws_get hlt).trans (by rw [ps_ce_rf hs h1])) (ps_tyk cA h1 h2) hin hd ?_
  have e : va_rf ((ps_r μ k i.toNatClampNeg).map (ps_ph base ex)) = ps_cv (ps_ph base ex) (va_rf (ps_r μ k i.toNatClampNeg)) := (ps_cv_rf _ _).symm
  rw [e]
  exact kk.2 ls H locs hR
theorem pw_53 (hx : p.tables.exec = Jvm.exec) (hb : c.code = ps_by j) (hok : ∀ pc, ps_ck j pc = true) (hK : va_K (dC, dI) ps_cl (ps_tys cA) s) (hnF : nF ≤ ps_X) (hs0 : s.heap.size = base + n0) : ru_53 j (ps_PW p l e R s m args below meth c Q base ex cA dC dI j n0 w0 nF wF) := by
  intro pc v w nx b lv st μ k kd n i x z h hs h1 h2 hin hsx kk
  refine ⟨kk.1, fun ls H locs hR => ?_⟩
  obtain ⟨hd, rfl⟩ := ps_smo (show ps_sm (ps_m j) pc nx .aastore 1 = true from ps_use hok h)
  obtain ⟨hl, hsz, hP, hS, h9, hn0, hw0⟩ := hR
  have hlt := ps_lt h9 hs (by omega)
  have hel : ps_el kd < 8 := by
    rcases (show kd = 12 ∨ kd = 13 ∨ kd = 14 ∨ kd = 15 by omega) with rfl | rfl | rfl | rfl <;> decide
  have hlx := ps_lt h9 hsx (by omega)
  have hnX : ps_n μ ≤ ps_X := Nat.le_trans kk.1.1 hnF
  obtain ⟨r, hr⟩ : ∃ r, ps_cl[ps_el kd]? = some r := ⟨_, List.getElem?_eq_getElem (show ps_el kd < ps_cl.length from hel)⟩
  have hrn := (ps_clf _ r hr).2.1
  refine va_astq hx hb hK hP (ps_D hnX) hS k (kd - 10) x (ps_el kd) (r := r) ((ps_ws_get hlt).trans (by rw [ps_ce_rf hs h1])) (by rw [← hrn]; exact ps_tyk cA h1 h2) ((ps_ws_get hlx).trans (by rw [ps_ce_ob hsx (by omega)])) hr hin hd (fun H1 locs1 hP1 _ hS1 => ?_)
  have hset : (ps_ws (ps_ph base ex) cA μ).set k (ps_ph base ex k, .inl (cA kd, n, .inr (.inr (.inr (.inr (va_up (fun i => (ps_r μ k i).map (ps_ph base ex)) i.toNatClampNeg (some (ps_ph base ex x)))))))) = ps_ws (ps_ph base ex) cA (ps_sR μ k i.toNatClampNeg (some x)) := by
    refine ps_ws_set (μ' := ps_sR μ k i.toNatClampNeg (some x)) rfl ((ps_ce_rf (μ := ps_sR μ k i.toNatClampNeg (some x)) hs h1).trans ?_) (fun q hq => ps_ce_sR hq)
    congr 7
    funext q
    show (ps_up (ps_r μ) k i.toNatClampNeg (some x) k q).map (ps_ph base ex) = va_up (fun i => (ps_r μ k i).map (ps_ph base ex)) i.toNatClampNeg (some (ps_ph base ex x)) q
    unfold ps_up va_up
    by_cases hq : q = i.toNatClampNeg
    · rw [if_pos ⟨rfl, hq⟩, if_pos hq]; rfl
    · rw [if_neg (fun z => hq z.2), if_neg hq]
  have hP1 : va_P (dC, dI) ps_cl (ps_ws (ps_ph base ex) cA (ps_sR μ k i.toNatClampNeg (some x))) H1 := by rw [← hset]; exact hP1
  exact ps_size (μ := ps_sR μ k i.toNatClampNeg (some x)) hs0 hnX hn0 hP1 hS1 (fun hz => kk.2 ls H1 locs1 ⟨hl, hz, hP1, hS1, h9, hn0, hw0⟩)
theorem pw_54 (hx : p.tables.exec = Jvm.exec) (hb : c.code = ps_by j) (hok : ∀ pc, ps_ck j pc = true) (hK : va_K (dC, dI) ps_cl (ps_tys cA) s) : ru_54 j (ps_PW p l e R s m args below meth c Q base ex cA dC dI j n0 w0 nF wF) := by
  intro pc v w nx b lv st μ k kd n h hs h1 h2 kk
  refine ⟨kk.1, fun ls H locs hR => ?_⟩
  obtain ⟨hd, rfl⟩ := ps_smo (show ps_sm (ps_m j) pc nx .arraylength 1 = true from ps_use hok h)
  have hlt := ps_lt hR.2.2.2.2.1 hs (by omega)
  have hty : ∃ ty, (ps_tys cA)[kd - 10]? = some (cA kd, ty) := by
    rcases (show kd = 10 ∨ kd = 11 ∨ kd = 12 ∨ kd = 13 ∨ kd = 14 ∨ kd = 15 by omega) with rfl | rfl | rfl | rfl | rfl | rfl <;> exact ⟨_, rfl⟩
  obtain ⟨ty, hty⟩ := hty
  by_cases h3 : kd < 12
  · exact va_alen (x := (n, .inl (ps_i μ k))) hx hb hK hR.2.2.1 k (kd - 10) ((ps_ws_get hlt).trans (by rw [ps_ce_in hs h1 h3])) hty rfl hd (kk.2 ls H locs hR)
  · exact va_alen (x := (n, .inr (.inr (.inr (.inr (fun i => (ps_r μ k i).map (ps_ph base ex))))))) hx hb hK hR.2.2.1 k (kd - 10) ((ps_ws_get hlt).trans (by rw [ps_ce_rf hs (by omega)])) hty rfl hd (kk.2 ls H locs hR)
theorem pw_54x (hx : p.tables.exec = Jvm.exec) (hb : c.code = ps_by j) (hok : ∀ pc, ps_ck j pc = true) (hE : ps_E base ex X s s.heap) : ru_54x X j (ps_PW p l e R s m args below meth c Q base ex cA dC dI j n0 w0 nF wF) := by
  intro pc v w nx b lv st μ t h ht kk
  refine ⟨kk.1, fun ls H locs hR => ?_⟩
  obtain ⟨hd, rfl⟩ := ps_smo (show ps_sm (ps_m j) pc nx .arraylength 1 = true from ps_use hok h)
  have hph : ps_ph base ex (ps_X + t) = ex t := by
    unfold ps_ph
    rw [if_neg (by omega), Nat.add_sub_cancel_left]
  show W p l e R s m args below meth c H locs (ps_n μ - n0) (ps_w μ - w0) Q (F0 m pc ls (.ref (ps_ph base ex (ps_X + t)) :: st.map (ps_cv (ps_ph base ex))))
  rw [hph]
  exact va_tlen hx hb (hE.2 t ht) hR.2.2.2.1 rfl hd (kk.2 ls H locs hR)
end CLQ
