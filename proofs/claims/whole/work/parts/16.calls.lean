-- ===== calls, returns: a call of the abstract machine is one of the machine =====
def ps_Wd (base : Nat) (ex : Nat → Nat) (cA : Nat → ClassId) (dC : Nat → ClassId) (dI : Nat → Nat → Nat) (X : Nat → Nat × (Nat → Int32)) (μ : ps_M) (U : State) : Prop :=
  U.heap.size = base + ps_n μ ∧ va_P (dC, dI) ps_cl (ps_ws (ps_ph base ex) cA μ) U.heap ∧ va_K (dC, dI) ps_cl (ps_tys cA) U ∧ ps_TB U ∧ ps_E base ex X U U.heap ∧ ∀ k, ps_n μ ≤ k → (ps_s μ k).1 = 99
def ps_Pc (base : Nat) (ex : Nat → Nat) (cA : Nat → ClassId) (dC : Nat → ClassId) (dI : Nat → Nat → Nat) (X : Nat → Nat × (Nat → Int32)) (as : List Value) (μ : ps_M) : Array Value → State → Prop := va_Pc (as.map (ps_cv (ps_ph base ex))) (ps_Wd base ex cA dC dI X μ)
def ps_Qc (base : Nat) (ex : Nat → Nat) (cA : Nat → ClassId) (dC : Nat → ClassId) (dI : Nat → Nat → Nat) (X : Nat → Nat × (Nat → Int32)) (r : Option Value) (μ' : ps_M) : Array Value → State → Outcome → State → Prop := fun _ st oc t => oc = .returned (r.map (ps_cv (ps_ph base ex))) ∧ ps_Wd base ex cA dC dI X μ' t ∧ va_F (fun q => base ≤ q) st t
def ps_rm (d : Nat) (μ μ' : ps_M) : Room := { frames := d, cells := ps_n μ' - ps_n μ, slots := ps_w μ' - ps_w μ, locals := 40 * d }
def ps_MetD (l : Launch) (base : Nat) (ex : Nat → Nat) (cA : Nat → ClassId) (dC : Nat → ClassId) (dI : Nat → Nat → Nat) (X : Nat → Nat × (Nat → Int32)) (d : Nat) : Prop :=
  ∀ (cj : Nat) (as : List Value) (μ : ps_M) (r : Option Value) (μ' : ps_M), (cj < 237 ∧ cj ≠ 232 ∧ cj ≠ 233) → ps_Ev X d cj as μ r μ' → ps_n μ' ≤ ps_X → Met l (ps_y cj) [Cond.code (ps_y cj) (ps_by cj) (ps_ml cj) (ps_rty cj)] (ps_rm d μ μ') (ps_Pc base ex cA dC dI X as μ) (ps_Qc base ex cA dC dI X r μ') (ps_n μ' - ps_n μ) (ps_w μ' - ps_w μ) (fun q => base ≤ q)
theorem ps_E.moved {base : Nat} {ex : Nat → Nat} {X : Nat → Nat × (Nat → Int32)} {u U : State} {H : Heap} (hvm : u.vm.Alike U.vm) (h : ps_E base ex X u H) : ps_E base ex X U H := ⟨fun t ht => (h.1 t ht).moved hvm, fun t ht => (h.2 t ht).moved hvm⟩
theorem ps_E.kept {base : Nat} {ex : Nat → Nat} {X : Nat → Nat × (Nat → Int32)} {U : State} {H H1 : Heap} (h : ps_E base ex X U H) (hq : ∀ a : Nat, a < H.size → ¬ base ≤ a → H1[a]? = H[a]?) : ps_E base ex X U H1 := ⟨fun t ht => (h.1 t ht).kept hq, fun t ht => (h.2 t ht).kept hq⟩
theorem ps_blind {base : Nat} {ex : Nat → Nat} {cA dC : Nat → ClassId} {dI : Nat → Nat → Nat} {X : Nat → Nat × (Nat → Int32)} {as : List Value} {μ : ps_M} : FrameBlind (ps_Pc base ex cA dC dI X as μ) := by
  intro a U g mk h
  obtain ⟨h1, h2, h3, h4, h5, h6, h7⟩ := h
  exact ⟨h1, h2, h3, va_K.moved (u := U) (U := U.calling g mk a) (Vm.Alike.refl U.vm) h4, ps_TB.same (s := U) (U := U.calling g mk a) rfl h5, ps_E.moved (u := U) (U := U.calling g mk a) (Vm.Alike.refl U.vm) h6, h7⟩
section CLC
variable {p : Program} {l : Launch} {e : Env} {R : Room} {s : State} {m : MethodId} {args : Array Value} {below : List Frame} {meth : Method} {c : Code} {Q : State → Prop}
variable {base : Nat} {ex : Nat → Nat} {cA dC : Nat → ClassId} {dI : Nat → Nat → Nat} {X : Nat → Nat × (Nat → Int32)} {j n0 w0 nF wF : Nat}
/-- the world at a call's start -/
theorem ps_pre (hTB : ps_TB s) (hK : va_K (dC, dI) ps_cl (ps_tys cA) s) (hE : ps_E base ex X s s.heap) {as : List Value} {μ : ps_M} {H : Heap} {locs : List Loc} (hsz : H.size = base + ps_n μ) (hP : va_P (dC, dI) ps_cl (ps_ws (ps_ph base ex) cA μ) H) (hS : va_S (fun q => base ≤ q) s.heap H locs) (h9 : ∀ k, ps_n μ ≤ k → (ps_s μ k).1 = 99) : ∀ U : State, U.heap = H → s.WarmedH U.vm → ps_Pc base ex cA dC dI X as μ (as.map (ps_cv (ps_ph base ex))).toArray U := by
  intro U hU hW
  exact ⟨rfl, by rw [hU]; exact hsz, by rw [hU]; exact hP, va_K.moved hW.alike hK, ps_TB.warm hW hTB, by rw [hU]; exact (hE.moved hW.alike).kept hS.2.1, h9⟩
/-- behind a call -/
theorem ps_callG {pc mc ms : Nat} {ls : Array Slot} {st0 rest : List Value} {H : Heap} {locs : List Loc} {cells slots : Nat} {r : Option Value} {μ' : ps_M} {av : Array Value} (hr : va_Run p l e R s m args below meth c H locs cells slots mc ms (F0 m pc ls st0) rest (ps_Qc base ex cA dC dI X r μ' av) (fun q => base ≤ q)) (hS : va_S (fun q => base ≤ q) s.heap H locs)
    (kk : ∀ (H1 : Heap) (locs1 : List Loc), H1.size = base + ps_n μ' → va_P (dC, dI) ps_cl (ps_ws (ps_ph base ex) cA μ') H1 → va_S (fun q => base ≤ q) s.heap H1 locs1 → (∀ k, ps_n μ' ≤ k → (ps_s μ' k).1 = 99) → W p l e R s m args below meth c H1 locs1 (cells + mc) (slots + ms) Q (F0 m (pc + 3) ls ((r.map (ps_cv (ps_ph base ex))).toList ++ rest))) : W p l e R s m args below meth c H locs cells slots Q (F0 m pc ls st0) := by
  intro T hT X'
  obtain ⟨v, st₀, t, T', L, h0, X1, hL, e1, e2, ⟨hv, ⟨z1, z2, -, -, -, z6⟩, hz, hk⟩, st⟩ := hr T hT X'
  cases hv
  rw [h0] at hz hk
  obtain ⟨t2, a1, b1⟩ := kk T'.heap (locs ++ L) (by rw [e1]; exact z1) (by rw [e1]; exact z2) ⟨Nat.le_trans hS.1 (by rw [e1]; exact hz), fun q h1 h2 => by rw [e1, hk q (Nat.lt_of_lt_of_le h1 hS.1) h2]; exact hS.2.1 q h1 h2, fun q hq => by
    rcases List.mem_append.mp hq with h | h
    · exact hS.2.2 q h
    · exact hL q h⟩ z6 T' rfl X1
  exact ⟨t2, st t2 a1, b1⟩
theorem ps_csel {b ci cj : Nat} (h : ps_cs b ci = some cj) : ∃ e0 q, ps_ct[b]? = some e0 ∧ q ∈ e0.2.2.2.2.2.2 ∧ q.1 = ci ∧ q.2.1 = cj ∧ ps_ca b = e0.2.2.2.1 := by
  unfold ps_cs at h
  split at h
  · rename_i e0 he
    rw [Option.map_eq_some_iff] at h
    obtain ⟨q, hq, h2⟩ := h
    refine ⟨e0, q, he, List.mem_of_find?_eq_some hq, by simpa using List.find?_some hq, h2, ?_⟩
    unfold ps_ca
    rw [he]
  · cases h
theorem ps_cjv {b : Nat} {e0 : Nat × Nat × Nat × Nat × MethodName × String × List (Nat × Nat × List Nat)} (he : ps_ct[b]? = some e0) (h7 : e0.1 < 7) {q : Nat × Nat × List Nat} (hq : q ∈ e0.2.2.2.2.2.2) : q.2.1 < 237 ∧ q.2.1 ≠ 232 ∧ q.2.1 ≠ 233 := by
  have h1 := List.all_eq_true.mp ps_ct_j e0 (List.mem_of_getElem? he)
  simp only [Bool.or_eq_true, decide_eq_true_eq] at h1
  rcases h1 with h1 | h1
  · omega
  · exact of_decide_eq_true (List.all_eq_true.mp h1 q hq)
theorem ps_ykF {cj n p : Nat} (h : ps_yk cj n p = true) : (ps_y cj).cls ≠ "java/lang/invoke/MethodHandle" ∧ (ps_y cj).cls ≠ "java/lang/invoke/VarHandle" ∧ ∀ sig, parseMethodDescriptor (ps_y cj).desc = some sig → n = sig.parameters.length := by
  unfold ps_yk at h
  simp only [Bool.and_eq_true, decide_eq_true_eq] at h
  refine ⟨h.1, h.2.1, fun sig hs => ?_⟩
  have h3 := h.2.2.1
  rw [hs] at h3
  exact (Option.some.inj h3).symm
/-- the first part of what a call asks -/
theorem ps_cB (hTB : ps_TB s) {cj d mc ms : Nat} {μ μ' : ps_M} (hj : cj < 237 ∧ cj ≠ 232 ∧ cj ≠ 233) (hRf : d + 1 ≤ R.frames) (hRl : 40 * (d + 1) ≤ R.locals) (hmc : mc = ps_n μ' - ps_n μ) (hms : ms = ps_w μ' - ps_w μ) : (ps_rm d μ μ').cells = mc ∧ (ps_rm d μ μ').slots = ms ∧ (ps_rm d μ μ').frames + 1 ≤ R.frames ∧ 8 + (ps_ml cj + 11) + (ps_rm d μ μ').locals ≤ R.locals ∧ (∀ w ∈ [Cond.code (ps_y cj) (ps_by cj) (ps_ml cj) (ps_rty cj)], ∀ (a' : Array Value) (U : State), s.WarmedH U.vm → w.before a' U = true) ∧ Cond.code (ps_y cj) (ps_by cj) (ps_ml cj) (ps_rty cj) ∈ [Cond.code (ps_y cj) (ps_by cj) (ps_ml cj) (ps_rty cj)] := by
  refine ⟨hmc.symm, hms.symm, hRf, ?_, ?_, List.mem_singleton.mpr rfl⟩
  · have := (ps_plain hj).2
    show 8 + (ps_ml cj + 11) + 40 * d ≤ R.locals
    omega
  · intro w hw a' U hW
    rw [List.mem_singleton.mp hw]
    exact (ps_TB.warm hW hTB) _ (ps_all hj).2 _
theorem ps_bool2 {a b : Bool} (h : (a && b) = true) : a = true ∧ b = true := by simpa using h

variable {d : Nat}
theorem pw_55 (hx : p.tables.exec = Jvm.exec) (hb : c.code = ps_by j) (hok : ∀ pc, ps_ck j pc = true) (hown : s.vm.findClass (ps_own (ps_m j).1) = some m.cls) (hTB : ps_TB s) (hml : c.maxLocals = ps_ml j) (hK : va_K (dC, dI) ps_cl (ps_tys cA) s) (hE : ps_E base ex X s s.heap) (hnF : nF ≤ ps_X) (hs0 : s.heap.size = base + n0) (hRf : d + 1 ≤ R.frames) (hRl : 40 * (d + 1) ≤ R.locals) (hRc : R.cells = nF - n0) (hRs : R.slots = wF - w0) (hD : ps_MetD l base ex cA dC dI X d) : ru_55 (ps_Ev X d) j (ps_PW p l e R s m args below meth c Q base ex cA dC dI j n0 w0 nF wF) := by
  intro pc v w nx b lv st μ as rest cj r μ' h hcs0 hst has hsum hc kk
  subst hst
  have hmo := ps_mono X d _ _ _ _ _ hc
  have hk : ps_k55 (ps_m j) pc nx b = true := ps_use hok h
  unfold ps_k55 at hk
  obtain ⟨e0, q, he, hq, hq0, hqj, hca⟩ := ps_csel hcs0
  rw [he] at hk
  split at hk
  · rename_i idx e1 hd he1
    cases he1
    simp only [Bool.and_eq_true, decide_eq_true_eq] at hk
    obtain ⟨rfl, hkd, h2, h3⟩ := hk
    have hj := ps_cjv he (by omega) hq
    rw [hqj] at hj
    refine ⟨⟨Nat.le_trans hmo.1 kk.1.1, Nat.le_trans hmo.2 kk.1.2⟩, fun ls H locs hR => ?_⟩
    obtain ⟨hl, hsz, hP, hS, h9, hn0, hw0⟩ := hR
    simp only at hl hsz hP hS h9 hn0 hw0
    have k1 : ps_n μ' ≤ nF ∧ ps_w μ' ≤ wF := kk.1
    have hM := hD cj _ μ _ μ' hj hc (Nat.le_trans k1.1 hnF)
    have hCF : CallFix p m c (ps_by j) (ps_ml j) s args ps_T (ps_own (ps_m j).1) := ⟨hx, hb, hml, hown, fun w hw => hTB w hw _⟩
    have hB := ps_cB (s := s) (R := R) (d := d) (μ := μ) (μ' := μ') hTB hj hRf hRl rfl rfl
    have hcode := hTB _ (ps_all hj).2 args
    have hcs : ps_n μ - n0 + (ps_n μ' - ps_n μ) ≤ R.cells ∧ ps_w μ - w0 + (ps_w μ' - ps_w μ) ≤ R.slots := ⟨by rw [hRc]; have := hmo.1; omega, by rw [hRs]; have := hmo.2; omega⟩
    have hstk : (as.reverse ++ rest).map (ps_cv (ps_ph base ex)) = (as.map (ps_cv (ps_ph base ex))).reverse ++ rest.map (ps_cv (ps_ph base ex)) := by rw [List.map_append, List.map_reverse]
    have hsum' : 2 * (F0 m pc ls ((as.reverse ++ rest).map (ps_cv (ps_ph base ex)))).monitorRoom + ((rest.map (ps_cv (ps_ph base ex))).map fun v => v.category).sum ≤ 8 := lv_room (by rw [ps_cv_sum]; exact hsum)
    have hlen : (as.map (ps_cv (ps_ph base ex))).length = e0.2.2.2.1 := by rw [List.length_map, has, hca]
    have fin : ∀ (H1 : Heap) (locs1 : List Loc), H1.size = base + ps_n μ' → va_P (dC, dI) ps_cl (ps_ws (ps_ph base ex) cA μ') H1 → va_S (fun q => base ≤ q) s.heap H1 locs1 → (∀ k, ps_n μ' ≤ k → (ps_s μ' k).1 = 99) → W p l e R s m args below meth c H1 locs1 (ps_n μ - n0 + (ps_n μ' - ps_n μ)) (ps_w μ - w0 + (ps_w μ' - ps_w μ)) Q (F0 m (pc + 3) ls ((r.map (ps_cv (ps_ph base ex))).toList ++ rest.map (ps_cv (ps_ph base ex)))) := by
      intro H1 locs1 z1 z2 z3 z4
      refine W.cs (cells' := ps_n μ' - n0) (slots' := ps_w μ' - w0) (by have := hmo.1; omega) (by have := hmo.2; omega) ?_
      have k2 := kk.2 ls H1 locs1 ⟨hl, z1, z2, z3, z4, Nat.le_trans hn0 hmo.1, Nat.le_trans hw0 hmo.2⟩
      have e1 : (r.toList ++ rest).map (ps_cv (ps_ph base ex)) = (r.map (ps_cv (ps_ph base ex))).toList ++ rest.map (ps_cv (ps_ph base ex)) := by cases r <;> rfl
      simp only [e1] at k2
      exact k2
    have hpre := ps_pre (as := as) hTB hK hE hsz hP hS h9
    rcases (show e0.1 = 0 ∨ e0.1 = 1 by omega) with hkd | hkd
    · have hw := ps_ctk he hkd hq
      rw [h2, h3] at hw
      have hw : (ps_yk q.2.1 e0.2.2.2.1 _ && (ps_wd _ (.methodLink _ _ (ps_y q.2.1)) && (ps_wd _ (.static (ps_y q.2.1)) && ps_wd _ (.initialized (ps_y q.2.1).cls)))) = true := hw
      rw [hqj] at hw
      simp only [Bool.and_eq_true] at hw
      obtain ⟨y1, y2, y3⟩ := ps_ykF hw.1
      exact ps_callG (va_runS (As := as.map (ps_cv (ps_ph base ex))) (rest := rest.map (ps_cv (ps_ph base ex))) (g := F0 m pc ls ((as.reverse ++ rest).map (ps_cv (ps_ph base ex)))) hCF hM ⟨⟨hB.1, hB.2.1, hB.2.2.1, hB.2.2.2.1, hB.2.2.2.2.1, hB.2.2.2.2.2, hcode, hTB _ (ps_inw hw.2.2.2 rfl) _, ⟨y1, y2⟩, y3, hTB _ (ps_inw hw.2.1 rfl) _⟩, hTB _ (ps_inw hw.2.2.1 rfl) _⟩ ⟨ps_blind, hpre⟩ rfl hlen hl.1 hstk hsum' hd hcs) hS fin
    · have hw := ps_ctk he hkd hq
      rw [h2, h3] at hw
      have hw : (ps_yk q.2.1 e0.2.2.2.1 _ && (ps_wd _ (.methodLinkNest _ _ (ps_y q.2.1) _) && (ps_wd _ (.static (ps_y q.2.1)) && ps_wd _ (.initialized (ps_y q.2.1).cls)))) = true := hw
      rw [hqj] at hw
      simp only [Bool.and_eq_true] at hw
      obtain ⟨y1, y2, y3⟩ := ps_ykF hw.1
      exact ps_callG (va_runSN (As := as.map (ps_cv (ps_ph base ex))) (rest := rest.map (ps_cv (ps_ph base ex))) (g := F0 m pc ls ((as.reverse ++ rest).map (ps_cv (ps_ph base ex)))) hCF hM ⟨⟨hB, hcode, hTB _ (ps_inw hw.2.2.2 rfl) _, ⟨y1, y2⟩, y3, hTB _ (ps_inw hw.2.1 rfl) _⟩, hTB _ (ps_inw hw.2.2.1 rfl) _, trivial⟩ ⟨ps_blind, hpre⟩ rfl hlen hl.1 hstk hsum' hd hcs) hS fin
  · cases hk
theorem pw_56 (hx : p.tables.exec = Jvm.exec) (hb : c.code = ps_by j) (hok : ∀ pc, ps_ck j pc = true) (hown : s.vm.findClass (ps_own (ps_m j).1) = some m.cls) (hTB : ps_TB s) (hml : c.maxLocals = ps_ml j) (hK : va_K (dC, dI) ps_cl (ps_tys cA) s) (hE : ps_E base ex X s s.heap) (hnF : nF ≤ ps_X) (hs0 : s.heap.size = base + n0) (hRf : d + 1 ≤ R.frames) (hRl : 40 * (d + 1) ≤ R.locals) (hRc : R.cells = nF - n0) (hRs : R.slots = wF - w0) (hD : ps_MetD l base ex cA dC dI X d) : ru_56 (ps_Ev X d) j (ps_PW p l e R s m args below meth c Q base ex cA dC dI j n0 w0 nF wF) := by
  intro pc v w nx b lv st μ k as rest cj μ' h hcs0 hst has hsum hc kk
  subst hst
  have hmo := ps_mono X d _ _ _ _ _ hc
  have hk : ps_k56 (ps_m j) pc nx b = true := ps_use hok h
  unfold ps_k56 at hk
  obtain ⟨e0, q, he, hq, hq0, hqj, hca⟩ := ps_csel hcs0
  rw [he] at hk
  split at hk
  · rename_i idx e1 hd he1
    cases he1
    simp only [Bool.and_eq_true, decide_eq_true_eq] at hk
    obtain ⟨rfl, hkd, h2, h3⟩ := hk
    have hj := ps_cjv he (by omega) hq
    rw [hqj] at hj
    refine ⟨⟨Nat.le_trans hmo.1 kk.1.1, Nat.le_trans hmo.2 kk.1.2⟩, fun ls H locs hR => ?_⟩
    obtain ⟨hl, hsz, hP, hS, h9, hn0, hw0⟩ := hR
    simp only at hl hsz hP hS h9 hn0 hw0
    have k1 : ps_n μ' ≤ nF ∧ ps_w μ' ≤ wF := kk.1
    have hM := hD cj _ μ _ μ' hj hc (Nat.le_trans k1.1 hnF)
    have hCF : CallFix p m c (ps_by j) (ps_ml j) s args ps_T (ps_own (ps_m j).1) := ⟨hx, hb, hml, hown, fun w hw => hTB w hw _⟩
    have hB := ps_cB (s := s) (R := R) (d := d) (μ := μ) (μ' := μ') hTB hj hRf hRl rfl rfl
    have hcode := hTB _ (ps_all hj).2 args
    have hcs : ps_n μ - n0 + (ps_n μ' - ps_n μ) ≤ R.cells ∧ ps_w μ - w0 + (ps_w μ' - ps_w μ) ≤ R.slots := ⟨by rw [hRc]; have := hmo.1; omega, by rw [hRs]; have := hmo.2; omega⟩
    have hstk : (as.reverse ++ .ref k :: rest).map (ps_cv (ps_ph base ex)) = (as.map (ps_cv (ps_ph base ex))).reverse ++ .ref (ps_ph base ex k) :: rest.map (ps_cv (ps_ph base ex)) := by rw [List.map_append, List.map_reverse]; rfl
    have hsum' : 2 * (F0 m pc ls ((as.reverse ++ .ref k :: rest).map (ps_cv (ps_ph base ex)))).monitorRoom + ((rest.map (ps_cv (ps_ph base ex))).map fun v => v.category).sum ≤ 8 := lv_room (by rw [ps_cv_sum]; exact hsum)
    have hlen : (as.map (ps_cv (ps_ph base ex))).length = e0.2.2.2.1 := by rw [List.length_map, has, hca]
    have hpre := ps_pre (as := .ref k :: as) hTB hK hE hsz hP hS h9
  
    have fin : ∀ (H1 : Heap) (locs1 : List Loc), H1.size = base + ps_n μ' → va_P (dC, dI) ps_cl (ps_ws (ps_ph base ex) cA μ') H1 → va_S (fun q => base ≤ q) s.heap H1 locs1 → (∀ k, ps_n μ' ≤ k → (ps_s μ' k).1 = 99) → W p l e R s m args below meth c H1 locs1 (ps_n μ - n0 + (ps_n μ' - ps_n μ)) (ps_w μ - w0 + (ps_w μ' - ps_w μ)) Q (F0 m (pc + 3) ls (((none : Option Value).map (ps_cv (ps_ph base ex))).toList ++ rest.map (ps_cv (ps_ph base ex)))) := by
      intro H1 locs1 z1 z2 z3 z4
      refine W.cs (cells' := ps_n μ' - n0) (slots' := ps_w μ' - w0) (by have := hmo.1; omega) (by have := hmo.2; omega) ?_
      exact kk.2 ls H1 locs1 ⟨hl, z1, z2, z3, z4, Nat.le_trans hn0 hmo.1, Nat.le_trans hw0 hmo.2⟩
    rcases hkd with hkd | hkd
    · have hw := ps_ctk he hkd hq
      rw [h2, h3] at hw
      have hw : (ps_yk q.2.1 e0.2.2.2.1 _ && (ps_wd _ (.methodLink _ _ (ps_y q.2.1)) && (ps_wd _ (.instanceMethod (ps_y q.2.1)) && (ps_wd _ (.initialized (ps_y q.2.1).cls) && (decide ((ps_y q.2.1).name = "<init>") && decide (ps_rty q.2.1 = none)))))) = true := hw
      rw [hqj] at hw
      simp only [Bool.and_eq_true, decide_eq_true_eq] at hw
      obtain ⟨y1, y2, y3⟩ := ps_ykF hw.1
      have hrt := hw.2.2.2.2.2
      rw [hrt] at hM hB hcode
      exact ps_callG (va_runI (As := as.map (ps_cv (ps_ph base ex))) (rest := rest.map (ps_cv (ps_ph base ex))) (g := F0 m pc ls ((as.reverse ++ .ref k :: rest).map (ps_cv (ps_ph base ex)))) hCF hM ⟨⟨hB.1, hB.2.1, hB.2.2.1, hB.2.2.2.1, hB.2.2.2.2.1, hB.2.2.2.2.2, hcode, hTB _ (ps_inw hw.2.2.2.1 rfl) _, ⟨y1, y2⟩, y3, hTB _ (ps_inw hw.2.1 rfl) _⟩, hw.2.2.2.2.1, hTB _ (ps_inw hw.2.2.1 rfl) _⟩ ⟨ps_blind, hpre⟩ rfl hlen hl.1 hstk hsum' hd hcs) hS fin
    · have hw := ps_ctk he hkd hq
      rw [h2, h3] at hw
      have hw : (ps_yk q.2.1 e0.2.2.2.1 _ && (ps_wd _ (.methodLinkNest _ _ (ps_y q.2.1) _) && (ps_wd _ (.instanceMethod (ps_y q.2.1)) && (ps_wd _ (.initialized (ps_y q.2.1).cls) && (decide ((ps_y q.2.1).name = "<init>") && decide (ps_rty q.2.1 = none)))))) = true := hw
      rw [hqj] at hw
      simp only [Bool.and_eq_true, decide_eq_true_eq] at hw
      obtain ⟨y1, y2, y3⟩ := ps_ykF hw.1
      have hrt := hw.2.2.2.2.2
      rw [hrt] at hM hB hcode
      exact ps_callG (va_runIN (As := as.map (ps_cv (ps_ph base ex))) (rest := rest.map (ps_cv (ps_ph base ex))) (g := F0 m pc ls ((as.reverse ++ .ref k :: rest).map (ps_cv (ps_ph base ex)))) hCF hM ⟨⟨hB, hcode, hTB _ (ps_inw hw.2.2.2.1 rfl) _, ⟨y1, y2⟩, y3, hTB _ (ps_inw hw.2.1 rfl) _⟩, hw.2.2.2.2.1, hTB _ (ps_inw hw.2.2.1 rfl) _⟩ ⟨ps_blind, hpre⟩ rfl hlen hl.1 hstk hsum' hd hcs) hS fin
  · cases hk
theorem pw_57 (hx : p.tables.exec = Jvm.exec) (hb : c.code = ps_by j) (hok : ∀ pc, ps_ck j pc = true) (hown : s.vm.findClass (ps_own (ps_m j).1) = some m.cls) (hTB : ps_TB s) (hml : c.maxLocals = ps_ml j) (hK : va_K (dC, dI) ps_cl (ps_tys cA) s) (hE : ps_E base ex X s s.heap) (hnF : nF ≤ ps_X) (hs0 : s.heap.size = base + n0) (hRf : d + 1 ≤ R.frames) (hRl : 40 * (d + 1) ≤ R.locals) (hRc : R.cells = nF - n0) (hRs : R.slots = wF - w0) (hD : ps_MetD l base ex cA dC dI X d) : ru_57 (ps_Ev X d) j (ps_PW p l e R s m args below meth c Q base ex cA dC dI j n0 w0 nF wF) := by
  intro pc v w nx b lv st μ k ci z as rest cj r μ' h hsk hci hcs0 hst has hsum hc kk
  subst hst
  have hmo := ps_mono X d _ _ _ _ _ hc
  have hk : ps_k57 (ps_m j) pc nx b = true := ps_use hok h
  unfold ps_k57 at hk
  obtain ⟨e0, q, he, hq, hq0, hqj, hca⟩ := ps_csel hcs0
  rw [he] at hk
  split at hk
  · rename_i idx e1 hd he1
    cases he1
    simp only [Bool.and_eq_true, decide_eq_true_eq] at hk
    obtain ⟨rfl, hkd, h2, h3⟩ := hk
    have hj := ps_cjv he (by omega) hq
    rw [hqj] at hj
    refine ⟨⟨Nat.le_trans hmo.1 kk.1.1, Nat.le_trans hmo.2 kk.1.2⟩, fun ls H locs hR => ?_⟩
    obtain ⟨hl, hsz, hP, hS, h9, hn0, hw0⟩ := hR
    simp only at hl hsz hP hS h9 hn0 hw0
    have k1 : ps_n μ' ≤ nF ∧ ps_w μ' ≤ wF := kk.1
    have hM := hD cj _ μ _ μ' hj hc (Nat.le_trans k1.1 hnF)
    have hCF : CallFix p m c (ps_by j) (ps_ml j) s args ps_T (ps_own (ps_m j).1) := ⟨hx, hb, hml, hown, fun w hw => hTB w hw _⟩
    have hB := ps_cB (s := s) (R := R) (d := d) (μ := μ) (μ' := μ') hTB hj hRf hRl rfl rfl
    have hcode := hTB _ (ps_all hj).2 args
    have hcs : ps_n μ - n0 + (ps_n μ' - ps_n μ) ≤ R.cells ∧ ps_w μ - w0 + (ps_w μ' - ps_w μ) ≤ R.slots := ⟨by rw [hRc]; have := hmo.1; omega, by rw [hRs]; have := hmo.2; omega⟩
    have hstk : (as.reverse ++ .ref k :: rest).map (ps_cv (ps_ph base ex)) = (as.map (ps_cv (ps_ph base ex))).reverse ++ .ref (ps_ph base ex k) :: rest.map (ps_cv (ps_ph base ex)) := by rw [List.map_append, List.map_reverse]; rfl
    have hsum' : 2 * (F0 m pc ls ((as.reverse ++ .ref k :: rest).map (ps_cv (ps_ph base ex)))).monitorRoom + ((rest.map (ps_cv (ps_ph base ex))).map fun v => v.category).sum ≤ 8 := lv_room (by rw [ps_cv_sum]; exact hsum)
    have hlen : (as.map (ps_cv (ps_ph base ex))).length = e0.2.2.2.1 := by rw [List.length_map, has, hca]
    have hpre := ps_pre (as := .ref k :: as) hTB hK hE hsz hP hS h9
  
    have fin : ∀ (H1 : Heap) (locs1 : List Loc), H1.size = base + ps_n μ' → va_P (dC, dI) ps_cl (ps_ws (ps_ph base ex) cA μ') H1 → va_S (fun q => base ≤ q) s.heap H1 locs1 → (∀ k, ps_n μ' ≤ k → (ps_s μ' k).1 = 99) → W p l e R s m args below meth c H1 locs1 (ps_n μ - n0 + (ps_n μ' - ps_n μ)) (ps_w μ - w0 + (ps_w μ' - ps_w μ)) Q (F0 m (pc + 3) ls ((r.map (ps_cv (ps_ph base ex))).toList ++ rest.map (ps_cv (ps_ph base ex)))) := by
      intro H1 locs1 z1 z2 z3 z4
      refine W.cs (cells' := ps_n μ' - n0) (slots' := ps_w μ' - w0) (by have := hmo.1; omega) (by have := hmo.2; omega) ?_
      have k2 := kk.2 ls H1 locs1 ⟨hl, z1, z2, z3, z4, Nat.le_trans hn0 hmo.1, Nat.le_trans hw0 hmo.2⟩
      have e1 : (r.toList ++ rest).map (ps_cv (ps_ph base ex)) = (r.map (ps_cv (ps_ph base ex))).toList ++ rest.map (ps_cv (ps_ph base ex)) := by cases r <;> rfl
      simp only [e1] at k2
      exact k2
    obtain ⟨rc, hrc⟩ : ∃ rc, ps_cl[ci]? = some rc := ⟨_, List.getElem?_eq_getElem (show ci < ps_cl.length from hci)⟩
    have hlt := ps_lt h9 hsk (by omega)
    have hrv := va_recv hK hP hrc (q0 := k) ((ps_ws_get hlt).trans (by rw [ps_ce_ob hsk (by omega)]))
    rcases hkd with hkd | hkd | hkd
    · have hw := ps_ctk he hkd hq
      rw [h2, h3] at hw
      have hw : (ps_yk q.2.1 e0.2.2.2.1 _ && (ps_wd _ (.methodLink _ _ (ps_y q.2.1)) && (ps_wd _ (.instanceMethod (ps_y q.2.1)) && (ps_wd _ (.selects (ps_y q.2.1).cls (ps_y q.2.1) (ps_y q.2.1)) && (ps_wd _ (.initialized (ps_y q.2.1).cls) && decide ((ps_cl[q.1]?).map (fun r => r.1) = some (ps_y q.2.1).cls)))))) = true := hw
      rw [hqj, hq0, hrc] at hw
      simp only [Bool.and_eq_true, decide_eq_true_eq] at hw
      obtain ⟨y1, y2, y3⟩ := ps_ykF hw.1
      have hC : rc.1 = (ps_y cj).cls := Option.some.inj hw.2.2.2.2.2
      rw [hC] at hrv
      exact ps_callG (va_runV (C := (ps_y cj).cls) (As := as.map (ps_cv (ps_ph base ex))) (rest := rest.map (ps_cv (ps_ph base ex))) (g := F0 m pc ls ((as.reverse ++ .ref k :: rest).map (ps_cv (ps_ph base ex)))) hCF hM ⟨⟨hB.1, hB.2.1, hB.2.2.1, hB.2.2.2.1, hB.2.2.2.2.1, hB.2.2.2.2.2, hcode, hTB _ (ps_inw hw.2.2.2.2.1 rfl) _, ⟨y1, y2⟩, y3, hTB _ (ps_inw hw.2.1 rfl) _⟩, hTB _ (ps_inw hw.2.2.1 rfl) _, hTB _ (ps_inw hw.2.2.2.1 rfl) _⟩ ⟨ps_blind, hrv, hpre⟩ rfl hlen hl.1 hstk hsum' hd hcs) hS fin
    · have hw := ps_ctk he hkd hq
      rw [h2, h3] at hw
      have hw : (ps_yk q.2.1 e0.2.2.2.1 _ && (ps_wd _ (.methodLink _ _ e0.2.2.2.2.1) && (ps_wd _ (.sameMethod e0.2.2.2.2.1.cls "PumpSpells$Strip" e0.2.2.2.2.1.name e0.2.2.2.2.1.desc) && (ps_wd _ (.selects (ps_own q.1) e0.2.2.2.2.1 (ps_y q.2.1)) && (ps_wd _ (.instanceMethod (ps_y q.2.1)) && (ps_wd _ (.initialized (ps_y q.2.1).cls) && (decide (ps_y q.2.1 = ⟨"PumpSpells$Strip", e0.2.2.2.2.1.name, e0.2.2.2.2.1.desc⟩) && (decide ((ps_cl[q.1]?).map (fun r => r.1) = some (ps_own q.1)) && decide ((parseMethodDescriptor e0.2.2.2.2.1.desc).map (fun d => d.parameters.length) = some e0.2.2.2.1))))))))) = true := hw
      rw [hqj, hq0, hrc] at hw
      simp only [Bool.and_eq_true, decide_eq_true_eq] at hw
      obtain ⟨-, w1, w2, w3, w4, w5, w6, w7, w8⟩ := hw
      have hC : rc.1 = ps_own ci := Option.some.inj w7
      rw [hC] at hrv
      have hlen' : ∀ sig, parseMethodDescriptor e0.2.2.2.2.1.desc = some sig → e0.2.2.2.1 = sig.parameters.length := fun sig hs => by
        rw [hs] at w8
        exact (Option.some.inj w8).symm
      exact ps_callG (va_runU (x := e0.2.2.2.2.1) (C := ps_own ci) (owner := "PumpSpells$Strip") (As := as.map (ps_cv (ps_ph base ex))) (rest := rest.map (ps_cv (ps_ph base ex))) (g := F0 m pc ls ((as.reverse ++ .ref k :: rest).map (ps_cv (ps_ph base ex)))) hCF hM ⟨hB, hcode, hTB _ (ps_inw w5 rfl) _, ⟨by decide, by decide⟩, hlen', hTB _ (ps_inw w1 rfl) _, hTB _ (ps_inw w2 rfl) _, by rw [← w6]; exact va_Decl.of (hTB _ (ps_inw w4 rfl) args) hcode, hTB _ (ps_inw w3 rfl) _, hTB _ (ps_inw w4 rfl) _⟩ ⟨ps_blind, hrv, hpre⟩ rfl hlen hl.1 hstk hsum' hd hcs) hS fin
    · have hw := ps_ctk he hkd hq
      rw [h2, h3] at hw
      have hw : (ps_yk q.2.1 e0.2.2.2.1 _ && (ps_wd _ (.methodLink _ _ e0.2.2.2.2.1) && (ps_wd _ (.sameMethod e0.2.2.2.2.1.cls "PumpSpells$Strip" e0.2.2.2.2.1.name e0.2.2.2.2.1.desc) && (ps_wd _ (.selects (ps_own q.1) e0.2.2.2.2.1 (ps_y q.2.1)) && (ps_wd _ (.instanceMethod (ps_y q.2.1)) && (ps_wd _ (.initialized (ps_y q.2.1).cls) && (ps_wd _ (.declares ⟨"PumpSpells$Strip", e0.2.2.2.2.1.name, e0.2.2.2.2.1.desc⟩) && (decide ((ps_cl[q.1]?).map (fun r => r.1) = some (ps_own q.1)) && decide ((parseMethodDescriptor e0.2.2.2.2.1.desc).map (fun d => d.parameters.length) = some e0.2.2.2.1))))))))) = true := hw
      rw [hqj, hq0, hrc] at hw
      simp only [Bool.and_eq_true, decide_eq_true_eq] at hw
      obtain ⟨-, w1, w2, w3, w4, w5, w6, w7, w8⟩ := hw
      have hC : rc.1 = ps_own ci := Option.some.inj w7
      rw [hC] at hrv
      have hlen' : ∀ sig, parseMethodDescriptor e0.2.2.2.2.1.desc = some sig → e0.2.2.2.1 = sig.parameters.length := fun sig hs => by
        rw [hs] at w8
        exact (Option.some.inj w8).symm
      exact ps_callG (va_runU (x := e0.2.2.2.2.1) (C := ps_own ci) (owner := "PumpSpells$Strip") (As := as.map (ps_cv (ps_ph base ex))) (rest := rest.map (ps_cv (ps_ph base ex))) (g := F0 m pc ls ((as.reverse ++ .ref k :: rest).map (ps_cv (ps_ph base ex)))) hCF hM ⟨hB, hcode, hTB _ (ps_inw w5 rfl) _, ⟨by decide, by decide⟩, hlen', hTB _ (ps_inw w1 rfl) _, hTB _ (ps_inw w2 rfl) _, va_Decl.abs (hTB _ (ps_inw w6 rfl) #[]), hTB _ (ps_inw w3 rfl) _, hTB _ (ps_inw w4 rfl) _⟩ ⟨ps_blind, hrv, hpre⟩ rfl hlen hl.1 hstk hsum' hd hcs) hS fin
  · cases hk
end CLC
