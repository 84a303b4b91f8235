-- ===== each rule is a row of the machine =====
def ps_tys (cA : Nat → ClassId) : List (ClassId × FieldType) := [(cA 10, .int), (cA 11, .byte), (cA 12, .object RX1), (cA 13, .object RX5), (cA 14, .object RX6), (cA 15, .object RX3)]
/-- the arrays outside -/
def ps_E (base : Nat) (ex : Nat → Nat) (X : Nat → Nat × (Nat → Int32)) (U : State) (H : Heap) : Prop :=
  (∀ t, t < 4 → va_Z "PumpSpells" (ps_stn t) "[I" (.ref (ex t)) (fun q => base ≤ q) U H) ∧ ∀ t, t < 5 → va_T .int (ex t) (X t).1 (fun i => .int ((X t).2 i)) (fun q => base ≤ q) U H
/-- a frame's heap and locals are as the abstract ones -/
def ps_Rl (base : Nat) (ex : Nat → Nat) (cA : Nat → ClassId) (dC : Nat → ClassId) (dI : Nat → Nat → Nat) (j n0 w0 : Nat) (s : State) (f : ps_F) (ls : Array Slot) (H : Heap) (locs : List Loc) : Prop :=
  lv_has ls (ps_ml j) (ps_lm (ps_ph base ex) f.2.1) ∧ H.size = base + ps_n f.2.2.2 ∧ va_P (dC, dI) ps_cl (ps_ws (ps_ph base ex) cA f.2.2.2) H ∧ va_S (fun q => base ≤ q) s.heap H locs ∧ (∀ k, ps_n f.2.2.2 ≤ k → (ps_s f.2.2.2 k).1 = 99) ∧ n0 ≤ ps_n f.2.2.2 ∧ w0 ≤ ps_w f.2.2.2
section CLO
variable {p : Program} {l : Launch} {e : Env} {R : Room} {s : State} {m : MethodId} {args : Array Value} {below : List Frame} {meth : Method} {c : Code} {Q : State → Prop}
variable {base : Nat} {ex : Nat → Nat} {cA dC : Nat → ClassId} {dI : Nat → Nat → Nat} {X : Nat → Nat × (Nat → Int32)} {j n0 w0 nF wF : Nat}
def ps_PW (p : Program) (l : Launch) (e : Env) (R : Room) (s : State) (m : MethodId) (args : Array Value) (below : List Frame) (meth : Method) (c : Code) (Q : State → Prop) (base : Nat) (ex : Nat → Nat) (cA : Nat → ClassId) (dC : Nat → ClassId) (dI : Nat → Nat → Nat) (j n0 w0 nF wF : Nat) (f : ps_F) : Prop :=
  (ps_n f.2.2.2 ≤ nF ∧ ps_w f.2.2.2 ≤ wF) ∧ ∀ (ls : Array Slot) (H : Heap) (locs : List Loc), ps_Rl base ex cA dC dI j n0 w0 s f ls H locs → W p l e R s m args below meth c H locs (ps_n f.2.2.2 - n0) (ps_w f.2.2.2 - w0) Q (F0 m f.1 ls (f.2.2.1.map (ps_cv (ps_ph base ex))))

theorem pw_0 (hx : p.tables.exec = Jvm.exec) (hb : c.code = ps_by j) (hok : ∀ pc, ps_ck j pc = true) (hown : s.vm.findClass (ps_own (ps_m j).1) = some m.cls) (hTB : ps_TB s) : ru_0 j (ps_PW p l e R s m args below meth c Q base ex cA dC dI j n0 w0 nF wF) := by
  intro pc v w nx b lv st μ h kk
  refine ⟨kk.1, fun ls H locs hR => ?_⟩
  have hk : ps_k0 (ps_m j) pc v nx b = true := ps_use hok h
  unfold ps_k0 at hk
  split at hk
  · rename_i n hd
    simp only [Bool.and_eq_true, decide_eq_true_eq] at hk
    obtain ⟨h1, rfl⟩ := hk
    exact lv_iconst hx hb hd h1 (kk.2 ls H locs hR)
  · rename_i n hd
    simp only [Bool.and_eq_true, decide_eq_true_eq] at hk
    obtain ⟨h1, rfl⟩ := hk
    exact lv_bipush hx hb hd h1 (kk.2 ls H locs hR)
  · rename_i n hd
    simp only [Bool.and_eq_true, decide_eq_true_eq] at hk
    obtain ⟨h1, rfl⟩ := hk
    exact lv_sipush hx hb hd h1 (kk.2 ls H locs hR)
  · rename_i n hd
    simp only [Bool.and_eq_true, decide_eq_true_eq] at hk
    obtain ⟨h1, rfl⟩ := hk
    exact lv_ldc hx hb hown (hTB _ (ps_inw h1 rfl) _) hd (kk.2 ls H locs hR)
  · rename_i n hd
    simp only [Bool.and_eq_true, decide_eq_true_eq] at hk
    obtain ⟨h1, rfl⟩ := hk
    exact lv_ldcw hx hb hown (hTB _ (ps_inw h1 rfl) _) hd (kk.2 ls H locs hR)
  · cases hk
theorem pw_1 (hx : p.tables.exec = Jvm.exec) (hb : c.code = ps_by j) (hok : ∀ pc, ps_ck j pc = true) (hown : s.vm.findClass (ps_own (ps_m j).1) = some m.cls) (hTB : ps_TB s) : ru_1 j (ps_PW p l e R s m args below meth c Q base ex cA dC dI j n0 w0 nF wF) := by
  intro pc v w nx b lv st μ h kk
  refine ⟨kk.1, fun ls H locs hR => ?_⟩
  have hk : ps_k1 (ps_m j) pc w nx b = true := ps_use hok h
  unfold ps_k1 at hk
  split at hk
  · rename_i n hd
    simp only [Bool.and_eq_true, decide_eq_true_eq] at hk
    obtain ⟨h1, rfl⟩ := hk
    exact lv_lconst hx hb hd h1 (kk.2 ls H locs hR)
  · rename_i n hd
    simp only [Bool.and_eq_true, decide_eq_true_eq] at hk
    obtain ⟨h1, rfl⟩ := hk
    exact lv_ldc2 hx hb hown (hTB _ (ps_inw h1 rfl) _) hd (kk.2 ls H locs hR)
  · cases hk
theorem pw_2 (hx : p.tables.exec = Jvm.exec) (hb : c.code = ps_by j) (hok : ∀ pc, ps_ck j pc = true) : ru_2 j (ps_PW p l e R s m args below meth c Q base ex cA dC dI j n0 w0 nF wF) := by
  intro pc v w nx b lv st μ x h hl kk
  refine ⟨kk.1, fun ls H locs hR => ?_⟩
  have hk : ps_k2 (ps_m j) pc nx b = true := ps_use hok h
  unfold ps_k2 at hk
  split at hk
  · rename_i n hd
    simp only [Bool.and_eq_true, decide_eq_true_eq] at hk
    obtain ⟨h1, rfl⟩ := hk
    exact lv_iload_n hx hb hd h1 (ps_lk hR.1 hl) (kk.2 ls H locs hR)
  · rename_i n hd
    simp only [Bool.and_eq_true, decide_eq_true_eq] at hk
    obtain ⟨h1, rfl⟩ := hk
    subst h1
    exact lv_iload hx hb hd (ps_lk hR.1 hl) (kk.2 ls H locs hR)
  · cases hk
theorem pw_3 (hx : p.tables.exec = Jvm.exec) (hb : c.code = ps_by j) (hok : ∀ pc, ps_ck j pc = true) : ru_3 j (ps_PW p l e R s m args below meth c Q base ex cA dC dI j n0 w0 nF wF) := by
  intro pc v w nx b lv st μ x h hl kk
  refine ⟨kk.1, fun ls H locs hR => ?_⟩
  have hk : ps_k3 (ps_m j) pc nx b = true := ps_use hok h
  unfold ps_k3 at hk
  split at hk
  · rename_i n hd
    simp only [Bool.and_eq_true, decide_eq_true_eq] at hk
    obtain ⟨h1, rfl⟩ := hk
    exact lv_lload_n hx hb hd h1 (ps_lk hR.1 hl) (kk.2 ls H locs hR)
  · rename_i n hd
    simp only [Bool.and_eq_true, decide_eq_true_eq] at hk
    obtain ⟨h1, rfl⟩ := hk
    subst h1
    exact lv_lload hx hb hd (ps_lk hR.1 hl) (kk.2 ls H locs hR)
  · cases hk
theorem pw_4 (hx : p.tables.exec = Jvm.exec) (hb : c.code = ps_by j) (hok : ∀ pc, ps_ck j pc = true) : ru_4 j (ps_PW p l e R s m args below meth c Q base ex cA dC dI j n0 w0 nF wF) := by
  intro pc v w nx b lv st μ x h hl kk
  refine ⟨kk.1, fun ls H locs hR => ?_⟩
  have hk : ps_k4 (ps_m j) pc nx b = true := ps_use hok h
  unfold ps_k4 at hk
  split at hk
  · rename_i n hd
    simp only [Bool.and_eq_true, decide_eq_true_eq] at hk
    obtain ⟨h1, rfl⟩ := hk
    exact lv_aload_n hx hb hd h1 (ps_lk hR.1 hl) (kk.2 ls H locs hR)
  · rename_i n hd
    simp only [Bool.and_eq_true, decide_eq_true_eq] at hk
    obtain ⟨h1, rfl⟩ := hk
    subst h1
    exact lv_aload hx hb hd (ps_lk hR.1 hl) (kk.2 ls H locs hR)
  · cases hk
theorem pw_5 (hx : p.tables.exec = Jvm.exec) (hb : c.code = ps_by j) (hok : ∀ pc, ps_ck j pc = true) : ru_5 j (ps_PW p l e R s m args below meth c Q base ex cA dC dI j n0 w0 nF wF) := by
  intro pc v w nx b lv lv' st μ x h hl kk
  refine ⟨kk.1, fun ls H locs hR => ?_⟩
  have hk : ps_k5 (ps_m j) pc nx b = true := ps_use hok h
  unfold ps_k5 at hk
  rw [Bool.and_eq_true] at hk
  obtain ⟨hk, hlt⟩ := hk
  have hlt := of_decide_eq_true hlt
  subst hl
  split at hk
  · rename_i n hd
    simp only [Bool.and_eq_true, decide_eq_true_eq] at hk
    obtain ⟨h1, rfl⟩ := hk
    exact lv_istore_n hx hb hd h1 hR.1 hlt (ps_st1m (ps_ph base ex) lv b (.int x)) (fun ls' hl' => kk.2 ls' H locs ⟨hl', hR.2⟩)
  · rename_i n hd
    simp only [Bool.and_eq_true, decide_eq_true_eq] at hk
    obtain ⟨h1, rfl⟩ := hk
    subst h1
    exact lv_istore hx hb hd hR.1 hlt (ps_st1m (ps_ph base ex) lv _ (.int x)) (fun ls' hl' => kk.2 ls' H locs ⟨hl', hR.2⟩)
  · cases hk
theorem pw_6 (hx : p.tables.exec = Jvm.exec) (hb : c.code = ps_by j) (hok : ∀ pc, ps_ck j pc = true) : ru_6 j (ps_PW p l e R s m args below meth c Q base ex cA dC dI j n0 w0 nF wF) := by
  intro pc v w nx b lv lv' st μ x h hl kk
  refine ⟨kk.1, fun ls H locs hR => ?_⟩
  have hk : ps_k6 (ps_m j) pc nx b = true := ps_use hok h
  unfold ps_k6 at hk
  rw [Bool.and_eq_true] at hk
  obtain ⟨hk, hlt⟩ := hk
  have hlt := of_decide_eq_true hlt
  subst hl
  split at hk
  · rename_i n hd
    simp only [Bool.and_eq_true, decide_eq_true_eq] at hk
    obtain ⟨h1, rfl⟩ := hk
    exact lv_lstore_n hx hb hd h1 hR.1 hlt (ps_st2m (ps_ph base ex) lv b (.long x)) (fun ls' hl' => kk.2 ls' H locs ⟨hl', hR.2⟩)
  · rename_i n hd
    simp only [Bool.and_eq_true, decide_eq_true_eq] at hk
    obtain ⟨h1, rfl⟩ := hk
    subst h1
    exact lv_lstore hx hb hd hR.1 hlt (ps_st2m (ps_ph base ex) lv _ (.long x)) (fun ls' hl' => kk.2 ls' H locs ⟨hl', hR.2⟩)
  · cases hk
theorem pw_7 (hx : p.tables.exec = Jvm.exec) (hb : c.code = ps_by j) (hok : ∀ pc, ps_ck j pc = true) : ru_7 j (ps_PW p l e R s m args below meth c Q base ex cA dC dI j n0 w0 nF wF) := by
  intro pc v w nx b lv lv' st μ x h hl kk
  refine ⟨kk.1, fun ls H locs hR => ?_⟩
  have hk : ps_k7 (ps_m j) pc nx b = true := ps_use hok h
  unfold ps_k7 at hk
  rw [Bool.and_eq_true] at hk
  obtain ⟨hk, hlt⟩ := hk
  have hlt := of_decide_eq_true hlt
  subst hl
  split at hk
  · rename_i n hd
    simp only [Bool.and_eq_true, decide_eq_true_eq] at hk
    obtain ⟨h1, rfl⟩ := hk
    exact lv_astore_n hx hb hd h1 hR.1 hlt (ps_st1m (ps_ph base ex) lv b (.ref x)) (fun ls' hl' => kk.2 ls' H locs ⟨hl', hR.2⟩)
  · rename_i n hd
    simp only [Bool.and_eq_true, decide_eq_true_eq] at hk
    obtain ⟨h1, rfl⟩ := hk
    subst h1
    exact lv_astore hx hb hd hR.1 hlt (ps_st1m (ps_ph base ex) lv _ (.ref x)) (fun ls' hl' => kk.2 ls' H locs ⟨hl', hR.2⟩)
  · cases hk
theorem pw_8 (hx : p.tables.exec = Jvm.exec) (hb : c.code = ps_by j) (hok : ∀ pc, ps_ck j pc = true) : ru_8 j (ps_PW p l e R s m args below meth c Q base ex cA dC dI j n0 w0 nF wF) := by
  intro pc v w nx b lv lv' st μ x h hg hl kk
  refine ⟨kk.1, fun ls H locs hR => ?_⟩
  have hk : ps_k8 (ps_m j) pc v nx b = true := ps_use hok h
  unfold ps_k8 at hk
  rw [Bool.and_eq_true] at hk
  obtain ⟨hk, hlt⟩ := hk
  have hlt := of_decide_eq_true hlt
  subst hl
  split at hk
  · rename_i i n hd
    simp only [Bool.and_eq_true, decide_eq_true_eq] at hk
    obtain ⟨h1, h2, rfl⟩ := hk
    subst h1
    obtain ⟨k, hk⟩ := ps_lki (φ := ps_ph base ex) hg
    exact lv_iinc hx hb hd hR.1 hk (by rw [h2]) hlt (ps_st1m (ps_ph base ex) lv _ (.int (x + v))) (fun ls' hl' => kk.2 ls' H locs ⟨hl', hR.2⟩)
  · cases hk
theorem pw_9 (hx : p.tables.exec = Jvm.exec) (hb : c.code = ps_by j) (hok : ∀ pc, ps_ck j pc = true) : ru_9 j (ps_PW p l e R s m args below meth c Q base ex cA dC dI j n0 w0 nF wF) := by
  intro pc v w nx b lv st μ x y h kk
  refine ⟨kk.1, fun ls H locs hR => ?_⟩
  obtain ⟨hd, rfl⟩ := ps_smo (show ps_sm (ps_m j) pc nx .iadd 1 = true from ps_use hok h)
  exact lv_iadd hx hb hd (kk.2 ls H locs hR)
theorem pw_10 (hx : p.tables.exec = Jvm.exec) (hb : c.code = ps_by j) (hok : ∀ pc, ps_ck j pc = true) : ru_10 j (ps_PW p l e R s m args below meth c Q base ex cA dC dI j n0 w0 nF wF) := by
  intro pc v w nx b lv st μ x y h kk
  refine ⟨kk.1, fun ls H locs hR => ?_⟩
  obtain ⟨hd, rfl⟩ := ps_smo (show ps_sm (ps_m j) pc nx .isub 1 = true from ps_use hok h)
  exact lv_isub hx hb hd (kk.2 ls H locs hR)
theorem pw_11 (hx : p.tables.exec = Jvm.exec) (hb : c.code = ps_by j) (hok : ∀ pc, ps_ck j pc = true) : ru_11 j (ps_PW p l e R s m args below meth c Q base ex cA dC dI j n0 w0 nF wF) := by
  intro pc v w nx b lv st μ x y h kk
  refine ⟨kk.1, fun ls H locs hR => ?_⟩
  obtain ⟨hd, rfl⟩ := ps_smo (show ps_sm (ps_m j) pc nx .imul 1 = true from ps_use hok h)
  exact lv_imul hx hb hd (kk.2 ls H locs hR)
theorem pw_12 (hx : p.tables.exec = Jvm.exec) (hb : c.code = ps_by j) (hok : ∀ pc, ps_ck j pc = true) : ru_12 j (ps_PW p l e R s m args below meth c Q base ex cA dC dI j n0 w0 nF wF) := by
  intro pc v w nx b lv st μ x y h kk
  refine ⟨kk.1, fun ls H locs hR => ?_⟩
  obtain ⟨hd, rfl⟩ := ps_smo (show ps_sm (ps_m j) pc nx .iand 1 = true from ps_use hok h)
  exact lv_iand hx hb hd (kk.2 ls H locs hR)
theorem pw_13 (hx : p.tables.exec = Jvm.exec) (hb : c.code = ps_by j) (hok : ∀ pc, ps_ck j pc = true) : ru_13 j (ps_PW p l e R s m args below meth c Q base ex cA dC dI j n0 w0 nF wF) := by
  intro pc v w nx b lv st μ x y h kk
  refine ⟨kk.1, fun ls H locs hR => ?_⟩
  obtain ⟨hd, rfl⟩ := ps_smo (show ps_sm (ps_m j) pc nx .ior 1 = true from ps_use hok h)
  exact lv_ior hx hb hd (kk.2 ls H locs hR)
theorem pw_14 (hx : p.tables.exec = Jvm.exec) (hb : c.code = ps_by j) (hok : ∀ pc, ps_ck j pc = true) : ru_14 j (ps_PW p l e R s m args below meth c Q base ex cA dC dI j n0 w0 nF wF) := by
  intro pc v w nx b lv st μ x y h kk
  refine ⟨kk.1, fun ls H locs hR => ?_⟩
  obtain ⟨hd, rfl⟩ := ps_smo (show ps_sm (ps_m j) pc nx .ishl 1 = true from ps_use hok h)
  exact lv_ishl hx hb hd (kk.2 ls H locs hR)
theorem pw_15 (hx : p.tables.exec = Jvm.exec) (hb : c.code = ps_by j) (hok : ∀ pc, ps_ck j pc = true) : ru_15 j (ps_PW p l e R s m args below meth c Q base ex cA dC dI j n0 w0 nF wF) := by
  intro pc v w nx b lv st μ x y h kk
  refine ⟨kk.1, fun ls H locs hR => ?_⟩
  obtain ⟨hd, rfl⟩ := ps_smo (show ps_sm (ps_m j) pc nx .ishr 1 = true from ps_use hok h)
  exact lv_ishr hx hb hd (kk.2 ls H locs hR)
theorem pw_19 (hx : p.tables.exec = Jvm.exec) (hb : c.code = ps_by j) (hok : ∀ pc, ps_ck j pc = true) : ru_19 j (ps_PW p l e R s m args below meth c Q base ex cA dC dI j n0 w0 nF wF) := by
  intro pc v w nx b lv st μ x y h kk
  refine ⟨kk.1, fun ls H locs hR => ?_⟩
  obtain ⟨hd, rfl⟩ := ps_smo (show ps_sm (ps_m j) pc nx .ladd 1 = true from ps_use hok h)
  exact lv_ladd hx hb hd (kk.2 ls H locs hR)
theorem pw_20 (hx : p.tables.exec = Jvm.exec) (hb : c.code = ps_by j) (hok : ∀ pc, ps_ck j pc = true) : ru_20 j (ps_PW p l e R s m args below meth c Q base ex cA dC dI j n0 w0 nF wF) := by
  intro pc v w nx b lv st μ x y h kk
  refine ⟨kk.1, fun ls H locs hR => ?_⟩
  obtain ⟨hd, rfl⟩ := ps_smo (show ps_sm (ps_m j) pc nx .lsub 1 = true from ps_use hok h)
  exact lv_lsub hx hb hd (kk.2 ls H locs hR)
theorem pw_21 (hx : p.tables.exec = Jvm.exec) (hb : c.code = ps_by j) (hok : ∀ pc, ps_ck j pc = true) : ru_21 j (ps_PW p l e R s m args below meth c Q base ex cA dC dI j n0 w0 nF wF) := by
  intro pc v w nx b lv st μ x y h kk
  refine ⟨kk.1, fun ls H locs hR => ?_⟩
  obtain ⟨hd, rfl⟩ := ps_smo (show ps_sm (ps_m j) pc nx .lmul 1 = true from ps_use hok h)
  exact lv_lmul hx hb hd (kk.2 ls H locs hR)
theorem pw_16 (hx : p.tables.exec = Jvm.exec) (hb : c.code = ps_by j) (hok : ∀ pc, ps_ck j pc = true) : ru_16 j (ps_PW p l e R s m args below meth c Q base ex cA dC dI j n0 w0 nF wF) := by
  intro pc v w nx b lv st μ x y h kk
  refine ⟨kk.1, fun ls H locs hR => ?_⟩
  obtain ⟨hd, rfl⟩ := ps_smo (show ps_sm (ps_m j) pc nx .iushr 1 = true from ps_use hok h)
  exact lv_iushr hx hb hd rfl (kk.2 ls H locs hR)
theorem pw_17 (hx : p.tables.exec = Jvm.exec) (hb : c.code = ps_by j) (hok : ∀ pc, ps_ck j pc = true) : ru_17 j (ps_PW p l e R s m args below meth c Q base ex cA dC dI j n0 w0 nF wF) := by
  intro pc v w nx b lv st μ x y h hne kk
  refine ⟨kk.1, fun ls H locs hR => ?_⟩
  obtain ⟨hd, rfl⟩ := ps_smo (show ps_sm (ps_m j) pc nx .idiv 1 = true from ps_use hok h)
  exact lv_idiv hx hb hd hne (kk.2 ls H locs hR)
theorem pw_18 (hx : p.tables.exec = Jvm.exec) (hb : c.code = ps_by j) (hok : ∀ pc, ps_ck j pc = true) : ru_18 j (ps_PW p l e R s m args below meth c Q base ex cA dC dI j n0 w0 nF wF) := by
  intro pc v w nx b lv st μ x y h hne kk
  refine ⟨kk.1, fun ls H locs hR => ?_⟩
  obtain ⟨hd, rfl⟩ := ps_smo (show ps_sm (ps_m j) pc nx .irem 1 = true from ps_use hok h)
  exact lv_irem hx hb hd hne (kk.2 ls H locs hR)
theorem pw_22 (hx : p.tables.exec = Jvm.exec) (hb : c.code = ps_by j) (hok : ∀ pc, ps_ck j pc = true) : ru_22 j (ps_PW p l e R s m args below meth c Q base ex cA dC dI j n0 w0 nF wF) := by
  intro pc v w nx b lv st μ x y h hne kk
  refine ⟨kk.1, fun ls H locs hR => ?_⟩
  obtain ⟨hd, rfl⟩ := ps_smo (show ps_sm (ps_m j) pc nx .ldiv 1 = true from ps_use hok h)
  exact lv_ldiv hx hb hd hne (kk.2 ls H locs hR)
theorem pw_23 (hx : p.tables.exec = Jvm.exec) (hb : c.code = ps_by j) (hok : ∀ pc, ps_ck j pc = true) : ru_23 j (ps_PW p l e R s m args below meth c Q base ex cA dC dI j n0 w0 nF wF) := by
  intro pc v w nx b lv st μ x y h hne kk
  refine ⟨kk.1, fun ls H locs hR => ?_⟩
  obtain ⟨hd, rfl⟩ := ps_smo (show ps_sm (ps_m j) pc nx .lrem 1 = true from ps_use hok h)
  exact lv_lrem hx hb hd hne (kk.2 ls H locs hR)
theorem pw_24 (hx : p.tables.exec = Jvm.exec) (hb : c.code = ps_by j) (hok : ∀ pc, ps_ck j pc = true) : ru_24 j (ps_PW p l e R s m args below meth c Q base ex cA dC dI j n0 w0 nF wF) := by
  intro pc v w nx b lv st μ x y h kk
  refine ⟨kk.1, fun ls H locs hR => ?_⟩
  obtain ⟨hd, rfl⟩ := ps_smo (show ps_sm (ps_m j) pc nx .lcmp 1 = true from ps_use hok h)
  exact W.lcmp hx hb hd (kk.2 ls H locs hR)
theorem pw_25 (hx : p.tables.exec = Jvm.exec) (hb : c.code = ps_by j) (hok : ∀ pc, ps_ck j pc = true) : ru_25 j (ps_PW p l e R s m args below meth c Q base ex cA dC dI j n0 w0 nF wF) := by
  intro pc v w nx b lv st μ x h kk
  refine ⟨kk.1, fun ls H locs hR => ?_⟩
  obtain ⟨hd, rfl⟩ := ps_smo (show ps_sm (ps_m j) pc nx .i2l 1 = true from ps_use hok h)
  exact lv_i2l hx hb hd rfl (kk.2 ls H locs hR)
theorem pw_26 (hx : p.tables.exec = Jvm.exec) (hb : c.code = ps_by j) (hok : ∀ pc, ps_ck j pc = true) : ru_26 j (ps_PW p l e R s m args below meth c Q base ex cA dC dI j n0 w0 nF wF) := by
  intro pc v w nx b lv st μ x h kk
  refine ⟨kk.1, fun ls H locs hR => ?_⟩
  obtain ⟨hd, rfl⟩ := ps_smo (show ps_sm (ps_m j) pc nx .l2i 1 = true from ps_use hok h)
  exact lv_l2i hx hb hd rfl (kk.2 ls H locs hR)
theorem pw_27 (hx : p.tables.exec = Jvm.exec) (hb : c.code = ps_by j) (hok : ∀ pc, ps_ck j pc = true) : ru_27 j (ps_PW p l e R s m args below meth c Q base ex cA dC dI j n0 w0 nF wF) := by
  intro pc v w nx b lv st μ x h kk
  refine ⟨kk.1, fun ls H locs hR => ?_⟩
  obtain ⟨hd, rfl⟩ := ps_smo (show ps_sm (ps_m j) pc nx .i2b 1 = true from ps_use hok h)
  exact lv_i2b hx hb hd rfl (kk.2 ls H locs hR)
theorem pw_28 (hx : p.tables.exec = Jvm.exec) (hb : c.code = ps_by j) (hok : ∀ pc, ps_ck j pc = true) : ru_28 j (ps_PW p l e R s m args below meth c Q base ex cA dC dI j n0 w0 nF wF) := by
  intro pc v w nx b lv st μ x h hc kk
  refine ⟨kk.1, fun ls H locs hR => ?_⟩
  obtain ⟨hd, rfl⟩ := ps_smo (show ps_sm (ps_m j) pc nx .dup 1 = true from ps_use hok h)
  exact lv_dup hx hb hd (by rw [ps_cv_cat]; exact hc) (kk.2 ls H locs hR)
theorem pw_29 (hx : p.tables.exec = Jvm.exec) (hb : c.code = ps_by j) (hok : ∀ pc, ps_ck j pc = true) : ru_29 j (ps_PW p l e R s m args below meth c Q base ex cA dC dI j n0 w0 nF wF) := by
  intro pc v w nx b lv st μ x y h hc hc2 kk
  refine ⟨kk.1, fun ls H locs hR => ?_⟩
  obtain ⟨hd, rfl⟩ := ps_smo (show ps_sm (ps_m j) pc nx .dup2 1 = true from ps_use hok h)
  exact lv_dup2_11 hx hb hd (by rw [ps_cv_cat]; exact hc) (by rw [ps_cv_cat]; exact hc2) (kk.2 ls H locs hR)
theorem pw_30 (hx : p.tables.exec = Jvm.exec) (hb : c.code = ps_by j) (hok : ∀ pc, ps_ck j pc = true) : ru_30 j (ps_PW p l e R s m args below meth c Q base ex cA dC dI j n0 w0 nF wF) := by
  intro pc v w nx b lv st μ x h kt kf
  refine ⟨(Classical.em (x = 0)).elim (fun q => (kt q).1) (fun q => (kf q).1), fun ls H locs hR => ?_⟩
  have hk : ps_k30 (ps_m j) pc nx b = true := ps_use hok h
  unfold ps_k30 at hk
  split at hk
  · rename_i off hd
    simp only [Bool.and_eq_true, decide_eq_true_eq] at hk
    obtain ⟨h1, rfl⟩ := hk
    exact lv_if_eq hx hb hd h1 (fun q => (kt q).2 ls H locs hR) (fun q => (kf q).2 ls H locs hR)
  · cases hk
theorem pw_36 (hx : p.tables.exec = Jvm.exec) (hb : c.code = ps_by j) (hok : ∀ pc, ps_ck j pc = true) : ru_36 j (ps_PW p l e R s m args below meth c Q base ex cA dC dI j n0 w0 nF wF) := by
  intro pc v w nx b lv st μ x y h kt kf
  refine ⟨(Classical.em (x = y)).elim (fun q => (kt q).1) (fun q => (kf q).1), fun ls H locs hR => ?_⟩
  have hk : ps_k36 (ps_m j) pc nx b = true := ps_use hok h
  unfold ps_k36 at hk
  split at hk
  · rename_i off hd
    simp only [Bool.and_eq_true, decide_eq_true_eq] at hk
    obtain ⟨h1, rfl⟩ := hk
    exact lv_icmp_eq hx hb hd h1 (fun q => (kt q).2 ls H locs hR) (fun q => (kf q).2 ls H locs hR)
  · cases hk
theorem pw_31 (hx : p.tables.exec = Jvm.exec) (hb : c.code = ps_by j) (hok : ∀ pc, ps_ck j pc = true) : ru_31 j (ps_PW p l e R s m args below meth c Q base ex cA dC dI j n0 w0 nF wF) := by
  intro pc v w nx b lv st μ x h kt kf
  refine ⟨(Classical.em (¬ x = 0)).elim (fun q => (kt q).1) (fun q => (kf (Classical.not_not.mp q)).1), fun ls H locs hR => ?_⟩
  have hk : ps_k31 (ps_m j) pc nx b = true := ps_use hok h
  unfold ps_k31 at hk
  split at hk
  · rename_i off hd
    simp only [Bool.and_eq_true, decide_eq_true_eq] at hk
    obtain ⟨h1, rfl⟩ := hk
    exact lv_if_ne hx hb hd h1 (fun q => (kt q).2 ls H locs hR) (fun q => (kf q).2 ls H locs hR)
  · cases hk
theorem pw_37 (hx : p.tables.exec = Jvm.exec) (hb : c.code = ps_by j) (hok : ∀ pc, ps_ck j pc = true) : ru_37 j (ps_PW p l e R s m args below meth c Q base ex cA dC dI j n0 w0 nF wF) := by
  intro pc v w nx b lv st μ x y h kt kf
  refine ⟨(Classical.em (¬ x = y)).elim (fun q => (kt q).1) (fun q => (kf (Classical.not_not.mp q)).1), fun ls H locs hR => ?_⟩
  have hk : ps_k37 (ps_m j) pc nx b = true := ps_use hok h
  unfold ps_k37 at hk
  split at hk
  · rename_i off hd
    simp only [Bool.and_eq_true, decide_eq_true_eq] at hk
    obtain ⟨h1, rfl⟩ := hk
    exact lv_icmp_ne hx hb hd h1 (fun q => (kt q).2 ls H locs hR) (fun q => (kf q).2 ls H locs hR)
  · cases hk
theorem pw_32 (hx : p.tables.exec = Jvm.exec) (hb : c.code = ps_by j) (hok : ∀ pc, ps_ck j pc = true) : ru_32 j (ps_PW p l e R s m args below meth c Q base ex cA dC dI j n0 w0 nF wF) := by
  intro pc v w nx b lv st μ x h kt kf
  refine ⟨(Classical.em (x < 0)).elim (fun q => (kt q).1) (fun q => (kf q).1), fun ls H locs hR => ?_⟩
  have hk : ps_k32 (ps_m j) pc nx b = true := ps_use hok h
  unfold ps_k32 at hk
  split at hk
  · rename_i off hd
    simp only [Bool.and_eq_true, decide_eq_true_eq] at hk
    obtain ⟨h1, rfl⟩ := hk
    exact lv_if_lt hx hb hd h1 (fun q => (kt q).2 ls H locs hR) (fun q => (kf q).2 ls H locs hR)
  · cases hk
theorem pw_38 (hx : p.tables.exec = Jvm.exec) (hb : c.code = ps_by j) (hok : ∀ pc, ps_ck j pc = true) : ru_38 j (ps_PW p l e R s m args below meth c Q base ex cA dC dI j n0 w0 nF wF) := by
  intro pc v w nx b lv st μ x y h kt kf
  refine ⟨(Classical.em (x < y)).elim (fun q => (kt q).1) (fun q => (kf q).1), fun ls H locs hR => ?_⟩
  have hk : ps_k38 (ps_m j) pc nx b = true := ps_use hok h
  unfold ps_k38 at hk
  split at hk
  · rename_i off hd
    simp only [Bool.and_eq_true, decide_eq_true_eq] at hk
    obtain ⟨h1, rfl⟩ := hk
    exact lv_icmp_lt hx hb hd h1 (fun q => (kt q).2 ls H locs hR) (fun q => (kf q).2 ls H locs hR)
  · cases hk
theorem pw_33 (hx : p.tables.exec = Jvm.exec) (hb : c.code = ps_by j) (hok : ∀ pc, ps_ck j pc = true) : ru_33 j (ps_PW p l e R s m args below meth c Q base ex cA dC dI j n0 w0 nF wF) := by
  intro pc v w nx b lv st μ x h kt kf
  refine ⟨(Classical.em (0 ≤ x)).elim (fun q => (kt q).1) (fun q => (kf q).1), fun ls H locs hR => ?_⟩
  have hk : ps_k33 (ps_m j) pc nx b = true := ps_use hok h
  unfold ps_k33 at hk
  split at hk
  · rename_i off hd
    simp only [Bool.and_eq_true, decide_eq_true_eq] at hk
    obtain ⟨h1, rfl⟩ := hk
    exact lv_if_ge hx hb hd h1 (fun q => (kt q).2 ls H locs hR) (fun q => (kf q).2 ls H locs hR)
  · cases hk
theorem pw_39 (hx : p.tables.exec = Jvm.exec) (hb : c.code = ps_by j) (hok : ∀ pc, ps_ck j pc = true) : ru_39 j (ps_PW p l e R s m args below meth c Q base ex cA dC dI j n0 w0 nF wF) := by
  intro pc v w nx b lv st μ x y h kt kf
  refine ⟨(Classical.em (y ≤ x)).elim (fun q => (kt q).1) (fun q => (kf q).1), fun ls H locs hR => ?_⟩
  have hk : ps_k39 (ps_m j) pc nx b = true := ps_use hok h
  unfold ps_k39 at hk
  split at hk
  · rename_i off hd
    simp only [Bool.and_eq_true, decide_eq_true_eq] at hk
    obtain ⟨h1, rfl⟩ := hk
    exact lv_icmp_ge hx hb hd h1 (fun q => (kt q).2 ls H locs hR) (fun q => (kf q).2 ls H locs hR)
  · cases hk
theorem pw_34 (hx : p.tables.exec = Jvm.exec) (hb : c.code = ps_by j) (hok : ∀ pc, ps_ck j pc = true) : ru_34 j (ps_PW p l e R s m args below meth c Q base ex cA dC dI j n0 w0 nF wF) := by
  intro pc v w nx b lv st μ x h kt kf
  refine ⟨(Classical.em (0 < x)).elim (fun q => (kt q).1) (fun q => (kf q).1), fun ls H locs hR => ?_⟩
  have hk : ps_k34 (ps_m j) pc nx b = true := ps_use hok h
  unfold ps_k34 at hk
  split at hk
  · rename_i off hd
    simp only [Bool.and_eq_true, decide_eq_true_eq] at hk
    obtain ⟨h1, rfl⟩ := hk
    exact lv_if_gt hx hb hd h1 (fun q => (kt q).2 ls H locs hR) (fun q => (kf q).2 ls H locs hR)
  · cases hk
theorem pw_40 (hx : p.tables.exec = Jvm.exec) (hb : c.code = ps_by j) (hok : ∀ pc, ps_ck j pc = true) : ru_40 j (ps_PW p l e R s m args below meth c Q base ex cA dC dI j n0 w0 nF wF) := by
  intro pc v w nx b lv st μ x y h kt kf
  refine ⟨(Classical.em (y < x)).elim (fun q => (kt q).1) (fun q => (kf q).1), fun ls H locs hR => ?_⟩
  have hk : ps_k40 (ps_m j) pc nx b = true := ps_use hok h
  unfold ps_k40 at hk
  split at hk
  · rename_i off hd
    simp only [Bool.and_eq_true, decide_eq_true_eq] at hk
    obtain ⟨h1, rfl⟩ := hk
    exact lv_icmp_gt hx hb hd h1 (fun q => (kt q).2 ls H locs hR) (fun q => (kf q).2 ls H locs hR)
  · cases hk
theorem pw_35 (hx : p.tables.exec = Jvm.exec) (hb : c.code = ps_by j) (hok : ∀ pc, ps_ck j pc = true) : ru_35 j (ps_PW p l e R s m args below meth c Q base ex cA dC dI j n0 w0 nF wF) := by
  intro pc v w nx b lv st μ x h kt kf
  refine ⟨(Classical.em (x ≤ 0)).elim (fun q => (kt q).1) (fun q => (kf q).1), fun ls H locs hR => ?_⟩
  have hk : ps_k35 (ps_m j) pc nx b = true := ps_use hok h
  unfold ps_k35 at hk
  split at hk
  · rename_i off hd
    simp only [Bool.and_eq_true, decide_eq_true_eq] at hk
    obtain ⟨h1, rfl⟩ := hk
    exact lv_if_le hx hb hd h1 (fun q => (kt q).2 ls H locs hR) (fun q => (kf q).2 ls H locs hR)
  · cases hk
theorem pw_41 (hx : p.tables.exec = Jvm.exec) (hb : c.code = ps_by j) (hok : ∀ pc, ps_ck j pc = true) : ru_41 j (ps_PW p l e R s m args below meth c Q base ex cA dC dI j n0 w0 nF wF) := by
  intro pc v w nx b lv st μ x y h kt kf
  refine ⟨(Classical.em (x ≤ y)).elim (fun q => (kt q).1) (fun q => (kf q).1), fun ls H locs hR => ?_⟩
  have hk : ps_k41 (ps_m j) pc nx b = true := ps_use hok h
  unfold ps_k41 at hk
  split at hk
  · rename_i off hd
    simp only [Bool.and_eq_true, decide_eq_true_eq] at hk
    obtain ⟨h1, rfl⟩ := hk
    exact lv_icmp_le hx hb hd h1 (fun q => (kt q).2 ls H locs hR) (fun q => (kf q).2 ls H locs hR)
  · cases hk
theorem pw_42 (hx : p.tables.exec = Jvm.exec) (hb : c.code = ps_by j) (hok : ∀ pc, ps_ck j pc = true) : ru_42 j (ps_PW p l e R s m args below meth c Q base ex cA dC dI j n0 w0 nF wF) := by
  intro pc v w nx b lv st μ h kk
  refine ⟨kk.1, fun ls H locs hR => ?_⟩
  have hk : ps_k42 (ps_m j) pc nx = true := ps_use hok h
  unfold ps_k42 at hk
  split at hk
  · rename_i off hd
    exact lv_goto hx hb hd (of_decide_eq_true hk) (kk.2 ls H locs hR)
  · cases hk
theorem pw_43 (hx : p.tables.exec = Jvm.exec) (hb : c.code = ps_by j) (hok : ∀ pc, ps_ck j pc = true) : ru_43 j (ps_PW p l e R s m args below meth c Q base ex cA dC dI j n0 w0 nF wF) := by
  intro pc v w nx b lv st μ x h kk
  refine ⟨kk.1, fun ls H locs hR => ?_⟩
  have hk : ps_k43 (ps_m j) pc nx b = true := ps_use hok h
  unfold ps_k43 at hk
  split at hk
  · rename_i off hd
    simp only [Bool.and_eq_true, decide_eq_true_eq] at hk
    exact lv_ifnonnull hx hb hd hk.1 (kk.2 ls H locs hR)
  · cases hk
theorem pw_44 (hx : p.tables.exec = Jvm.exec) (hb : c.code = ps_by j) (hok : ∀ pc, ps_ck j pc = true) : ru_44 j (ps_PW p l e R s m args below meth c Q base ex cA dC dI j n0 w0 nF wF) := by
  intro pc v w nx b lv st μ x e h he kd kt
  have hk : ps_k44 (ps_m j) pc b = true := ps_use hok h
  unfold ps_k44 at hk
  rw [he] at hk
  split at hk
  · rename_i df lo hi offs len e' hd he'
    cases he'
    simp only [Bool.and_eq_true, decide_eq_true_eq] at hk
    obtain ⟨rfl, rfl, h3, h4, h5⟩ := hk
    by_cases ho : x.toInt < e.1 ∨ e.2.1 < x.toInt
    · exact ⟨(kd ho).1, fun ls H locs hR => lv_tableOut hx hb hd ho h3 ((kd ho).2 ls H locs hR)⟩
    · have hlt : (x.toInt - e.1).toNat < e.2.2.2.length := by omega
      have ht : e.2.2.2[(x.toInt - e.1).toNat]? = some (e.2.2.2[(x.toInt - e.1).toNat]'hlt) := List.getElem?_eq_getElem hlt
      have kk := kt _ _ ht (by omega)
      refine ⟨kk.1, fun ls H locs hR => ?_⟩
      have hm : (offs.toList.map (fun o => (pc : Int) + o))[(x.toInt - e.1).toNat]? = (e.2.2.2.map (fun (t : Nat) => (t : Int)))[(x.toInt - e.1).toNat]? := by rw [h4]
      rw [List.getElem?_map, List.getElem?_map, ht, Option.map_some, Array.getElem?_toList, Option.map_eq_some_iff] at hm
      obtain ⟨off, h6, h7⟩ := hm
      exact lv_tableIn hx hb hd (by omega) (by omega) h6 h7 (kk.2 ls H locs hR)
  · cases hk
end CLO
