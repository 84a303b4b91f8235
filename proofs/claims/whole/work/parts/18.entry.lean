/-! THE CLAIM OUT OF ONE WALK OF THE LAW'S BODY. Your part is whole_start (and what it stands on); all else here is the same for every law, but numbers. -/
def R_law : String := "PumpSpellsLaw"
def lw_P (b : Addr) (xs : List Int32) (args : Array Value) (s : State) : Prop := args = #[.ref b] ∧ s.IntsAt b xs ∧ xs.length ≤ 3072 ∧ (Jvm.Cond.and given_1 narrow_1).before args s = true
def lw_Q (_ : Array Value) (s : State) (o : Outcome) (t : State) : Prop := o = .returned (some (.int 1)) ∧ Framed s o t [] 600000 7302250
def lw_Z (below : List Frame) (a : Array Value) (s : State) : State → Prop := fun t => ∃ o, t.status = .running ∧ Ended t below o ∧ lw_Q a s o t
/-- the law's own end, with 1 on the stack, nothing written that was there before, its room as the claim has it -/
theorem lw_ret {p : Program} {l : Launch} {e : Env} {s : State} {m : MethodId} {below : List Frame} {meth : Method} {c : Code} {b : Nat} (hx : p.tables.exec = Jvm.exec) (hb : c.code = code) (hr : meth.sig.returnType = ret) (hlocks : meth.locks = false) {pc : Nat} {H : Heap} {ls : Array Slot} (hdg : decode code pc = .ok (.ireturn, 1)) : W p l e room_1 s m #[Value.ref b] below meth c H [] 600000 7302250 (lw_Z below #[Value.ref b] s) (F0 m pc ls [.int 1]) := by
  intro T hT X
  obtain ⟨fs, hret, hrun, hended, hW, hframe⟩ := X.leave (v := some (.int 1)) (hlocks := hlocks) (fun h => by rw [hr] at h; cases h)
  have hmeth' : T.vm.method? m = some meth := X.method'
  refine ⟨T.setFrames fs, ?_, .returned (some (.int 1)), hrun, hended, rfl, ⟨_, rfl⟩, hW, hframe⟩
  jvm_step X.here [X.here.top, hx, hb, hdg, hmeth', hr, ret, narrow_b1]
  (try refine ⟨rfl, ?_⟩); (try refine ⟨rfl, ?_⟩)
  first | (intro acts; rw [hret _ acts rfl rfl rfl]) | rw [hret _ _ rfl rfl rfl]
  exact Steps.refl _
/-- what holds at the law's entry: the machine, the code, the tables' words (any of lw_tbl by 'hts w (by decide +kernel)'), the script of L ints xs at the cell b, what the Statement gives of the start (any of its parts by flat_of_before) -/
def lw_At (p : Program) (s : State) (m : MethodId) (meth : Method) (c : Code) (b L : Nat) (xs : Nat → Int32) : Prop :=
  p.tables.exec = Jvm.exec ∧ c.code = code ∧ meth.sig.returnType = ret ∧ c.maxLocals = 4 ∧ s.vm.findClass R_law = some m.cls ∧ (∀ w ∈ lw_tbl, w.before #[Value.ref b] s = true) ∧ va_X b L xs s s.heap ∧ b < s.heap.size ∧ meth.locks = false ∧ (Jvm.Cond.and given_1 narrow_1).before #[Value.ref b] s = true

def ps_tab (t : Nat) : List Int32 := [[103, 114, 115, 102, 108, 99], [6, 9, 6, 3, 9, 7], [2, 4, 1, 2, 4, 1], [1, 2, 1, 1, 2, 1]].getD t []
def ps_XX (L : Nat) (xs : Nat → Int32) (t : Nat) : Nat × (Nat → Int32) := if t = 4 then (L, xs) else (6, fun i => (ps_tab t).getD i 0)
def ps_mu0 : ps_M := (0, 0, fun _ => (99, 0), fun _ _ => 0, fun _ _ => 0, fun _ _ => none)
/-- the law at its end, with true -/
def ps_LK (f : ps_F) : Prop := (∃ v w nx b, ps_ins 237 f.1 = some (63, v, w, nx, b)) ∧ f.2.2.1 = [.int 1] ∧ ps_n f.2.2.2 ≤ 600000 ∧ ps_w f.2.2.2 ≤ 7302250
theorem ps_stat0 {args : Array Value} {s : State} {A : Nat → Prop} (hgv : (Jvm.Cond.and given_1 narrow_1).before args s = true) (hts : ∀ w ∈ lw_tbl, w.before args s = true) (hA : ∀ a : Nat, a < s.heap.size → ¬ A a) : ∃ q : Nat, va_Z "PumpSpells" "LETTERS" "[I" (.ref q) A s s.heap ∧ va_T .int q 6 (fun i => .int ((ps_tab 0).getD i 0)) A s s.heap := by
  have hs := flat_of_before _ hgv
  have harr : (Cond.arrayOf (.static "PumpSpells" "LETTERS" "[I") .int).before args s = true := hs _ (by decide +kernel)
  have hlen : (Cond.eq (.length (.static "PumpSpells" "LETTERS" "[I")) (.int 6)).before args s = true := hs _ (by decide +kernel)
  have h0 : (Cond.eq (.elem (.static "PumpSpells" "LETTERS" "[I") (.int 0)) (.int 103)).before args s = true := hs _ (by decide +kernel)
  have h1 : (Cond.eq (.elem (.static "PumpSpells" "LETTERS" "[I") (.int 1)) (.int 114)).before args s = true := hs _ (by decide +kernel)
  have h2 : (Cond.eq (.elem (.static "PumpSpells" "LETTERS" "[I") (.int 2)) (.int 115)).before args s = true := hs _ (by decide +kernel)
  have h3 : (Cond.eq (.elem (.static "PumpSpells" "LETTERS" "[I") (.int 3)) (.int 102)).before args s = true := hs _ (by decide +kernel)
  have h4 : (Cond.eq (.elem (.static "PumpSpells" "LETTERS" "[I") (.int 4)) (.int 108)).before args s = true := hs _ (by decide +kernel)
  have h5 : (Cond.eq (.elem (.static "PumpSpells" "LETTERS" "[I") (.int 5)) (.int 99)).before args s = true := hs _ (by decide +kernel)
  obtain ⟨q, hq, hT⟩ := va_Tof (tm := (.static "PumpSpells" "LETTERS" "[I")) (ty := .int) (N := 6) (f := fun i => .int ((ps_tab 0).getD i 0)) (A := A) (by decide) harr (va_eqt hlen) (fun j hj => by
    rcases (show j = 0 ∨ j = 1 ∨ j = 2 ∨ j = 3 ∨ j = 4 ∨ j = 5 by omega) with rfl | rfl | rfl | rfl | rfl | rfl
    · exact va_eqt h0
    · exact va_eqt h1
    · exact va_eqt h2
    · exact va_eqt h3
    · exact va_eqt h4
    · exact va_eqt h5) hA
  exact ⟨q, va_Zof (hts _ (ps_wd_in (i := 462) (by decide +kernel))) (hts _ (ps_wd_in (i := 67) (by decide +kernel))) hq hA, hT⟩
theorem ps_stat1 {args : Array Value} {s : State} {A : Nat → Prop} (hgv : (Jvm.Cond.and given_1 narrow_1).before args s = true) (hts : ∀ w ∈ lw_tbl, w.before args s = true) (hA : ∀ a : Nat, a < s.heap.size → ¬ A a) : ∃ q : Nat, va_Z "PumpSpells" "PUMPS" "[I" (.ref q) A s s.heap ∧ va_T .int q 6 (fun i => .int ((ps_tab 1).getD i 0)) A s s.heap := by
  have hs := flat_of_before _ hgv
  have harr : (Cond.arrayOf (.static "PumpSpells" "PUMPS" "[I") .int).before args s = true := hs _ (by decide +kernel)
  have hlen : (Cond.eq (.length (.static "PumpSpells" "PUMPS" "[I")) (.int 6)).before args s = true := hs _ (by decide +kernel)
  have h0 : (Cond.eq (.elem (.static "PumpSpells" "PUMPS" "[I") (.int 0)) (.int 6)).before args s = true := hs _ (by decide +kernel)
  have h1 : (Cond.eq (.elem (.static "PumpSpells" "PUMPS" "[I") (.int 1)) (.int 9)).before args s = true := hs _ (by decide +kernel)
  have h2 : (Cond.eq (.elem (.static "PumpSpells" "PUMPS" "[I") (.int 2)) (.int 6)).before args s = true := hs _ (by decide +kernel)
  have h3 : (Cond.eq (.elem (.static "PumpSpells" "PUMPS" "[I") (.int 3)) (.int 3)).before args s = true := hs _ (by decide +kernel)
  have h4 : (Cond.eq (.elem (.static "PumpSpells" "PUMPS" "[I") (.int 4)) (.int 9)).before args s = true := hs _ (by decide +kernel)
  have h5 : (Cond.eq (.elem (.static "PumpSpells" "PUMPS" "[I") (.int 5)) (.int 7)).before args s = true := hs _ (by decide +kernel)
  obtain ⟨q, hq, hT⟩ := va_Tof (tm := (.static "PumpSpells" "PUMPS" "[I")) (ty := .int) (N := 6) (f := fun i => .int ((ps_tab 1).getD i 0)) (A := A) (by decide) harr (va_eqt hlen) (fun j hj => by
    rcases (show j = 0 ∨ j = 1 ∨ j = 2 ∨ j = 3 ∨ j = 4 ∨ j = 5 by omega) with rfl | rfl | rfl | rfl | rfl | rfl
    · exact va_eqt h0
    · exact va_eqt h1
    · exact va_eqt h2
    · exact va_eqt h3
    · exact va_eqt h4
    · exact va_eqt h5) hA
  exact ⟨q, va_Zof (hts _ (ps_wd_in (i := 493) (by decide +kernel))) (hts _ (ps_wd_in (i := 67) (by decide +kernel))) hq hA, hT⟩
theorem ps_stat2 {args : Array Value} {s : State} {A : Nat → Prop} (hgv : (Jvm.Cond.and given_1 narrow_1).before args s = true) (hts : ∀ w ∈ lw_tbl, w.before args s = true) (hA : ∀ a : Nat, a < s.heap.size → ¬ A a) : ∃ q : Nat, va_Z "PumpSpells" "COSTS" "[I" (.ref q) A s s.heap ∧ va_T .int q 6 (fun i => .int ((ps_tab 2).getD i 0)) A s s.heap := by
  have hs := flat_of_before _ hgv
  have harr : (Cond.arrayOf (.static "PumpSpells" "COSTS" "[I") .int).before args s = true := hs _ (by decide +kernel)
  have hlen : (Cond.eq (.length (.static "PumpSpells" "COSTS" "[I")) (.int 6)).before args s = true := hs _ (by decide +kernel)
  have h0 : (Cond.eq (.elem (.static "PumpSpells" "COSTS" "[I") (.int 0)) (.int 2)).before args s = true := hs _ (by decide +kernel)
  have h1 : (Cond.eq (.elem (.static "PumpSpells" "COSTS" "[I") (.int 1)) (.int 4)).before args s = true := hs _ (by decide +kernel)
  have h2 : (Cond.eq (.elem (.static "PumpSpells" "COSTS" "[I") (.int 2)) (.int 1)).before args s = true := hs _ (by decide +kernel)
  have h3 : (Cond.eq (.elem (.static "PumpSpells" "COSTS" "[I") (.int 3)) (.int 2)).before args s = true := hs _ (by decide +kernel)
  have h4 : (Cond.eq (.elem (.static "PumpSpells" "COSTS" "[I") (.int 4)) (.int 4)).before args s = true := hs _ (by decide +kernel)
  have h5 : (Cond.eq (.elem (.static "PumpSpells" "COSTS" "[I") (.int 5)) (.int 1)).before args s = true := hs _ (by decide +kernel)
  obtain ⟨q, hq, hT⟩ := va_Tof (tm := (.static "PumpSpells" "COSTS" "[I")) (ty := .int) (N := 6) (f := fun i => .int ((ps_tab 2).getD i 0)) (A := A) (by decide) harr (va_eqt hlen) (fun j hj => by
    rcases (show j = 0 ∨ j = 1 ∨ j = 2 ∨ j = 3 ∨ j = 4 ∨ j = 5 by omega) with rfl | rfl | rfl | rfl | rfl | rfl
    · exact va_eqt h0
    · exact va_eqt h1
    · exact va_eqt h2
    · exact va_eqt h3
    · exact va_eqt h4
    · exact va_eqt h5) hA
  exact ⟨q, va_Zof (hts _ (ps_wd_in (i := 498) (by decide +kernel))) (hts _ (ps_wd_in (i := 67) (by decide +kernel))) hq hA, hT⟩
theorem ps_stat3 {args : Array Value} {s : State} {A : Nat → Prop} (hgv : (Jvm.Cond.and given_1 narrow_1).before args s = true) (hts : ∀ w ∈ lw_tbl, w.before args s = true) (hA : ∀ a : Nat, a < s.heap.size → ¬ A a) : ∃ q : Nat, va_Z "PumpSpells" "CHOKES" "[I" (.ref q) A s s.heap ∧ va_T .int q 6 (fun i => .int ((ps_tab 3).getD i 0)) A s s.heap := by
  have hs := flat_of_before _ hgv
  have harr : (Cond.arrayOf (.static "PumpSpells" "CHOKES" "[I") .int).before args s = true := hs _ (by decide +kernel)
  have hlen : (Cond.eq (.length (.static "PumpSpells" "CHOKES" "[I")) (.int 6)).before args s = true := hs _ (by decide +kernel)
  have h0 : (Cond.eq (.elem (.static "PumpSpells" "CHOKES" "[I") (.int 0)) (.int 1)).before args s = true := hs _ (by decide +kernel)
  have h1 : (Cond.eq (.elem (.static "PumpSpells" "CHOKES" "[I") (.int 1)) (.int 2)).before args s = true := hs _ (by decide +kernel)
  have h2 : (Cond.eq (.elem (.static "PumpSpells" "CHOKES" "[I") (.int 2)) (.int 1)).before args s = true := hs _ (by decide +kernel)
  have h3 : (Cond.eq (.elem (.static "PumpSpells" "CHOKES" "[I") (.int 3)) (.int 1)).before args s = true := hs _ (by decide +kernel)
  have h4 : (Cond.eq (.elem (.static "PumpSpells" "CHOKES" "[I") (.int 4)) (.int 2)).before args s = true := hs _ (by decide +kernel)
  have h5 : (Cond.eq (.elem (.static "PumpSpells" "CHOKES" "[I") (.int 5)) (.int 1)).before args s = true := hs _ (by decide +kernel)
  obtain ⟨q, hq, hT⟩ := va_Tof (tm := (.static "PumpSpells" "CHOKES" "[I")) (ty := .int) (N := 6) (f := fun i => .int ((ps_tab 3).getD i 0)) (A := A) (by decide) harr (va_eqt hlen) (fun j hj => by
    rcases (show j = 0 ∨ j = 1 ∨ j = 2 ∨ j = 3 ∨ j = 4 ∨ j = 5 by omega) with rfl | rfl | rfl | rfl | rfl | rfl
    · exact va_eqt h0
    · exact va_eqt h1
    · exact va_eqt h2
    · exact va_eqt h3
    · exact va_eqt h4
    · exact va_eqt h5) hA
  exact ⟨q, va_Zof (hts _ (ps_wd_in (i := 594) (by decide +kernel))) (hts _ (ps_wd_in (i := 67) (by decide +kernel))) hq hA, hT⟩
theorem ps_arr {args : Array Value} {s : State} {ty : FieldType} (h : (Cond.arrayClass ty).before args s = true) : ∃ c : ClassId, ArrOfT s c ty ∧ s.vm.findClass ("[" ++ ty.toString) = some c := by
  obtain ⟨c, k, comp, h1, h2, h3⟩ := Cond.arrayClass_spec h
  exact ⟨c, fun n z => ⟨fun k h => (by cases h), k, h2, comp, h3⟩, h1⟩
theorem ps_arq {args : Array Value} {s : State} {C : String} (h : (Cond.arrayOver (.object C)).before args s = true) : ∃ c : ClassId, ArrOfT s c (.object C) ∧ va_RA s c (.object C) := by
  obtain ⟨comp, c, k, h1, h2, h3, h4, h5⟩ := Cond.arrayOver_spec h
  exact ⟨c, fun n z => ⟨fun k h => (by cases h), k, h3, comp, h4⟩, k, comp, h3, h4, h1, h5⟩
set_option maxHeartbeats 4000000 in
set_option maxRecDepth 100000 in
theorem ps_start {p : Program} {e : Env} {s : State} {m : MethodId} {below : List Frame} {meth : Method} {c : Code} (l : Launch) {b L : Nat} {xs : Nat → Int32} (C0 : lw_At p s m meth c b L xs) (hlaw : ps_To (ps_XX L xs) (ps_Ev (ps_XX L xs) 60) 237 ps_LK (0, [(0, .ref (ps_X + 4))], [], ps_mu0)) : W p l e room_1 s m #[Value.ref b] below meth c s.heap [] 0 0 (lw_Z below #[Value.ref b] s) (entryFrame m ([Value.ref b] : List Value).toArray 4) := by
  obtain ⟨hx, hb, hr, hml, hown, hts, hX, hbl, hlocks, hgv⟩ := id C0
  have hTB : ps_TB s := ps_TB.of hts
  have hA : ∀ a : Nat, a < s.heap.size → ¬ (fun q : Nat => s.heap.size ≤ q) a := fun a h => Nat.not_le.mpr h
  obtain ⟨a0, z0, t0⟩ := ps_stat0 (A := fun q : Nat => s.heap.size ≤ q) hgv hts hA
  obtain ⟨a1, z1, t1⟩ := ps_stat1 (A := fun q : Nat => s.heap.size ≤ q) hgv hts hA
  obtain ⟨a2, z2, t2⟩ := ps_stat2 (A := fun q : Nat => s.heap.size ≤ q) hgv hts hA
  obtain ⟨a3, z3, t3⟩ := ps_stat3 (A := fun q : Nat => s.heap.size ≤ q) hgv hts hA
  obtain ⟨c0, i0, k0⟩ := u_known (C := RX0) (T := TX0) (N := 3) (n := 3) (ws := ps_T) (fun w hw => hTB w hw #[]) ps_u0 (hTB _ (ps_inw (i := 179) (w := .instantiable RX0 3) (by decide +kernel) rfl) _)
  obtain ⟨c1, i1, k1⟩ := u_known (C := RX1) (T := TX1) (N := 2) (n := 2) (ws := ps_T) (fun w hw => hTB w hw #[]) ps_u1 (hTB _ (ps_inw (i := 232) (w := .instantiable RX1 2) (by decide +kernel) rfl) _)
  obtain ⟨c2, i2, k2⟩ := u_known (C := RX2) (T := TX2) (N := 7) (n := 7) (ws := ps_T) (fun w hw => hTB w hw #[]) ps_u2 (hTB _ (ps_inw (i := 198) (w := .instantiable RX2 7) (by decide +kernel) rfl) _)
  obtain ⟨c3, i3, k3⟩ := u_known (C := RX3) (T := TX3) (N := 12) (n := 12) (ws := ps_T) (fun w hw => hTB w hw #[]) ps_u3 (hTB _ (ps_inw (i := 99) (w := .instantiable RX3 12) (by decide +kernel) rfl) _)
  obtain ⟨c4, i4, k4⟩ := u_known (C := RX5) (T := TX5) (N := 2) (n := 2) (ws := ps_T) (fun w hw => hTB w hw #[]) ps_u4 (hTB _ (ps_inw (i := 256) (w := .instantiable RX5 2) (by decide +kernel) rfl) _)
  obtain ⟨c5, i5, k5⟩ := u_known (C := RX6) (T := TX6) (N := 3) (n := 3) (ws := ps_T) (fun w hw => hTB w hw #[]) ps_u5 (hTB _ (ps_inw (i := 93) (w := .instantiable RX6 3) (by decide +kernel) rfl) _)
  obtain ⟨c6, i6, k6⟩ := u_known (C := RX7) (T := TX7) (N := 14) (n := 14) (ws := ps_T) (fun w hw => hTB w hw #[]) ps_u6 (hTB _ (ps_inw (i := 81) (w := .instantiable RX7 14) (by decide +kernel) rfl) _)
  obtain ⟨c7, i7, k7⟩ := u_known (C := RX8) (T := TX8) (N := 23) (n := 23) (ws := ps_T) (fun w hw => hTB w hw #[]) ps_u7 (hTB _ (ps_inw (i := 876) (w := .instantiable RX8 23) (by decide +kernel) rfl) _)
  obtain ⟨dC, dI, hKc⟩ : ∃ (dC : Nat → ClassId) (dI : Nat → Nat → Nat), ∀ (k : Nat) (q : vw_C), ps_cl[k]? = some q → u_Kn s q.1 q.2.1 q.2.2 (dC k) (dI k) := by
    refine ⟨fun k => [c0, c1, c2, c3, c4, c5, c6, c7].getD k c0, fun k => [i0, i1, i2, i3, i4, i5, i6, i7].getD k i0, ?_⟩
    intro k q hq
    match k, hq with
    | 0, hq => cases hq; exact k0
    | 1, hq => cases hq; exact k1
    | 2, hq => cases hq; exact k2
    | 3, hq => cases hq; exact k3
    | 4, hq => cases hq; exact k4
    | 5, hq => cases hq; exact k5
    | 6, hq => cases hq; exact k6
    | 7, hq => cases hq; exact k7
    | k + 8, hq => simp [ps_cl] at hq
  obtain ⟨d0, e0, f0⟩ := ps_arr (ty := .int) (hTB (.arrayClass .int) ps_acI #[])
  obtain ⟨d1, e1, f1⟩ := ps_arr (ty := .byte) (hTB (.arrayClass .byte) ps_acB #[])
  obtain ⟨d2, e2, f2⟩ := ps_arq (C := RX1) (hTB (.arrayOver (.object RX1)) (ps_ao (kd := 12) (by decide) (by decide)) #[])
  obtain ⟨d3, e3, f3⟩ := ps_arq (C := RX5) (hTB (.arrayOver (.object RX5)) (ps_ao (kd := 13) (by decide) (by decide)) #[])
  obtain ⟨d4, e4, f4⟩ := ps_arq (C := RX6) (hTB (.arrayOver (.object RX6)) (ps_ao (kd := 14) (by decide) (by decide)) #[])
  obtain ⟨d5, e5, f5⟩ := ps_arq (C := RX3) (hTB (.arrayOver (.object RX3)) (ps_ao (kd := 15) (by decide) (by decide)) #[])
  obtain ⟨cA, g0, g1, g2, g3, g4, g5⟩ : ∃ cA : Nat → ClassId, cA 10 = d0 ∧ cA 11 = d1 ∧ cA 12 = d2 ∧ cA 13 = d3 ∧ cA 14 = d4 ∧ cA 15 = d5 := ⟨fun k => [d0, d1, d2, d3, d4, d5].getD (k - 10) d0, rfl, rfl, rfl, rfl, rfl, rfl⟩
  subst g0; subst g1; subst g2; subst g3; subst g4; subst g5
  have hK : va_K (dC, dI) ps_cl (ps_tys cA) s := by
    refine ⟨hKc, fun k q hq => ?_⟩
    match k, hq with
    | 0, hq => cases hq; exact ⟨e0, f0⟩
    | 1, hq => cases hq; exact ⟨e1, f1⟩
    | 2, hq => cases hq; exact ⟨e2, f2⟩
    | 3, hq => cases hq; exact ⟨e3, f3⟩
    | 4, hq => cases hq; exact ⟨e4, f4⟩
    | 5, hq => cases hq; exact ⟨e5, f5⟩
    | k + 6, hq => simp [ps_tys] at hq
  obtain ⟨ex, q0, q1, q2, q3, q4⟩ : ∃ ex : Nat → Nat, ex 0 = a0 ∧ ex 1 = a1 ∧ ex 2 = a2 ∧ ex 3 = a3 ∧ ex 4 = b := ⟨fun k => [a0, a1, a2, a3, b].getD k 0, rfl, rfl, rfl, rfl, rfl⟩
  have hT4 : va_T .int b L (fun i => .int (xs i)) (fun q : Nat => s.heap.size ≤ q) s s.heap := by
    obtain ⟨scr, h1, h2, h3, h4, h5⟩ := hX
    exact ⟨scr, h1, h2, h3, Nat.le_of_eq h4.symm, by rw [h4], h5, Nat.not_le.mpr hbl⟩
  have hE : ps_E s.heap.size ex (ps_XX L xs) s s.heap := by
    refine ⟨fun t ht => ?_, fun t ht => ?_⟩
    · rcases (show t = 0 ∨ t = 1 ∨ t = 2 ∨ t = 3 by omega) with rfl | rfl | rfl | rfl
      · rw [q0]; exact z0
      · rw [q1]; exact z1
      · rw [q2]; exact z2
      · rw [q3]; exact z3
    · rcases (show t = 0 ∨ t = 1 ∨ t = 2 ∨ t = 3 ∨ t = 4 by omega) with rfl | rfl | rfl | rfl | rfl
      · rw [q0]; exact t0
      · rw [q1]; exact t1
      · rw [q2]; exact t2
      · rw [q3]; exact t3
      · rw [q4]; exact hT4
  have hcl := ps_clo (p := p) (l := l) (e := e) (R := room_1) (s := s) (m := m) (args := #[Value.ref b]) (below := below) (meth := meth) (c := c) (Q := lw_Z below #[Value.ref b] s) (base := s.heap.size) (ex := ex) (cA := cA) (dC := dC) (dI := dI) (X := ps_XX L xs) (j := 237) (n0 := 0) (w0 := 0) (nF := 600000) (wF := 7302250) (d := 60) hx hb ps_o237 hml hown (fun h => absurd h (by decide)) hTB hK hE (by decide) rfl (by decide) (by decide) rfl rfl (ps_sound l _ ex cA dC dI _ 60)
  have key := hlaw _ hcl ?_
  · have hl := lv_entry ([.ref b]) (n := 4) (Nat.le_of_ble_eq_true rfl)
    rw [lg_entry_eq]
    generalize (lg_sl ([.ref b]) ++ List.replicate (4 - (lg_sl ([.ref b])).length) Slot.unset).toArray = ls at hl ⊢
    have hph : ps_ph s.heap.size ex (ps_X + 4) = b := by
      unfold ps_ph
      rw [if_neg (by omega), Nat.add_sub_cancel_left, q4]
    have hl : lv_has ls (ps_ml 237) (ps_lm (ps_ph s.heap.size ex) [(0, .ref (ps_X + 4))]) := by
      show lv_has ls 4 [(0, .ref (ps_ph s.heap.size ex (ps_X + 4)))]
      rw [hph]
      exact hl
    exact key.2 ls s.heap [] ⟨hl, rfl, fun k q h => by simp [ps_ws, ps_mu0, ps_n] at h, va_S.rf, fun _ _ => rfl, Nat.le_refl _, Nat.le_refl _⟩
  · rintro ⟨pc, lv, st, μ1⟩ ⟨⟨v, w, nx, b', hi⟩, hst, hn, hw⟩
    simp only at hi hst hn hw
    subst hst
    refine ⟨⟨hn, hw⟩, fun ls H locs hR => ?_⟩
    obtain ⟨hd, -⟩ := ps_smo (show ps_sm (ps_m 237) pc nx .ireturn 1 = true from ps_use ps_o237 hi)
    refine va_forget hR.2.2.2.1.2.2 ?_
    refine W.widen (k := 600000) (n := 7302250) (by show ps_n μ1 - 0 ≤ 600000; omega) (by show ps_w μ1 - 0 ≤ 7302250; omega) ?_
    exact lw_ret hx hb hr hlocks hd
