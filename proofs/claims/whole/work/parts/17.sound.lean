-- ===== the abstract machine is sound =====
theorem ps_slen (φ : Nat → Nat) : ∀ (as : List Value), (lg_sl (as.map (ps_cv φ))).length = (as.map fun v => v.category).sum
  | [] => rfl
  | v :: as => by
    have ih := ps_slen φ as
    unfold lg_sl at ih ⊢
    rw [List.map_cons, List.flatMap_cons, List.length_append, ih, List.map_cons, List.sum_cons, ps_cv_cat]
    congr 1
    rcases lv_cat v with h | h <;> rw [h] <;> rfl
section SND
variable {p : Program} {l : Launch} {e : Env} {R : Room} {s : State} {m : MethodId} {args : Array Value} {below : List Frame} {meth : Method} {c : Code} {Q : State → Prop}
variable {base : Nat} {ex : Nat → Nat} {cA dC : Nat → ClassId} {dI : Nat → Nat → Nat} {X : Nat → Nat × (Nat → Int32)} {j n0 w0 nF wF d : Nat}
theorem ps_clo (hx : p.tables.exec = Jvm.exec) (hb : c.code = ps_by j) (hok : ∀ pc, ps_ck j pc = true) (hml : c.maxLocals = ps_ml j) (hown : s.vm.findClass (ps_own (ps_m j).1) = some m.cls) (hnm : (ps_m j).2.1 = "<init>" → meth.name = "<init>") (hTB : ps_TB s) (hK : va_K (dC, dI) ps_cl (ps_tys cA) s) (hE : ps_E base ex X s s.heap) (hnF : nF ≤ ps_X) (hs0 : s.heap.size = base + n0) (hRf : d + 1 ≤ R.frames) (hRl : 40 * (d + 1) ≤ R.locals) (hRc : R.cells = nF - n0) (hRs : R.slots = wF - w0) (hD : ps_MetD l base ex cA dC dI X d) : ps_Cl X (ps_Ev X d) j (ps_PW p l e R s m args below meth c Q base ex cA dC dI j n0 w0 nF wF) := by
  have hRf1 : 1 ≤ R.frames := by omega
  have hRl1 : 40 ≤ R.locals := by omega
  exact ⟨pw_0 hx hb hok hown hTB, pw_1 hx hb hok hown hTB, pw_2 hx hb hok, pw_3 hx hb hok, pw_4 hx hb hok, pw_5 hx hb hok, pw_6 hx hb hok, pw_7 hx hb hok, pw_8 hx hb hok, pw_9 hx hb hok, pw_10 hx hb hok, pw_11 hx hb hok, pw_12 hx hb hok, pw_13 hx hb hok, pw_14 hx hb hok, pw_15 hx hb hok, pw_16 hx hb hok, pw_17 hx hb hok, pw_18 hx hb hok, pw_19 hx hb hok, pw_20 hx hb hok, pw_21 hx hb hok, pw_22 hx hb hok, pw_23 hx hb hok, pw_24 hx hb hok, pw_25 hx hb hok, pw_26 hx hb hok, pw_27 hx hb hok, pw_28 hx hb hok, pw_29 hx hb hok, pw_30 hx hb hok, pw_31 hx hb hok, pw_32 hx hb hok, pw_33 hx hb hok, pw_34 hx hb hok, pw_35 hx hb hok, pw_36 hx hb hok, pw_37 hx hb hok, pw_38 hx hb hok, pw_39 hx hb hok, pw_40 hx hb hok, pw_41 hx hb hok, pw_42 hx hb hok, pw_43 hx hb hok, pw_44 hx hb hok, pw_45i hx hb hok hown hTB hK, pw_45l hx hb hok hown hTB hK, pw_45r hx hb hok hown hTB hK, pw_46i hx hb hok hown hTB hK hnm hnF hs0, pw_46l hx hb hok hown hTB hK hnm hnF hs0, pw_46r hx hb hok hown hTB hK hnm hnF hs0, pw_47 hx hb hok hown hTB hE, pw_48 hx hb hok hK, pw_48x hx hb hok hE, pw_49 hx hb hok hK hnF hs0, pw_50 hx hb hok hK, pw_51 hx hb hok hK hnF hs0, pw_52 hx hb hok hK, pw_53 hx hb hok hK hnF hs0, pw_54 hx hb hok hK, pw_54x hx hb hok hE, pw_55 hx hb hok hown hTB hml hK hE hnF hs0 hRf hRl hRc hRs hD, pw_56 hx hb hok hown hTB hml hK hE hnF hs0 hRf hRl hRc hRs hD, pw_57 hx hb hok hown hTB hml hK hE hnF hs0 hRf hRl hRc hRs hD, pw_58 hx hb hok hown hTB hK hnF hs0 hRc hRs, pw_59 hx hb hok hown hTB hK hnF hs0 hRc hRs, pw_60 hx hb hok hown hTB hK hnF hs0 hRc hRs, pw_61 hx hb hok hown hTB hml hRf1 hRl1, pw_62 hx hb hok hown hTB hml hK hnF hs0 hRf1 hRl1, pw_66 hx hb hok hown hTB hml hRf1 hRl1 hRc hRs, pw_67 hx hb hok hown hTB hml hRf1 hRl1 hRc hRs⟩
end SND
theorem ps_sound (l : Launch) (base : Nat) (ex : Nat → Nat) (cA : Nat → ClassId) (dC : Nat → ClassId) (dI : Nat → Nat → Nat) (X : Nat → Nat × (Nat → Int32)) : ∀ d, ps_MetD l base ex cA dC dI X d
  | 0 => fun _ _ _ _ _ _ h _ => h.elim
  | d + 1 => by
    intro cj as μ r μ' hv hEv hnX
    have hmo := ps_mono X (d + 1) _ _ _ _ _ hEv
    refine Met.ofW (cc := ps_by cj) (maxL := ps_ml cj) (ret := ps_rty cj) (ps_plain hv).1 rfl ?_
    intro p e s m args below meth c s₁ B hml hP
    obtain ⟨rfl, hsz, hPw, hK, hTB, hE, h9⟩ := hP
    have hown : s.vm.findClass (ps_own (ps_m cj).1) = some m.cls := findClass_of_methodNamed B.named
    have hnm : (ps_m cj).2.1 = "<init>" → meth.name = "<init>" := fun h => (name_of_methodNamed B.named B.method).1.trans h
    have hlocks := B.notSynchronized
    have hr := B.returns
    have hcl := ps_clo (R := ps_rm (d + 1) μ μ') (Q := MQ below (ps_Qc base ex cA dC dI X r μ') (as.map (ps_cv (ps_ph base ex))).toArray s (ps_n μ' - ps_n μ) (ps_w μ' - ps_w μ) (fun q => base ≤ q)) (args := (as.map (ps_cv (ps_ph base ex))).toArray) (below := below) (wF := ps_w μ') (w0 := ps_w μ) (e := e) B.exec B.bytes (ps_all hv).1 hml hown hnm hTB hK hE hnX hsz (Nat.le_refl (d + 1)) (Nat.le_refl (40 * (d + 1))) rfl rfl (ps_sound l base ex cA dC dI X d)
    have key := hEv.2 _ hcl ?_
    · have hl := lv_entry (as.map (ps_cv (ps_ph base ex))) (n := ps_ml cj) (by rw [ps_slen]; exact hEv.1)
      rw [ps_lm_args] at hl
      have k2 := key.2 _ s.heap [] ⟨hl, hsz, hPw, va_S.rf, h9, Nat.le_refl _, Nat.le_refl _⟩
      rw [lg_entry_eq]
      simp only [Nat.sub_self] at k2
      exact k2
    · rintro ⟨pc, lv, st, μ1⟩ ⟨hμ, hret⟩
      have hμ : μ1 = μ' := hμ
      subst hμ
      refine ⟨⟨Nat.le_refl _, Nat.le_refl _⟩, fun ls H locs hR => ?_⟩
      obtain ⟨hl, hz, hP1, hS1, h91, -, -⟩ := hR
      simp only at hl hz hP1 hS1 h91
      have hq : ∀ t : State, t.heap = H → s.WarmedH t.vm → ps_Wd base ex cA dC dI X μ1 t ∧ va_F (fun q => base ≤ q) s t := by
        intro t ht hW
        exact ⟨⟨by rw [ht]; exact hz, by rw [ht]; exact hP1, va_K.moved hW.alike hK, ps_TB.warm hW hTB, by rw [ht]; exact (hE.moved hW.alike).kept hS1.2.1, h91⟩, hS1.F ht⟩
      rcases hret with ⟨v, w, nx, b, x, hi, hst, hr0, hty⟩ | ⟨v, w, nx, b, x, hi, hst, hr0⟩ | ⟨v, w, nx, b, hi, hst, hr0⟩
      · simp only at hi hst
        subst hst
        subst hr0
        obtain ⟨hd, -⟩ := ps_smo (show ps_sm (ps_m cj) pc nx .ireturn 1 = true from ps_use (ps_all hv).1 hi)
        rcases hty with hty | ⟨hty, hx01⟩
        · exact W.zret (ty := .int) B.exec B.bytes (hr.trans hty) rfl (fun t ht hW => ⟨rfl, hq t ht hW⟩) hS1.2.2 hd hlocks
        · exact W.zret (ty := .boolean) B.exec B.bytes (hr.trans hty) (by rcases hx01 with rfl | rfl <;> decide) (fun t ht hW => ⟨rfl, hq t ht hW⟩) hS1.2.2 hd hlocks
      · simp only at hi hst
        subst hst
        subst hr0
        have hk : (ps_sm (ps_m cj) pc nx .lreturn 1 && decide ((ps_m cj).2.2.2.2.2.1 = some .long)) = true := ps_use (ps_all hv).1 hi
        simp only [Bool.and_eq_true, decide_eq_true_eq] at hk
        obtain ⟨hd, -⟩ := ps_smo hk.1
        exact W.lret B.exec B.bytes (hr.trans hk.2) (fun t ht hW => ⟨rfl, hq t ht hW⟩) hS1.2.2 hd hlocks
      · simp only at hi hst
        subst hst
        subst hr0
        have hk : (ps_sm (ps_m cj) pc nx .return_ 1 && decide ((ps_m cj).2.2.2.2.2.1 = none)) = true := ps_use (ps_all hv).1 hi
        simp only [Bool.and_eq_true, decide_eq_true_eq] at hk
        obtain ⟨hd, -⟩ := ps_smo hk.1
        exact W.vret B.exec B.bytes (hr.trans hk.2) (fun t ht hW => ⟨rfl, hq t ht hW⟩) hS1.2.2 hd hlocks
