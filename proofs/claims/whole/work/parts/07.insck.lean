-- ===== each instruction of the tables against the bytes =====
theorem ps_blt {a b : Nat} (h : ¬ a < b) : Nat.blt a b = false := by
  rw [Bool.eq_false_iff]
  intro e
  exact h (by simpa [Nat.blt_eq] using e)
abbrev ps_Mt : Type := Nat × String × String × ByteArray × Nat × Option FieldType × Nat
def ps_sm (m : ps_Mt) (pc nx : Nat) (i : Instr) (len : Nat) : Bool := decide (decode m.2.2.2.1 pc = .ok (i, len)) && decide (nx = pc + len)
def ps_k0 (m : ps_Mt) (pc : Nat) (v : Int32) (nx b : Nat) : Bool := match decode m.2.2.2.1 pc with
  | .ok (.iconst n, 1) => decide (Int32.ofInt n = v) && decide (nx = pc + 1)
  | .ok (.bipush n, 2) => decide ((Int8.ofInt n).toInt32 = v) && decide (nx = pc + 2)
  | .ok (.sipush n, 3) => decide ((Int16.ofInt n).toInt32 = v) && decide (nx = pc + 3)
  | .ok (.ldc idx, 2) => ps_wd b (.constant (ps_own m.1) idx v) && decide (nx = pc + 2)
  | .ok (.ldc_w idx, 3) => ps_wd b (.constant (ps_own m.1) idx v) && decide (nx = pc + 3)
  | _ => false
def ps_k1 (m : ps_Mt) (pc : Nat) (w : Int64) (nx b : Nat) : Bool := match decode m.2.2.2.1 pc with
  | .ok (.lconst n, 1) => decide (Int64.ofNat (n : Nat) = w) && decide (nx = pc + 1)
  | .ok (.ldc2_w idx, 3) => ps_wd b (.constantLong (ps_own m.1) idx w) && decide (nx = pc + 3)
  | _ => false
def ps_k2 (m : ps_Mt) (pc nx b : Nat) : Bool := (match decode m.2.2.2.1 pc with
  | .ok (.iload_n k, 1) => decide ((k : Nat) = b) && decide (nx = pc + 1)
  | .ok (.iload i, 2) => decide (i = b) && decide (nx = pc + 2)
  | _ => false)
def ps_k3 (m : ps_Mt) (pc nx b : Nat) : Bool := (match decode m.2.2.2.1 pc with
  | .ok (.lload_n k, 1) => decide ((k : Nat) = b) && decide (nx = pc + 1)
  | .ok (.lload i, 2) => decide (i = b) && decide (nx = pc + 2)
  | _ => false)
def ps_k4 (m : ps_Mt) (pc nx b : Nat) : Bool := (match decode m.2.2.2.1 pc with
  | .ok (.aload_n k, 1) => decide ((k : Nat) = b) && decide (nx = pc + 1)
  | .ok (.aload i, 2) => decide (i = b) && decide (nx = pc + 2)
  | _ => false)
def ps_k5 (m : ps_Mt) (pc nx b : Nat) : Bool := (match decode m.2.2.2.1 pc with
  | .ok (.istore_n k, 1) => decide ((k : Nat) = b) && decide (nx = pc + 1)
  | .ok (.istore i, 2) => decide (i = b) && decide (nx = pc + 2)
  | _ => false) && decide (b < m.2.2.2.2.1)
def ps_k6 (m : ps_Mt) (pc nx b : Nat) : Bool := (match decode m.2.2.2.1 pc with
  | .ok (.lstore_n k, 1) => decide ((k : Nat) = b) && decide (nx = pc + 1)
  | .ok (.lstore i, 2) => decide (i = b) && decide (nx = pc + 2)
  | _ => false) && decide (b + 1 < m.2.2.2.2.1)
def ps_k7 (m : ps_Mt) (pc nx b : Nat) : Bool := (match decode m.2.2.2.1 pc with
  | .ok (.astore_n k, 1) => decide ((k : Nat) = b) && decide (nx = pc + 1)
  | .ok (.astore i, 2) => decide (i = b) && decide (nx = pc + 2)
  | _ => false) && decide (b < m.2.2.2.2.1)
def ps_k8 (m : ps_Mt) (pc : Nat) (v : Int32) (nx b : Nat) : Bool := (match decode m.2.2.2.1 pc with
  | .ok (.iinc i n, 3) => decide (i = b) && (decide (Int32.ofInt n = v) && decide (nx = pc + 3))
  | _ => false) && decide (b < m.2.2.2.2.1)
def ps_k30 (m : ps_Mt) (pc nx b : Nat) : Bool := match decode m.2.2.2.1 pc with
  | .ok (.ifCond .eq off, 3) => decide ((pc : Int) + off = (b : Int)) && decide (nx = pc + 3)
  | _ => false
def ps_k36 (m : ps_Mt) (pc nx b : Nat) : Bool := match decode m.2.2.2.1 pc with
  | .ok (.if_icmp .eq off, 3) => decide ((pc : Int) + off = (b : Int)) && decide (nx = pc + 3)
  | _ => false
def ps_k31 (m : ps_Mt) (pc nx b : Nat) : Bool := match decode m.2.2.2.1 pc with
  | .ok (.ifCond .ne off, 3) => decide ((pc : Int) + off = (b : Int)) && decide (nx = pc + 3)
  | _ => false
def ps_k37 (m : ps_Mt) (pc nx b : Nat) : Bool := match decode m.2.2.2.1 pc with
  | .ok (.if_icmp .ne off, 3) => decide ((pc : Int) + off = (b : Int)) && decide (nx = pc + 3)
  | _ => false
def ps_k32 (m : ps_Mt) (pc nx b : Nat) : Bool := match decode m.2.2.2.1 pc with
  | .ok (.ifCond .lt off, 3) => decide ((pc : Int) + off = (b : Int)) && decide (nx = pc + 3)
  | _ => false
def ps_k38 (m : ps_Mt) (pc nx b : Nat) : Bool := match decode m.2.2.2.1 pc with
  | .ok (.if_icmp .lt off, 3) => decide ((pc : Int) + off = (b : Int)) && decide (nx = pc + 3)
  | _ => false
def ps_k33 (m : ps_Mt) (pc nx b : Nat) : Bool := match decode m.2.2.2.1 pc with
  | .ok (.ifCond .ge off, 3) => decide ((pc : Int) + off = (b : Int)) && decide (nx = pc + 3)
  | _ => false
def ps_k39 (m : ps_Mt) (pc nx b : Nat) : Bool := match decode m.2.2.2.1 pc with
  | .ok (.if_icmp .ge off, 3) => decide ((pc : Int) + off = (b : Int)) && decide (nx = pc + 3)
  | _ => false
def ps_k34 (m : ps_Mt) (pc nx b : Nat) : Bool := match decode m.2.2.2.1 pc with
  | .ok (.ifCond .gt off, 3) => decide ((pc : Int) + off = (b : Int)) && decide (nx = pc + 3)
  | _ => false
def ps_k40 (m : ps_Mt) (pc nx b : Nat) : Bool := match decode m.2.2.2.1 pc with
  | .ok (.if_icmp .gt off, 3) => decide ((pc : Int) + off = (b : Int)) && decide (nx = pc + 3)
  | _ => false
def ps_k35 (m : ps_Mt) (pc nx b : Nat) : Bool := match decode m.2.2.2.1 pc with
  | .ok (.ifCond .le off, 3) => decide ((pc : Int) + off = (b : Int)) && decide (nx = pc + 3)
  | _ => false
def ps_k41 (m : ps_Mt) (pc nx b : Nat) : Bool := match decode m.2.2.2.1 pc with
  | .ok (.if_icmp .le off, 3) => decide ((pc : Int) + off = (b : Int)) && decide (nx = pc + 3)
  | _ => false
def ps_k42 (m : ps_Mt) (pc nx : Nat) : Bool := match decode m.2.2.2.1 pc with
  | .ok (.goto off, 3) => decide ((pc : Int) + off = (nx : Int))
  | _ => false
def ps_k43 (m : ps_Mt) (pc nx b : Nat) : Bool := match decode m.2.2.2.1 pc with
  | .ok (.ifnonnull off, 3) => decide ((pc : Int) + off = (b : Int)) && decide (nx = pc + 3)
  | _ => false
def ps_k44 (m : ps_Mt) (pc b : Nat) : Bool := match decode m.2.2.2.1 pc, ps_sw[b]? with
  | .ok (.tableswitch df lo hi offs, _), some e => decide (lo = e.1) && (decide (hi = e.2.1) && (decide ((pc : Int) + df = (e.2.2.1 : Int)) && (decide (offs.toList.map (fun o => (pc : Int) + o) = e.2.2.2.map (fun (t : Nat) => (t : Int))) && decide (hi = lo + (e.2.2.2.length : Int) - 1))))
  | _, _ => false
def ps_k45 (m : ps_Mt) (pc nx b : Nat) : Bool := match decode m.2.2.2.1 pc, ps_ft[b]? with
  | .ok (.getfield idx, 3), some e => decide (nx = pc + 3) && (decide (e.1 = m.1) && decide (e.2.1 = idx))
  | _, _ => false
def ps_k46 (m : ps_Mt) (pc nx b : Nat) : Bool := match decode m.2.2.2.1 pc, ps_ft[b]? with
  | .ok (.putfield idx, 3), some e => decide (nx = pc + 3) && (decide (e.1 = m.1) && (decide (e.2.1 = idx) && e.2.2.2.2.2.2.all (fun q => match ps_cl[q.1]? with
    | some r => decide ((r.2.1 q.2.1).2.2.2 = false) || (decide (m.2.1 = "<init>") && decide ((r.2.1 q.2.1).1 = ps_own m.1))
    | none => false)))
  | _, _ => false
def ps_stn (v : Nat) : String := ["LETTERS", "PUMPS", "COSTS", "CHOKES"].getD v ""
def ps_k47 (m : ps_Mt) (pc : Nat) (v : Int32) (w : Int64) (nx b : Nat) : Bool := match decode m.2.2.2.1 pc with
  | .ok (.getstatic idx, 3) => decide (nx = pc + 3) && (decide (v.toNatClampNeg < 4) && (if w = 0 then ps_wd b (.fieldLink (ps_own m.1) idx "PumpSpells" (ps_stn v.toNatClampNeg) "[I") else ps_wd b (.fieldLinkNest (ps_own m.1) idx "PumpSpells" (ps_stn v.toNatClampNeg) "[I" "PumpSpells")))
  | _ => false
def ps_k55 (m : ps_Mt) (pc nx b : Nat) : Bool := match decode m.2.2.2.1 pc, ps_ct[b]? with
  | .ok (.invokestatic idx, 3), some e => decide (nx = pc + 3) && (decide (e.1 < 2) && (decide (e.2.1 = m.1) && decide (e.2.2.1 = idx)))
  | _, _ => false
def ps_k56 (m : ps_Mt) (pc nx b : Nat) : Bool := match decode m.2.2.2.1 pc, ps_ct[b]? with
  | .ok (.invokespecial idx, 3), some e => decide (nx = pc + 3) && (decide (e.1 = 2 ∨ e.1 = 3) && (decide (e.2.1 = m.1) && decide (e.2.2.1 = idx)))
  | _, _ => false
def ps_k57 (m : ps_Mt) (pc nx b : Nat) : Bool := match decode m.2.2.2.1 pc, ps_ct[b]? with
  | .ok (.invokevirtual idx, 3), some e => decide (nx = pc + 3) && (decide (e.1 = 4 ∨ e.1 = 5 ∨ e.1 = 6) && (decide (e.2.1 = m.1) && decide (e.2.2.1 = idx)))
  | _, _ => false
def ps_k58 (m : ps_Mt) (pc : Nat) (v : Int32) (nx : Nat) : Bool := match decode m.2.2.2.1 pc with
  | .ok (.newarray .int, 2) => decide (v = 10) && decide (nx = pc + 2)
  | .ok (.newarray .byte, 2) => decide (v = 11) && decide (nx = pc + 2)
  | _ => false
def ps_k59 (m : ps_Mt) (pc : Nat) (v : Int32) (nx b : Nat) : Bool := match decode m.2.2.2.1 pc with
  | .ok (.anewarray idx, 3) => decide (nx = pc + 3) && (decide (12 ≤ v.toNatClampNeg) && (decide (v.toNatClampNeg < 16) && ps_wd b (.classLink (ps_own m.1) idx (ps_own (ps_el v.toNatClampNeg)))))
  | _ => false
def ps_k60 (m : ps_Mt) (pc : Nat) (v : Int32) (nx b : Nat) : Bool := match decode m.2.2.2.1 pc with
  | .ok (.new idx, 3) => decide (nx = pc + 3) && (decide (v.toNatClampNeg < 8) && ps_wd b (.classLink (ps_own m.1) idx (ps_own v.toNatClampNeg)))
  | _ => false
def ps_k61 (m : ps_Mt) (pc nx b : Nat) : Bool := match decode m.2.2.2.1 pc, ps_ct[b]? with
  | .ok (.invokespecial idx, 3), some e => decide (nx = pc + 3) && (decide (e.1 = 7) && (decide (e.2.1 = m.1) && (decide (e.2.2.1 = idx) && decide (e.2.2.2.2.2.2 ≠ []))))
  | _, _ => false
def ps_k62 (m : ps_Mt) (pc nx b : Nat) : Bool := match decode m.2.2.2.1 pc, ps_ct[b]? with
  | .ok (.invokestatic idx, 3), some e => decide (nx = pc + 3) && (decide (e.1 = 8) && (decide (e.2.1 = m.1) && (decide (e.2.2.1 = idx) && decide (e.2.2.2.2.2.2 ≠ []))))
  | _, _ => false
def ps_k66 (m : ps_Mt) (pc nx b : Nat) (y : MethodName) : Bool := match decode m.2.2.2.1 pc with
  | .ok (.invokestatic idx, 3) => decide (nx = pc + 3) && ps_wd b (.methodLink (ps_own m.1) idx y)
  | _ => false
theorem ps_mx : Cond.code Lib.Math.max.name Lib.Math.max.code 2 (some .int) ∈ lw_tbl := List.mem_of_getElem? (i := 331) (by decide +kernel)
theorem ps_mn : Cond.code Lib.Math.min.name Lib.Math.min.code 2 (some .int) ∈ lw_tbl := List.mem_of_getElem? (i := 328) (by decide +kernel)
theorem ps_mxs : Cond.static Lib.Math.max.name ∈ lw_tbl := List.mem_of_getElem? (i := 330) (by decide +kernel)
theorem ps_mns : Cond.static Lib.Math.min.name ∈ lw_tbl := List.mem_of_getElem? (i := 327) (by decide +kernel)
theorem ps_mi : Cond.initialized "java/lang/Math" ∈ lw_tbl := List.mem_of_getElem? (i := 76) (by decide +kernel)
def ps_cko (op : Nat) (m : ps_Mt) (pc : Nat) (v : Int32) (w : Int64) (nx b : Nat) : Bool := match op with
  | 0 => ps_k0 m pc v nx b
  | 1 => ps_k1 m pc w nx b
  | 2 => ps_k2 m pc nx b
  | 3 => ps_k3 m pc nx b
  | 4 => ps_k4 m pc nx b
  | 5 => ps_k5 m pc nx b
  | 6 => ps_k6 m pc nx b
  | 7 => ps_k7 m pc nx b
  | 8 => ps_k8 m pc v nx b
  | 9 => ps_sm m pc nx .iadd 1
  | 10 => ps_sm m pc nx .isub 1
  | 11 => ps_sm m pc nx .imul 1
  | 12 => ps_sm m pc nx .iand 1
  | 13 => ps_sm m pc nx .ior 1
  | 14 => ps_sm m pc nx .ishl 1
  | 15 => ps_sm m pc nx .ishr 1
  | 16 => ps_sm m pc nx .iushr 1
  | 17 => ps_sm m pc nx .idiv 1
  | 18 => ps_sm m pc nx .irem 1
  | 19 => ps_sm m pc nx .ladd 1
  | 20 => ps_sm m pc nx .lsub 1
  | 21 => ps_sm m pc nx .lmul 1
  | 22 => ps_sm m pc nx .ldiv 1
  | 23 => ps_sm m pc nx .lrem 1
  | 24 => ps_sm m pc nx .lcmp 1
  | 25 => ps_sm m pc nx .i2l 1
  | 26 => ps_sm m pc nx .l2i 1
  | 27 => ps_sm m pc nx .i2b 1
  | 28 => ps_sm m pc nx .dup 1
  | 29 => ps_sm m pc nx .dup2 1
  | 30 => ps_k30 m pc nx b
  | 31 => ps_k31 m pc nx b
  | 32 => ps_k32 m pc nx b
  | 33 => ps_k33 m pc nx b
  | 34 => ps_k34 m pc nx b
  | 35 => ps_k35 m pc nx b
  | 36 => ps_k36 m pc nx b
  | 37 => ps_k37 m pc nx b
  | 38 => ps_k38 m pc nx b
  | 39 => ps_k39 m pc nx b
  | 40 => ps_k40 m pc nx b
  | 41 => ps_k41 m pc nx b
  | 42 => ps_k42 m pc nx
  | 43 => ps_k43 m pc nx b
  | 44 => ps_k44 m pc b
  | 45 => ps_k45 m pc nx b
  | 46 => ps_k46 m pc nx b
  | 47 => ps_k47 m pc v w nx b
  | 48 => ps_sm m pc nx .iaload 1
  | 49 => ps_sm m pc nx .iastore 1
  | 50 => ps_sm m pc nx .baload 1
  | 51 => ps_sm m pc nx .bastore 1
  | 52 => ps_sm m pc nx .aaload 1
  | 53 => ps_sm m pc nx .aastore 1
  | 54 => ps_sm m pc nx .arraylength 1
  | 55 => ps_k55 m pc nx b
  | 56 => ps_k56 m pc nx b
  | 57 => ps_k57 m pc nx b
  | 58 => ps_k58 m pc v nx
  | 59 => ps_k59 m pc v nx b
  | 60 => ps_k60 m pc v nx b
  | 61 => ps_k61 m pc nx b
  | 62 => ps_k62 m pc nx b
  | 63 => ps_sm m pc nx .ireturn 1
  | 64 => ps_sm m pc nx .lreturn 1 && decide (m.2.2.2.2.2.1 = some .long)
  | 65 => ps_sm m pc nx .return_ 1 && decide (m.2.2.2.2.2.1 = none)
  | 66 => ps_k66 m pc nx b Lib.Math.max.name
  | 67 => ps_k66 m pc nx b Lib.Math.min.name
  | _ => false
def ps_ck (j pc : Nat) : Bool := match ps_ins j pc with
  | some (op, v, w, nx, b) => ps_cko op (ps_m j) pc v w nx b
  | none => true
