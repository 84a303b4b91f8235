-- ===== the tables checked against the code and the words =====
def ps_wd (i : Nat) (w : Cond) : Bool := decide (lw_tbl[i]? = some w)
theorem ps_wd_in {i : Nat} {w : Cond} (h : ps_wd i w = true) : w ∈ lw_tbl := List.mem_of_getElem? (of_decide_eq_true h)
def ps_own (c : Nat) : String := ps_cn.getD c ""
def ps_y (j : Nat) : MethodName := ⟨ps_own (ps_m j).1, (ps_m j).2.1, (ps_m j).2.2.1⟩
def ps_by (j : Nat) : ByteArray := (ps_m j).2.2.2.1
def ps_ml (j : Nat) : Nat := (ps_m j).2.2.2.2.1
def ps_rty (j : Nat) : Option FieldType := (ps_m j).2.2.2.2.2.1
def ps_sz (j : Nat) : Nat := (ps_m j).2.2.2.2.2.2
/-- type of a field: 0 int, 3 boolean, 1 long, 2 reference -/
def ps_dt (d : String) : Nat := if d = "I" then 0 else if d = "Z" then 3 else if d = "J" then 1 else 2
def ps_tc (ci sl : Nat) : Nat := match ps_cl[ci]? with
  | some q => ps_dt (q.2.1 sl).2.2.1
  | none => 0
def ps_fchk (e : Nat × Nat × String × String × String × Nat × List (Nat × Nat × Nat × Nat)) : Bool :=
  ps_wd e.2.2.2.2.2.1 (.fieldLink (ps_own e.1) e.2.1 e.2.2.1 e.2.2.2.1 e.2.2.2.2.1) && e.2.2.2.2.2.2.all (fun q => match ps_cl[q.1]? with
    | some r => decide (q.2.1 < r.2.2) && (decide ((r.2.1 q.2.1).2.1 = e.2.2.2.1) && (decide ((r.2.1 q.2.1).2.2.1 = e.2.2.2.2.1) && ((decide ((r.2.1 q.2.1).1 = e.2.2.1) || ps_wd q.2.2.2 (.sameField e.2.2.1 (r.2.1 q.2.1).1 e.2.2.2.1 e.2.2.2.2.1)) && decide (ps_tc q.1 q.2.1 = q.2.2.1))))
    | none => false)
theorem ps_ft_ok : ps_ft.all ps_fchk = true := by decide +kernel
/-- the name of a callee, its code's word -/
def ps_yk (cj n p : Nat) : Bool := decide ((ps_y cj).cls ≠ "java/lang/invoke/MethodHandle") && (decide ((ps_y cj).cls ≠ "java/lang/invoke/VarHandle") && (decide ((parseMethodDescriptor (ps_y cj).desc).map (fun d => d.parameters.length) = some n) && decide (cj < 237)))
def ps_c1chk (kd : Nat) (own : String) (idx n : Nat) (x : MethodName) (host : String) (q : Nat × Nat × List Nat) : Bool :=
  let p : Nat → Nat := fun i => q.2.2.getD i 0
  let y := ps_y q.2.1
  if kd = 0 then ps_yk q.2.1 n (p 3) && (ps_wd (p 0) (.methodLink own idx y) && (ps_wd (p 1) (.static y) && ps_wd (p 2) (.initialized y.cls)))
  else if kd = 1 then ps_yk q.2.1 n (p 3) && (ps_wd (p 0) (.methodLinkNest own idx y host) && (ps_wd (p 1) (.static y) && ps_wd (p 2) (.initialized y.cls)))
  else if kd = 2 then ps_yk q.2.1 n (p 3) && (ps_wd (p 0) (.methodLink own idx y) && (ps_wd (p 1) (.instanceMethod y) && (ps_wd (p 2) (.initialized y.cls) && (decide (y.name = "<init>") && decide (ps_rty q.2.1 = none)))))
  else if kd = 3 then ps_yk q.2.1 n (p 3) && (ps_wd (p 0) (.methodLinkNest own idx y host) && (ps_wd (p 1) (.instanceMethod y) && (ps_wd (p 2) (.initialized y.cls) && (decide (y.name = "<init>") && decide (ps_rty q.2.1 = none)))))
  else if kd = 4 then ps_yk q.2.1 n (p 4) && (ps_wd (p 0) (.methodLink own idx y) && (ps_wd (p 1) (.instanceMethod y) && (ps_wd (p 2) (.selects y.cls y y) && (ps_wd (p 3) (.initialized y.cls) && decide ((ps_cl[q.1]?).map (fun r => r.1) = some y.cls)))))
  else if kd = 5 then ps_yk q.2.1 n (p 5) && (ps_wd (p 0) (.methodLink own idx x) && (ps_wd (p 1) (.sameMethod x.cls "PumpSpells$Strip" x.name x.desc) && (ps_wd (p 2) (.selects (ps_own q.1) x y) && (ps_wd (p 3) (.instanceMethod y) && (ps_wd (p 4) (.initialized y.cls) && (decide (y = ⟨"PumpSpells$Strip", x.name, x.desc⟩) && (decide ((ps_cl[q.1]?).map (fun r => r.1) = some (ps_own q.1)) && decide ((parseMethodDescriptor x.desc).map (fun d => d.parameters.length) = some n))))))))
  else if kd = 6 then ps_yk q.2.1 n (p 5) && (ps_wd (p 0) (.methodLink own idx x) && (ps_wd (p 1) (.sameMethod x.cls "PumpSpells$Strip" x.name x.desc) && (ps_wd (p 2) (.selects (ps_own q.1) x y) && (ps_wd (p 3) (.instanceMethod y) && (ps_wd (p 4) (.initialized y.cls) && (ps_wd (p 6) (.declares ⟨"PumpSpells$Strip", x.name, x.desc⟩) && (decide ((ps_cl[q.1]?).map (fun r => r.1) = some (ps_own q.1)) && decide ((parseMethodDescriptor x.desc).map (fun d => d.parameters.length) = some n))))))))
  else if kd = 7 then ps_wd (p 0) (.methodLink own idx Lib.objectInit) && (ps_wd (p 1) (.instanceMethod Lib.objectInit) && ps_wd (p 2) (.code Lib.objectInit ⟨#[0xb1]⟩ 1 none))
  else if kd = 8 then ps_wd (p 0) (.methodLink own idx arraycopyName) && (ps_wd (p 1) (.native arraycopyName) && (ps_wd (p 2) (.static arraycopyName) && ps_wd (p 3) (.initialized "java/lang/System")))
  else false
def ps_cchk (e : Nat × Nat × Nat × Nat × MethodName × String × List (Nat × Nat × List Nat)) : Bool := e.2.2.2.2.2.2.all (ps_c1chk e.1 (ps_own e.2.1) e.2.2.1 e.2.2.2.1 e.2.2.2.2.1 e.2.2.2.2.2.1)
theorem ps_allD {α : Type} {l : List α} {f : α → Bool} (n : Nat) (h1 : (l.take n).all f = true) (h2 : (l.drop n).all f = true) : l.all f = true := by
  rw [← List.take_append_drop n l, List.all_append, h1, h2]
  rfl
theorem ps_ct_k0 : ((ps_ct.drop 0).take 35).all ps_cchk = true := by decide +kernel
theorem ps_ct_k1 : ((ps_ct.drop 35).take 35).all ps_cchk = true := by decide +kernel
theorem ps_ct_k2 : ((ps_ct.drop 70).take 35).all ps_cchk = true := by decide +kernel
theorem ps_ct_k3 : ((ps_ct.drop 105).take 35).all ps_cchk = true := by decide +kernel
theorem ps_ct_k4 : ((ps_ct.drop 140).take 35).all ps_cchk = true := by decide +kernel
theorem ps_ct_k5 : ((ps_ct.drop 175).take 35).all ps_cchk = true := by decide +kernel
theorem ps_ct_k6 : ((ps_ct.drop 210).take 35).all ps_cchk = true := by decide +kernel
theorem ps_ct_k7 : ((ps_ct.drop 245).take 55).all ps_cchk = true := by decide +kernel
theorem ps_ct_ok : ps_ct.all ps_cchk = true := by
  have e : ps_ct = ps_ct.drop 0 := rfl
  rw [e]
  refine ps_allD 35 ps_ct_k0 ?_
  rw [List.drop_drop]
  refine ps_allD 35 ps_ct_k1 ?_
  rw [List.drop_drop]
  refine ps_allD 35 ps_ct_k2 ?_
  rw [List.drop_drop]
  refine ps_allD 35 ps_ct_k3 ?_
  rw [List.drop_drop]
  refine ps_allD 35 ps_ct_k4 ?_
  rw [List.drop_drop]
  refine ps_allD 35 ps_ct_k5 ?_
  rw [List.drop_drop]
  refine ps_allD 35 ps_ct_k6 ?_
  rw [List.drop_drop]
  refine ps_allD 55 ps_ct_k7 ?_
  rw [List.drop_drop]
  show (ps_ct.drop 300).all ps_cchk = true
  decide +kernel
/-- words that hold on when tables warm -/
def ps_kp (w : Cond) : Bool := match w with
  | .laysStatic .. => false
  | .privateMethod _ => false
  | _ => true
def ps_warm (w : Cond) : Bool := goodWord w || match w with
  | .fieldLinkNest .. => true
  | .methodLinkNest .. => true
  | .declares _ => true
  | .arrayOver (.object _) => true
  | _ => false
def ps_T : List Cond := lw_tbl.filter ps_kp
theorem ps_in {w : Cond} (h : w ∈ lw_tbl) (hk : ps_kp w = true) : w ∈ ps_T := List.mem_filter.mpr ⟨h, hk⟩
theorem ps_inw {i : Nat} {w : Cond} (h : ps_wd i w = true) (hk : ps_kp w = true) : w ∈ ps_T := ps_in (ps_wd_in h) hk
theorem ps_warm_ok : lw_tbl.all (fun w => !ps_kp w || ps_warm w) = true := by decide +kernel
theorem ps_u0 : ∀ w ∈ u_ws RX0 TX0 3, w ∈ ps_T := fun w h => ps_in ((by decide +kernel : ∀ w ∈ u_ws RX0 TX0 3, w ∈ lw_tbl) w h) ((by decide +kernel : ∀ w ∈ u_ws RX0 TX0 3, ps_kp w = true) w h)
theorem ps_u1 : ∀ w ∈ u_ws RX1 TX1 2, w ∈ ps_T := fun w h => ps_in ((by decide +kernel : ∀ w ∈ u_ws RX1 TX1 2, w ∈ lw_tbl) w h) ((by decide +kernel : ∀ w ∈ u_ws RX1 TX1 2, ps_kp w = true) w h)
theorem ps_u2 : ∀ w ∈ u_ws RX2 TX2 7, w ∈ ps_T := fun w h => ps_in ((by decide +kernel : ∀ w ∈ u_ws RX2 TX2 7, w ∈ lw_tbl) w h) ((by decide +kernel : ∀ w ∈ u_ws RX2 TX2 7, ps_kp w = true) w h)
theorem ps_u3 : ∀ w ∈ u_ws RX3 TX3 12, w ∈ ps_T := fun w h => ps_in ((by decide +kernel : ∀ w ∈ u_ws RX3 TX3 12, w ∈ lw_tbl) w h) ((by decide +kernel : ∀ w ∈ u_ws RX3 TX3 12, ps_kp w = true) w h)
theorem ps_u4 : ∀ w ∈ u_ws RX5 TX5 2, w ∈ ps_T := fun w h => ps_in ((by decide +kernel : ∀ w ∈ u_ws RX5 TX5 2, w ∈ lw_tbl) w h) ((by decide +kernel : ∀ w ∈ u_ws RX5 TX5 2, ps_kp w = true) w h)
theorem ps_u5 : ∀ w ∈ u_ws RX6 TX6 3, w ∈ ps_T := fun w h => ps_in ((by decide +kernel : ∀ w ∈ u_ws RX6 TX6 3, w ∈ lw_tbl) w h) ((by decide +kernel : ∀ w ∈ u_ws RX6 TX6 3, ps_kp w = true) w h)
theorem ps_u6 : ∀ w ∈ u_ws RX7 TX7 14, w ∈ ps_T := fun w h => ps_in ((by decide +kernel : ∀ w ∈ u_ws RX7 TX7 14, w ∈ lw_tbl) w h) ((by decide +kernel : ∀ w ∈ u_ws RX7 TX7 14, ps_kp w = true) w h)
theorem ps_u7 : ∀ w ∈ u_ws RX8 TX8 23, w ∈ ps_T := fun w h => ps_in ((by decide +kernel : ∀ w ∈ u_ws RX8 TX8 23, w ∈ lw_tbl) w h) ((by decide +kernel : ∀ w ∈ u_ws RX8 TX8 23, ps_kp w = true) w h)
