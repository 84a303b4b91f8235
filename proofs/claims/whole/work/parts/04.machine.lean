-- ===== the abstract machine: memory, frames, rules =====
/-- cells, slots; of each cell: kind and length; ints, longs, references by cell and place -/
abbrev ps_M : Type := Nat × Nat × (Nat → Nat × Nat) × (Nat → Nat → Int32) × (Nat → Nat → Int64) × (Nat → Nat → Option Nat)
/-- place, locals, stack, memory -/
abbrev ps_F : Type := Nat × List (Nat × Value) × List Value × ps_M
def ps_n (μ : ps_M) : Nat := μ.1
def ps_w (μ : ps_M) : Nat := μ.2.1
def ps_s (μ : ps_M) : Nat → Nat × Nat := μ.2.2.1
def ps_i (μ : ps_M) : Nat → Nat → Int32 := μ.2.2.2.1
def ps_l (μ : ps_M) : Nat → Nat → Int64 := μ.2.2.2.2.1
def ps_r (μ : ps_M) : Nat → Nat → Option Nat := μ.2.2.2.2.2
def ps_up {α : Type} (f : Nat → Nat → α) (k i : Nat) (v : α) : Nat → Nat → α := fun a b => if a = k ∧ b = i then v else f a b
def ps_sI (μ : ps_M) (k i : Nat) (v : Int32) : ps_M := (ps_n μ, ps_w μ, ps_s μ, ps_up (ps_i μ) k i v, ps_l μ, ps_r μ)
def ps_sL (μ : ps_M) (k i : Nat) (v : Int64) : ps_M := (ps_n μ, ps_w μ, ps_s μ, ps_i μ, ps_up (ps_l μ) k i v, ps_r μ)
def ps_sR (μ : ps_M) (k i : Nat) (v : Option Nat) : ps_M := (ps_n μ, ps_w μ, ps_s μ, ps_i μ, ps_l μ, ps_up (ps_r μ) k i v)
/-- a stretch of one row of ints into another -/
def ps_cp (μ : ps_M) (k0 sp k1 dp n : Nat) : ps_M := (ps_n μ, ps_w μ, ps_s μ, fun a b => if a = k1 then va_cpy (ps_i μ k0) (ps_i μ k1) sp dp n b else ps_i μ a b, ps_l μ, ps_r μ)
/-- a new cell -/
def ps_nw (μ : ps_M) (kind len sz : Nat) : ps_M := (ps_n μ + 1, ps_w μ + sz, fun k => if k = ps_n μ then (kind, len) else ps_s μ k, fun k i => if k = ps_n μ then 0 else ps_i μ k i, fun k i => if k = ps_n μ then 0 else ps_l μ k i, fun k i => if k = ps_n μ then none else ps_r μ k i)
def ps_st1 (lv : List (Nat × Value)) (i : Nat) (v : Value) : List (Nat × Value) := (i, v) :: lv.filter (fun q => !(q.1 == i) && !(q.1 + 1 == i && q.2.category == 2))
def ps_st2 (lv : List (Nat × Value)) (i : Nat) (v : Value) : List (Nat × Value) := (i, v) :: lv.filter (fun q => !(q.1 == i) && (!(q.1 == i + 1) && !(q.1 + 1 == i && q.2.category == 2)))
/-- kinds of cells: 0 .. 7 objects of the classes ps_cl, 10 ints, 11 bytes, 12 .. 15 rows of objects, 99 none. Where the ones outside begin: -/
abbrev ps_X : Nat := 1000000
def ps_nf (ci : Nat) : Nat := [3, 2, 7, 12, 2, 3, 14, 23].getD ci 0
/-- slot and type of a field of an object of class ci: 0 int, 3 boolean, 1 long, 2 reference -/
def ps_fs (fid ci : Nat) : Option (Nat × Nat) := match ps_ft[fid]? with
  | some e => (e.2.2.2.2.2.2.find? (fun q => q.1 == ci)).map (fun q => (q.2.1, q.2.2.1))
  | none => none
def ps_cs (cid ci : Nat) : Option Nat := match ps_ct[cid]? with
  | some e => (e.2.2.2.2.2.2.find? (fun q => q.1 == ci)).map (fun q => q.2.1)
  | none => none
def ps_ca (cid : Nat) : Nat := match ps_ct[cid]? with
  | some e => e.2.2.2.1
  | none => 0
/-- in which cells an object of a kind may be put: rows of Row, Text, Voyage, Ship -/
def ps_el (kind : Nat) : Nat := match kind with
  | 12 => 1
  | 13 => 4
  | 14 => 5
  | _ => 3
section PSR
variable (X : Nat → Nat × (Nat → Int32)) (Cl : Nat → List Value → ps_M → Option Value → ps_M → Prop) (j : Nat) (P : ps_F → Prop)
def ru_0 : Prop := ∀ pc v w nx b lv st μ, ps_ins j pc = some (0, v, w, nx, b) → P (nx, lv, .int v :: st, μ) → P (pc, lv, st, μ)
def ru_1 : Prop := ∀ pc v w nx b lv st μ, ps_ins j pc = some (1, v, w, nx, b) → P (nx, lv, .long w :: st, μ) → P (pc, lv, st, μ)
def ru_2 : Prop := ∀ pc v w nx b lv st μ (x : Int32), ps_ins j pc = some (2, v, w, nx, b) → lv.lookup b = some (.int x) → P (nx, lv, .int x :: st, μ) → P (pc, lv, st, μ)
def ru_3 : Prop := ∀ pc v w nx b lv st μ (x : Int64), ps_ins j pc = some (3, v, w, nx, b) → lv.lookup b = some (.long x) → P (nx, lv, .long x :: st, μ) → P (pc, lv, st, μ)
def ru_4 : Prop := ∀ pc v w nx b lv st μ x, ps_ins j pc = some (4, v, w, nx, b) → lv.lookup b = some (.ref x) → P (nx, lv, .ref x :: st, μ) → P (pc, lv, st, μ)
def ru_5 : Prop := ∀ pc v w nx b lv lv' st μ (x : Int32), ps_ins j pc = some (5, v, w, nx, b) → ps_st1 lv b (.int x) = lv' → P (nx, lv', st, μ) → P (pc, lv, .int x :: st, μ)
def ru_6 : Prop := ∀ pc v w nx b lv lv' st μ (x : Int64), ps_ins j pc = some (6, v, w, nx, b) → ps_st2 lv b (.long x) = lv' → P (nx, lv', st, μ) → P (pc, lv, .long x :: st, μ)
def ru_7 : Prop := ∀ pc v w nx b lv lv' st μ x, ps_ins j pc = some (7, v, w, nx, b) → ps_st1 lv b (.ref x) = lv' → P (nx, lv', st, μ) → P (pc, lv, .ref x :: st, μ)
def ru_8 : Prop := ∀ pc v w nx b lv lv' st μ (x : Int32), ps_ins j pc = some (8, v, w, nx, b) → lv.lookup b = some (.int x) → ps_st1 lv b (.int (x + v)) = lv' → P (nx, lv', st, μ) → P (pc, lv, st, μ)
def ru_9 : Prop := ∀ pc v w nx b lv st μ (x y : Int32), ps_ins j pc = some (9, v, w, nx, b) → P (nx, lv, .int (x + y) :: st, μ) → P (pc, lv, .int y :: .int x :: st, μ)
def ru_10 : Prop := ∀ pc v w nx b lv st μ (x y : Int32), ps_ins j pc = some (10, v, w, nx, b) → P (nx, lv, .int (x - y) :: st, μ) → P (pc, lv, .int y :: .int x :: st, μ)
def ru_11 : Prop := ∀ pc v w nx b lv st μ (x y : Int32), ps_ins j pc = some (11, v, w, nx, b) → P (nx, lv, .int (x * y) :: st, μ) → P (pc, lv, .int y :: .int x :: st, μ)
def ru_12 : Prop := ∀ pc v w nx b lv st μ (x y : Int32), ps_ins j pc = some (12, v, w, nx, b) → P (nx, lv, .int (x &&& y) :: st, μ) → P (pc, lv, .int y :: .int x :: st, μ)
def ru_13 : Prop := ∀ pc v w nx b lv st μ (x y : Int32), ps_ins j pc = some (13, v, w, nx, b) → P (nx, lv, .int (x ||| y) :: st, μ) → P (pc, lv, .int y :: .int x :: st, μ)
def ru_14 : Prop := ∀ pc v w nx b lv st μ (x y : Int32), ps_ins j pc = some (14, v, w, nx, b) → P (nx, lv, .int (x <<< (y &&& 31)) :: st, μ) → P (pc, lv, .int y :: .int x :: st, μ)
def ru_15 : Prop := ∀ pc v w nx b lv st μ (x y : Int32), ps_ins j pc = some (15, v, w, nx, b) → P (nx, lv, .int (x >>> (y &&& 31)) :: st, μ) → P (pc, lv, .int y :: .int x :: st, μ)
def ru_16 : Prop := ∀ pc v w nx b lv st μ (x y : Int32), ps_ins j pc = some (16, v, w, nx, b) → P (nx, lv, .int ((x.toUInt32 >>> (y.toUInt32 &&& Int32.toUInt32 31)).toInt32) :: st, μ) → P (pc, lv, .int y :: .int x :: st, μ)
def ru_17 : Prop := ∀ pc v w nx b lv st μ (x y : Int32), ps_ins j pc = some (17, v, w, nx, b) → ¬ y = 0 → P (nx, lv, .int (x / y) :: st, μ) → P (pc, lv, .int y :: .int x :: st, μ)
def ru_18 : Prop := ∀ pc v w nx b lv st μ (x y : Int32), ps_ins j pc = some (18, v, w, nx, b) → ¬ y = 0 → P (nx, lv, .int (x - x / y * y) :: st, μ) → P (pc, lv, .int y :: .int x :: st, μ)
def ru_19 : Prop := ∀ pc v w nx b lv st μ (x y : Int64), ps_ins j pc = some (19, v, w, nx, b) → P (nx, lv, .long (x + y) :: st, μ) → P (pc, lv, .long y :: .long x :: st, μ)
def ru_20 : Prop := ∀ pc v w nx b lv st μ (x y : Int64), ps_ins j pc = some (20, v, w, nx, b) → P (nx, lv, .long (x - y) :: st, μ) → P (pc, lv, .long y :: .long x :: st, μ)
def ru_21 : Prop := ∀ pc v w nx b lv st μ (x y : Int64), ps_ins j pc = some (21, v, w, nx, b) → P (nx, lv, .long (x * y) :: st, μ) → P (pc, lv, .long y :: .long x :: st, μ)
def ru_22 : Prop := ∀ pc v w nx b lv st μ (x y : Int64), ps_ins j pc = some (22, v, w, nx, b) → ¬ y = 0 → P (nx, lv, .long (x / y) :: st, μ) → P (pc, lv, .long y :: .long x :: st, μ)
def ru_23 : Prop := ∀ pc v w nx b lv st μ (x y : Int64), ps_ins j pc = some (23, v, w, nx, b) → ¬ y = 0 → P (nx, lv, .long (x - x / y * y) :: st, μ) → P (pc, lv, .long y :: .long x :: st, μ)
def ru_24 : Prop := ∀ pc v w nx b lv st μ (x y : Int64), ps_ins j pc = some (24, v, w, nx, b) → P (nx, lv, .int (lg_cmp x y) :: st, μ) → P (pc, lv, .long y :: .long x :: st, μ)
def ru_25 : Prop := ∀ pc v w nx b lv st μ (x : Int32), ps_ins j pc = some (25, v, w, nx, b) → P (nx, lv, .long (Int32.toInt64 x) :: st, μ) → P (pc, lv, .int x :: st, μ)
def ru_26 : Prop := ∀ pc v w nx b lv st μ (x : Int64), ps_ins j pc = some (26, v, w, nx, b) → P (nx, lv, .int (Int64.toInt32 x) :: st, μ) → P (pc, lv, .long x :: st, μ)
def ru_27 : Prop := ∀ pc v w nx b lv st μ (x : Int32), ps_ins j pc = some (27, v, w, nx, b) → P (nx, lv, .int (Int32.toInt8 x).toInt32 :: st, μ) → P (pc, lv, .int x :: st, μ)
def ru_28 : Prop := ∀ pc v w nx b lv st μ (x : Value), ps_ins j pc = some (28, v, w, nx, b) → x.category = 1 → P (nx, lv, x :: x :: st, μ) → P (pc, lv, x :: st, μ)
def ru_29 : Prop := ∀ pc v w nx b lv st μ (x y : Value), ps_ins j pc = some (29, v, w, nx, b) → x.category = 1 → y.category = 1 → P (nx, lv, x :: y :: x :: y :: st, μ) → P (pc, lv, x :: y :: st, μ)
def ru_30 : Prop := ∀ pc v w nx b lv st μ (x : Int32), ps_ins j pc = some (30, v, w, nx, b) → (x = 0 → P (b, lv, st, μ)) → (¬ x = 0 → P (nx, lv, st, μ)) → P (pc, lv, .int x :: st, μ)
def ru_31 : Prop := ∀ pc v w nx b lv st μ (x : Int32), ps_ins j pc = some (31, v, w, nx, b) → (¬ x = 0 → P (b, lv, st, μ)) → (x = 0 → P (nx, lv, st, μ)) → P (pc, lv, .int x :: st, μ)
def ru_32 : Prop := ∀ pc v w nx b lv st μ (x : Int32), ps_ins j pc = some (32, v, w, nx, b) → (x < 0 → P (b, lv, st, μ)) → (¬ x < 0 → P (nx, lv, st, μ)) → P (pc, lv, .int x :: st, μ)
def ru_33 : Prop := ∀ pc v w nx b lv st μ (x : Int32), ps_ins j pc = some (33, v, w, nx, b) → (0 ≤ x → P (b, lv, st, μ)) → (¬ 0 ≤ x → P (nx, lv, st, μ)) → P (pc, lv, .int x :: st, μ)
def ru_34 : Prop := ∀ pc v w nx b lv st μ (x : Int32), ps_ins j pc = some (34, v, w, nx, b) → (0 < x → P (b, lv, st, μ)) → (¬ 0 < x → P (nx, lv, st, μ)) → P (pc, lv, .int x :: st, μ)
def ru_35 : Prop := ∀ pc v w nx b lv st μ (x : Int32), ps_ins j pc = some (35, v, w, nx, b) → (x ≤ 0 → P (b, lv, st, μ)) → (¬ x ≤ 0 → P (nx, lv, st, μ)) → P (pc, lv, .int x :: st, μ)
def ru_36 : Prop := ∀ pc v w nx b lv st μ (x y : Int32), ps_ins j pc = some (36, v, w, nx, b) → (x = y → P (b, lv, st, μ)) → (¬ x = y → P (nx, lv, st, μ)) → P (pc, lv, .int y :: .int x :: st, μ)
def ru_37 : Prop := ∀ pc v w nx b lv st μ (x y : Int32), ps_ins j pc = some (37, v, w, nx, b) → (¬ x = y → P (b, lv, st, μ)) → (x = y → P (nx, lv, st, μ)) → P (pc, lv, .int y :: .int x :: st, μ)
def ru_38 : Prop := ∀ pc v w nx b lv st μ (x y : Int32), ps_ins j pc = some (38, v, w, nx, b) → (x < y → P (b, lv, st, μ)) → (¬ x < y → P (nx, lv, st, μ)) → P (pc, lv, .int y :: .int x :: st, μ)
def ru_39 : Prop := ∀ pc v w nx b lv st μ (x y : Int32), ps_ins j pc = some (39, v, w, nx, b) → (y ≤ x → P (b, lv, st, μ)) → (¬ y ≤ x → P (nx, lv, st, μ)) → P (pc, lv, .int y :: .int x :: st, μ)
def ru_40 : Prop := ∀ pc v w nx b lv st μ (x y : Int32), ps_ins j pc = some (40, v, w, nx, b) → (y < x → P (b, lv, st, μ)) → (¬ y < x → P (nx, lv, st, μ)) → P (pc, lv, .int y :: .int x :: st, μ)
def ru_41 : Prop := ∀ pc v w nx b lv st μ (x y : Int32), ps_ins j pc = some (41, v, w, nx, b) → (x ≤ y → P (b, lv, st, μ)) → (¬ x ≤ y → P (nx, lv, st, μ)) → P (pc, lv, .int y :: .int x :: st, μ)
def ru_42 : Prop := ∀ pc v w nx b lv st μ, ps_ins j pc = some (42, v, w, nx, b) → P (nx, lv, st, μ) → P (pc, lv, st, μ)
def ru_43 : Prop := ∀ pc v w nx b lv st μ x, ps_ins j pc = some (43, v, w, nx, b) → P (b, lv, st, μ) → P (pc, lv, .ref x :: st, μ)
def ru_44 : Prop := ∀ pc v w nx b lv st μ (x : Int32) e, ps_ins j pc = some (44, v, w, nx, b) → ps_sw[b]? = some e → (x.toInt < e.1 ∨ e.2.1 < x.toInt → P (e.2.2.1, lv, st, μ)) → (∀ (k t : Nat), e.2.2.2[k]? = some t → x.toInt = e.1 + k → P (t, lv, st, μ)) → P (pc, lv, .int x :: st, μ)
def ru_45i : Prop := ∀ pc v w nx b lv st μ k ci z sl tc, ps_ins j pc = some (45, v, w, nx, b) → ps_s μ k = (ci, z) → ps_fs b ci = some (sl, tc) → (tc = 0 ∨ tc = 3) → P (nx, lv, .int (ps_i μ k sl) :: st, μ) → P (pc, lv, .ref k :: st, μ)
def ru_45l : Prop := ∀ pc v w nx b lv st μ k ci z sl, ps_ins j pc = some (45, v, w, nx, b) → ps_s μ k = (ci, z) → ps_fs b ci = some (sl, 1) → P (nx, lv, .long (ps_l μ k sl) :: st, μ) → P (pc, lv, .ref k :: st, μ)
def ru_45r : Prop := ∀ pc v w nx b lv st μ k ci z sl, ps_ins j pc = some (45, v, w, nx, b) → ps_s μ k = (ci, z) → ps_fs b ci = some (sl, 2) → P (nx, lv, va_rf (ps_r μ k sl) :: st, μ) → P (pc, lv, .ref k :: st, μ)
def ru_46i : Prop := ∀ pc v w nx b lv st μ k ci z sl tc (x : Int32), ps_ins j pc = some (46, v, w, nx, b) → ps_s μ k = (ci, z) → ps_fs b ci = some (sl, tc) → (tc = 0 ∨ tc = 3 ∧ (x = 0 ∨ x = 1)) → P (nx, lv, st, ps_sI μ k sl x) → P (pc, lv, .int x :: .ref k :: st, μ)
def ru_46l : Prop := ∀ pc v w nx b lv st μ k ci z sl (x : Int64), ps_ins j pc = some (46, v, w, nx, b) → ps_s μ k = (ci, z) → ps_fs b ci = some (sl, 1) → P (nx, lv, st, ps_sL μ k sl x) → P (pc, lv, .long x :: .ref k :: st, μ)
def ru_46r : Prop := ∀ pc v w nx b lv st μ k ci z sl x, ps_ins j pc = some (46, v, w, nx, b) → ps_s μ k = (ci, z) → ps_fs b ci = some (sl, 2) → P (nx, lv, st, ps_sR μ k sl (some x)) → P (pc, lv, .ref x :: .ref k :: st, μ)
def ru_47 : Prop := ∀ pc v w nx b lv st μ, ps_ins j pc = some (47, v, w, nx, b) → P (nx, lv, .ref (ps_X + v.toNatClampNeg) :: st, μ) → P (pc, lv, st, μ)
def ru_48 : Prop := ∀ pc v w nx b lv st μ k n (i : Int32), ps_ins j pc = some (48, v, w, nx, b) → ps_s μ k = (10, n) → vp_in i n → P (nx, lv, .int (ps_i μ k i.toNatClampNeg) :: st, μ) → P (pc, lv, .int i :: .ref k :: st, μ)
def ru_48x : Prop := ∀ pc v w nx b lv st μ t (i : Int32), ps_ins j pc = some (48, v, w, nx, b) → t < 5 → vp_in i (X t).1 → P (nx, lv, .int ((X t).2 i.toNatClampNeg) :: st, μ) → P (pc, lv, .int i :: .ref (ps_X + t) :: st, μ)
def ru_49 : Prop := ∀ pc v w nx b lv st μ k n (i x : Int32), ps_ins j pc = some (49, v, w, nx, b) → ps_s μ k = (10, n) → vp_in i n → P (nx, lv, st, ps_sI μ k i.toNatClampNeg x) → P (pc, lv, .int x :: .int i :: .ref k :: st, μ)
def ru_50 : Prop := ∀ pc v w nx b lv st μ k n (i : Int32), ps_ins j pc = some (50, v, w, nx, b) → ps_s μ k = (11, n) → vp_in i n → P (nx, lv, .int (ps_i μ k i.toNatClampNeg) :: st, μ) → P (pc, lv, .int i :: .ref k :: st, μ)
def ru_51 : Prop := ∀ pc v w nx b lv st μ k n (i x : Int32), ps_ins j pc = some (51, v, w, nx, b) → ps_s μ k = (11, n) → vp_in i n → P (nx, lv, st, ps_sI μ k i.toNatClampNeg (vp_nar .byte x)) → P (pc, lv, .int x :: .int i :: .ref k :: st, μ)
def ru_52 : Prop := ∀ pc v w nx b lv st μ k kd n (i : Int32), ps_ins j pc = some (52, v, w, nx, b) → ps_s μ k = (kd, n) → 12 ≤ kd → kd < 16 → vp_in i n → P (nx, lv, va_rf (ps_r μ k i.toNatClampNeg) :: st, μ) → P (pc, lv, .int i :: .ref k :: st, μ)
def ru_53 : Prop := ∀ pc v w nx b lv st μ k kd n (i : Int32) x z, ps_ins j pc = some (53, v, w, nx, b) → ps_s μ k = (kd, n) → 12 ≤ kd → kd < 16 → vp_in i n → ps_s μ x = (ps_el kd, z) → P (nx, lv, st, ps_sR μ k i.toNatClampNeg (some x)) → P (pc, lv, .ref x :: .int i :: .ref k :: st, μ)
def ru_54 : Prop := ∀ pc v w nx b lv st μ k kd n, ps_ins j pc = some (54, v, w, nx, b) → ps_s μ k = (kd, n) → 10 ≤ kd → kd < 16 → P (nx, lv, .int (Int32.ofNat n) :: st, μ) → P (pc, lv, .ref k :: st, μ)
def ru_54x : Prop := ∀ pc v w nx b lv st μ t, ps_ins j pc = some (54, v, w, nx, b) → t < 5 → P (nx, lv, .int (Int32.ofNat (X t).1) :: st, μ) → P (pc, lv, .ref (ps_X + t) :: st, μ)
def ru_55 : Prop := ∀ pc v w nx b lv st μ as rest cj r μ', ps_ins j pc = some (55, v, w, nx, b) → ps_cs b 0 = some cj → st = as.reverse ++ rest → as.length = ps_ca b → (rest.map fun v => v.category).sum ≤ 8 → Cl cj as μ r μ' → P (nx, lv, r.toList ++ rest, μ') → P (pc, lv, st, μ)
def ru_56 : Prop := ∀ pc v w nx b lv st μ k as rest cj μ', ps_ins j pc = some (56, v, w, nx, b) → ps_cs b 0 = some cj → st = as.reverse ++ .ref k :: rest → as.length = ps_ca b → (rest.map fun v => v.category).sum ≤ 8 → Cl cj (.ref k :: as) μ none μ' → P (nx, lv, rest, μ') → P (pc, lv, st, μ)
def ru_57 : Prop := ∀ pc v w nx b lv st μ k ci z as rest cj r μ', ps_ins j pc = some (57, v, w, nx, b) → ps_s μ k = (ci, z) → ci < 8 → ps_cs b ci = some cj → st = as.reverse ++ .ref k :: rest → as.length = ps_ca b → (rest.map fun v => v.category).sum ≤ 8 → Cl cj (.ref k :: as) μ r μ' → P (nx, lv, r.toList ++ rest, μ') → P (pc, lv, st, μ)
def ru_58 : Prop := ∀ pc v w nx b lv st μ (n : Int32) (N : Nat), ps_ins j pc = some (58, v, w, nx, b) → ¬ n < 0 → n.toNatClampNeg = N → N ≤ 3000 → P (nx, lv, .ref (ps_n μ) :: st, ps_nw μ v.toNatClampNeg N N) → P (pc, lv, .int n :: st, μ)
def ru_59 : Prop := ∀ pc v w nx b lv st μ (n : Int32) (N : Nat), ps_ins j pc = some (59, v, w, nx, b) → ¬ n < 0 → n.toNatClampNeg = N → N ≤ 3000 → P (nx, lv, .ref (ps_n μ) :: st, ps_nw μ v.toNatClampNeg N N) → P (pc, lv, .int n :: st, μ)
def ru_60 : Prop := ∀ pc v w nx b lv st μ, ps_ins j pc = some (60, v, w, nx, b) → P (nx, lv, .ref (ps_n μ) :: st, ps_nw μ v.toNatClampNeg 0 (ps_nf v.toNatClampNeg)) → P (pc, lv, st, μ)
def ru_61 : Prop := ∀ pc v w nx b lv st μ k, ps_ins j pc = some (61, v, w, nx, b) → (st.map fun v => v.category).sum ≤ 8 → P (nx, lv, st, μ) → P (pc, lv, .ref k :: st, μ)
def ru_62 : Prop := ∀ pc v w nx b lv st μ k0 k1 n0 n1 (sp dp n : Int32), ps_ins j pc = some (62, v, w, nx, b) → ps_s μ k0 = (10, n0) → ps_s μ k1 = (10, n1) → ¬ sp < 0 → ¬ dp < 0 → ¬ n < 0 → sp.toNatClampNeg + n.toNatClampNeg ≤ n0 → dp.toNatClampNeg + n.toNatClampNeg ≤ n1 → (st.map fun v => v.category).sum ≤ 8 → P (nx, lv, st, ps_cp μ k0 sp.toNatClampNeg k1 dp.toNatClampNeg n.toNatClampNeg) → P (pc, lv, .int n :: .int dp :: .ref k1 :: .int sp :: .ref k0 :: st, μ)
def ru_66 : Prop := ∀ pc v w nx b lv st μ (x y : Int32), ps_ins j pc = some (66, v, w, nx, b) → (st.map fun v => v.category).sum ≤ 8 → P (nx, lv, .int (if x < y then y else x) :: st, μ) → P (pc, lv, .int y :: .int x :: st, μ)
def ru_67 : Prop := ∀ pc v w nx b lv st μ (x y : Int32), ps_ins j pc = some (67, v, w, nx, b) → (st.map fun v => v.category).sum ≤ 8 → P (nx, lv, .int (if y < x then y else x) :: st, μ) → P (pc, lv, .int y :: .int x :: st, μ)
/-- closed under the rules -/
def ps_Cl : Prop := ru_0 j P ∧ ru_1 j P ∧ ru_2 j P ∧ ru_3 j P ∧ ru_4 j P ∧ ru_5 j P ∧ ru_6 j P ∧ ru_7 j P ∧ ru_8 j P ∧ ru_9 j P ∧ ru_10 j P ∧ ru_11 j P ∧ ru_12 j P ∧ ru_13 j P ∧ ru_14 j P ∧ ru_15 j P ∧ ru_16 j P ∧ ru_17 j P ∧ ru_18 j P ∧ ru_19 j P ∧ ru_20 j P ∧ ru_21 j P ∧ ru_22 j P ∧ ru_23 j P ∧ ru_24 j P ∧ ru_25 j P ∧ ru_26 j P ∧ ru_27 j P ∧ ru_28 j P ∧ ru_29 j P ∧ ru_30 j P ∧ ru_31 j P ∧ ru_32 j P ∧ ru_33 j P ∧ ru_34 j P ∧ ru_35 j P ∧ ru_36 j P ∧ ru_37 j P ∧ ru_38 j P ∧ ru_39 j P ∧ ru_40 j P ∧ ru_41 j P ∧ ru_42 j P ∧ ru_43 j P ∧ ru_44 j P ∧ ru_45i j P ∧ ru_45l j P ∧ ru_45r j P ∧ ru_46i j P ∧ ru_46l j P ∧ ru_46r j P ∧ ru_47 j P ∧ ru_48 j P ∧ ru_48x X j P ∧ ru_49 j P ∧ ru_50 j P ∧ ru_51 j P ∧ ru_52 j P ∧ ru_53 j P ∧ ru_54 j P ∧ ru_54x X j P ∧ ru_55 Cl j P ∧ ru_56 Cl j P ∧ ru_57 Cl j P ∧ ru_58 j P ∧ ru_59 j P ∧ ru_60 j P ∧ ru_61 j P ∧ ru_62 j P ∧ ru_66 j P ∧ ru_67 j P
end PSR
/-- from a frame, by the rules, to one of K -/
def ps_To (X : Nat → Nat × (Nat → Int32)) (Cl : Nat → List Value → ps_M → Option Value → ps_M → Prop) (j : Nat) (K : ps_F → Prop) (f : ps_F) : Prop := ∀ P : ps_F → Prop, ps_Cl X Cl j P → (∀ g, K g → P g) → P f
/-- at a return -/
def ps_rt (j : Nat) (r : Option Value) (μ' : ps_M) (f : ps_F) : Prop := f.2.2.2 = μ' ∧
  ((∃ v w nx b x, ps_ins j f.1 = some (63, v, w, nx, b) ∧ f.2.2.1 = [.int x] ∧ r = some (.int x) ∧ ((ps_m j).2.2.2.2.2.1 = some .int ∨ (ps_m j).2.2.2.2.2.1 = some .boolean ∧ (x = 0 ∨ x = 1))) ∨
   (∃ v w nx b x, ps_ins j f.1 = some (64, v, w, nx, b) ∧ f.2.2.1 = [.long x] ∧ r = some (.long x)) ∨
   (∃ v w nx b, ps_ins j f.1 = some (65, v, w, nx, b) ∧ f.2.2.1 = [] ∧ r = none))
/-- a call, at most d deep -/
def ps_Ev (X : Nat → Nat × (Nat → Int32)) : Nat → Nat → List Value → ps_M → Option Value → ps_M → Prop
  | 0 => fun _ _ _ _ _ => False
  | d + 1 => fun j as μ r μ' => (as.map fun v => v.category).sum ≤ (ps_m j).2.2.2.2.1 ∧ ps_To X (ps_Ev X d) j (ps_rt j r μ') (0, lv_args 0 as, [], μ)
