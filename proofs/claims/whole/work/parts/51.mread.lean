-- ===== the model's reader =====
def RD (μ : ps_M) (m F p E : Nat) (ρ γ : Nat → Int32) : ps_M := ps_wI μ (fun a i => if a = m ∧ i = 14 then nI F else if a = m ∧ i = 15 then nI p else if a = m ∧ i = 16 then nI E else if a = m ∧ 17 ≤ i ∧ i ≤ 22 then ρ i else if a = m + 8 ∧ i < 12 then γ i else ps_i μ a i)
section ERD
variable {X : Nat → Nat × (Nat → Int32)} {Cl : Nat → List Value → ps_M → Option Value → ps_M → Prop} {j : Nat} {K : ps_F → Prop} {pc : Nat} {v : Int32} {w : Int64} {nx b : Nat} {lv : List (Nat × Value)} {st : List Value} {μ : ps_M} {m F p E : Nat} {ρ γ : Nat → Int32}
theorem RD_14 : ps_i (RD μ m F p E ρ γ) m 14 = nI F := if_pos ⟨rfl, rfl⟩
theorem RD_15 : ps_i (RD μ m F p E ρ γ) m 15 = nI p := (if_neg (by omega)).trans (if_pos ⟨rfl, rfl⟩)
theorem RD_16 : ps_i (RD μ m F p E ρ γ) m 16 = nI E := (if_neg (by omega)).trans ((if_neg (by omega)).trans (if_pos ⟨rfl, rfl⟩))
theorem RD_r {i : Nat} (h : 17 ≤ i) (h2 : i ≤ 22) : ps_i (RD μ m F p E ρ γ) m i = ρ i := (if_neg (by omega)).trans ((if_neg (by omega)).trans ((if_neg (by omega)).trans (if_pos ⟨rfl, h, h2⟩)))
theorem RD_8 {i : Nat} (h : i < 12) : ps_i (RD μ m F p E ρ γ) (m + 8) i = γ i := (if_neg (by omega)).trans ((if_neg (by omega)).trans ((if_neg (by omega)).trans ((if_neg (by omega)).trans (if_pos ⟨rfl, h⟩))))
theorem RD_off {a i : Nat} (h : a ≠ m ∧ a ≠ m + 8 ∨ a = m ∧ i < 14) : ps_i (RD μ m F p E ρ γ) a i = ps_i μ a i := (if_neg (by omega)).trans ((if_neg (by omega)).trans ((if_neg (by omega)).trans ((if_neg (by omega)).trans (if_neg (by omega)))))
theorem RD_p15 {x : Nat} : ps_sI (RD μ m F p E ρ γ) m 15 (nI x) = RD μ m F x E ρ γ := by
  refine ps_M_ext rfl rfl rfl ?_ rfl rfl
  funext a i
  show ps_up _ m 15 (nI x) a i = _
  unfold ps_up RD
  simp only [ps_i_wI]
  by_cases h : a = m ∧ i = 15
  · rw [if_pos h, if_neg (by omega), if_pos h]
  · rw [if_neg h, if_neg h, if_neg h]
theorem RD_pr {x : Int32} {s : Nat} (h : 17 ≤ s) (h2 : s ≤ 22) : ps_sI (RD μ m F p E ρ γ) m s x = RD μ m F p E (upd ρ s x) γ := by
  refine ps_M_ext rfl rfl rfl ?_ rfl rfl
  funext a i
  show ps_up _ m s x a i = _
  unfold ps_up RD
  simp only [ps_i_wI]
  by_cases z : a = m ∧ i = s
  · rw [if_pos z, if_neg (by omega), if_neg (by omega), if_neg (by omega), if_pos (by omega), z.2, pk_us]
  · rw [if_neg z]
    by_cases y : a = m ∧ 17 ≤ i ∧ i ≤ 22
    · rw [if_pos y, if_pos y, pk_un (fun q => z ⟨y.1, q⟩)]
    · rw [if_neg y, if_neg y]
theorem RD_p8 {x : Int32} {s : Nat} (h : s < 12) : ps_sI (RD μ m F p E ρ γ) (m + 8) s x = RD μ m F p E ρ (upd γ s x) := by
  refine ps_M_ext rfl rfl rfl ?_ rfl rfl
  funext a i
  show ps_up _ (m + 8) s x a i = _
  unfold ps_up RD
  simp only [ps_i_wI]
  by_cases z : a = m + 8 ∧ i = s
  · rw [if_pos z, if_neg (by omega), if_neg (by omega), if_neg (by omega), if_neg (by omega), if_pos (by omega), z.2, pk_us]
  · rw [if_neg z]
    by_cases y : a = m + 8 ∧ i < 12
    · rw [if_pos y, if_pos y, pk_un (fun q => z ⟨y.1, q⟩)]
    · rw [if_neg y, if_neg y]
theorem RD_init {x : Int32} : ps_sI (ps_sI (ps_sI (ps_sI μ m 14 (nI F)) m 15 (nI p)) m 16 (nI E)) m 22 x = RD μ m F p E (upd (ps_i μ m) 22 x) (ps_i μ (m + 8)) := by
  refine ps_M_ext rfl rfl rfl ?_ rfl rfl
  funext a i
  show ps_up (ps_up (ps_up (ps_up (ps_i μ) m 14 (nI F)) m 15 (nI p)) m 16 (nI E)) m 22 x a i = _
  unfold ps_up RD upd
  simp only [ps_i_wI]
  grind
theorem r_g14 (hm : isMd μ m) (h0 : ps_ins j pc = some (45, v, w, nx, b)) (h2 : ps_f2 b 7 = some (14, 0)) (h3 : ps_To X Cl j K (nx, lv, .int (nI F) :: st, RD μ m F p E ρ γ)) : ps_To X Cl j K (pc, lv, .ref m :: st, RD μ m F p E ρ γ) := e_gi h0 hm.1 h2 (by decide) (by rw [RD_14]; exact h3)
theorem r_g15 (hm : isMd μ m) (h0 : ps_ins j pc = some (45, v, w, nx, b)) (h2 : ps_f2 b 7 = some (15, 0)) (h3 : ps_To X Cl j K (nx, lv, .int (nI p) :: st, RD μ m F p E ρ γ)) : ps_To X Cl j K (pc, lv, .ref m :: st, RD μ m F p E ρ γ) := e_gi h0 hm.1 h2 (by decide) (by rw [RD_15]; exact h3)
theorem r_g16 (hm : isMd μ m) (h0 : ps_ins j pc = some (45, v, w, nx, b)) (h2 : ps_f2 b 7 = some (16, 0)) (h3 : ps_To X Cl j K (nx, lv, .int (nI E) :: st, RD μ m F p E ρ γ)) : ps_To X Cl j K (pc, lv, .ref m :: st, RD μ m F p E ρ γ) := e_gi h0 hm.1 h2 (by decide) (by rw [RD_16]; exact h3)
theorem r_gr {sl : Nat} (hm : isMd μ m) (h0 : ps_ins j pc = some (45, v, w, nx, b)) (h2 : ps_f2 b 7 = some (sl, 0)) (h17 : 17 ≤ sl) (h22 : sl ≤ 22) (h3 : ps_To X Cl j K (nx, lv, .int (ρ sl) :: st, RD μ m F p E ρ γ)) : ps_To X Cl j K (pc, lv, .ref m :: st, RD μ m F p E ρ γ) := e_gi h0 hm.1 h2 (by decide) (by rw [RD_r h17 h22]; exact h3)
theorem r_p15 {x : Int32} {p' : Nat} (hm : isMd μ m) (h0 : ps_ins j pc = some (46, v, w, nx, b)) (h2 : ps_f2 b 7 = some (15, 0)) (hx : x = nI p') (h3 : ps_To X Cl j K (nx, lv, st, RD μ m F p' E ρ γ)) : ps_To X Cl j K (pc, lv, .int x :: .ref m :: st, RD μ m F p E ρ γ) := e_pi h0 hm.1 h2 (Or.inl rfl) (by rw [hx, RD_p15]; exact h3)
theorem r_pr {sl : Nat} {x : Int32} (hm : isMd μ m) (h0 : ps_ins j pc = some (46, v, w, nx, b)) (h2 : ps_f2 b 7 = some (sl, 0)) (h17 : 17 ≤ sl) (h22 : sl ≤ 22) (h3 : ps_To X Cl j K (nx, lv, st, RD μ m F p E (upd ρ sl x) γ)) : ps_To X Cl j K (pc, lv, .int x :: .ref m :: st, RD μ m F p E ρ γ) := e_pi h0 hm.1 h2 (Or.inl rfl) (by rw [RD_pr h17 h22]; exact h3)
theorem r_l6 {i : Nat} {x : Int32} (hm : isMd μ m) (hx : x = nI i) (hi : i < 240) (h0 : ps_ins j pc = some (48, v, w, nx, b)) (h3 : ps_To X Cl j K (nx, lv, .int (ps_i μ (m + 6) i) :: st, RD μ m F p E ρ γ)) : ps_To X Cl j K (pc, lv, .int x :: .ref (m + 6) :: st, RD μ m F p E ρ γ) := e_48q h0 hm.2.2.2.2.2.2.1 hx hi (by decide) (by rw [RD_off (by omega)]; exact h3)
theorem r_l8 {i : Nat} {x : Int32} (hm : isMd μ m) (hx : x = nI i) (hi : i < 12) (h0 : ps_ins j pc = some (48, v, w, nx, b)) (h3 : ps_To X Cl j K (nx, lv, .int (γ i) :: st, RD μ m F p E ρ γ)) : ps_To X Cl j K (pc, lv, .int x :: .ref (m + 8) :: st, RD μ m F p E ρ γ) := e_48q h0 hm.2.2.2.2.2.2.2.2.1 hx hi (by decide) (by rw [RD_8 hi]; exact h3)
theorem r_s8 {i : Nat} {x y : Int32} (hm : isMd μ m) (hx : x = nI i) (hi : i < 12) (h0 : ps_ins j pc = some (49, v, w, nx, b)) (h3 : ps_To X Cl j K (nx, lv, st, RD μ m F p E ρ (upd γ i y))) : ps_To X Cl j K (pc, lv, .int y :: .int x :: .ref (m + 8) :: st, RD μ m F p E ρ γ) := e_49q h0 hm.2.2.2.2.2.2.2.2.1 hx hi (by decide) (by rw [RD_p8 hi]; exact h3)
end ERD
/-- a text's byte, 0 behind its end -/
def chF0 (b : Nat → Int32) (E p : Nat) : Int32 := if p < E then b p else 0
def skF (c : Nat → Int32) : Nat → Nat → Nat
  | 0, p => p
  | f + 1, p => if c p = 32 then skF c f (p + 1) else p
abbrev figP (c : Nat → Int32) (lo hi p : Nat) : Prop := nI (48 + lo) ≤ c p ∧ c p ≤ nI (48 + hi)
theorem ch_in {b : Nat → Int32} {E p : Nat} {v : Int32} (h : chF0 b E p = v) (hv : ¬ v = 0) : p < E := by
  refine Classical.byContradiction fun z => hv ?_
  unfold chF0 at h
  rw [if_neg z] at h
  exact h.symm
theorem fig_in {b : Nat → Int32} {E lo hi p : Nat} (h : figP (chF0 b E) lo hi p) (hl : lo ≤ 9) : p < E := by
  refine Classical.byContradiction fun z => ?_
  have h1 := h.1
  unfold chF0 at h1
  rw [if_neg z] at h1
  exact nI_nle (n := 48 + lo) (by omega) (by omega) h1
def dvF (c : Nat → Int32) (p : Nat) : Nat := (c p - 48).toNatClampNeg
theorem fig_dv {c : Nat → Int32} {lo hi p : Nat} (h : figP c lo hi p) (hl : lo ≤ 9) (hh : hi ≤ 9) : c p - 48 = nI (dvF c p) ∧ lo ≤ dvF c p ∧ dvF c p ≤ hi := by
  obtain ⟨k, h1, h2, e⟩ := rng_nat (by omega) h (by omega)
  have e2 : c p - 48 = nI (k - 48) := by rw [e]; exact pk_sub (b := 48) (by omega)
  have e3 : dvF c p = k - 48 := by unfold dvF; rw [e2, nI_clamp (by omega)]
  rw [e3]
  exact ⟨e2, by omega, by omega⟩
theorem sk_le {b : Nat → Int32} {E : Nat} : ∀ f p, p ≤ E → skF (chF0 b E) f p ≤ E
  | 0, _, h => h
  | f + 1, p, h => by
    unfold skF
    split
    · rename_i z
      exact sk_le f (p + 1) (ch_in z (by decide))
    · exact h
theorem sk_ge {c : Nat → Int32} : ∀ f p, p ≤ skF c f p
  | 0, _ => Nat.le_refl _
  | f + 1, p => by
    unfold skF
    split
    · have := sk_ge (c := c) f (p + 1); omega
    · exact Nat.le_refl _
def hlN (t : Nat) : Nat := if t = 0 then 1 else 0
def hhN (t : Nat) : Nat := if t = 4 then 0 else 9
theorem hl_9 (t : Nat) : hlN t ≤ 9 := by unfold hlN; split <;> omega
theorem hh_9 (t : Nat) : hhN t ≤ 9 := by unfold hhN; split <;> omega
def hullN (c : Nat → Int32) (q : Nat) : Nat := if ¬ c q = 119 then 0 else if ¬ figP c 0 9 (q + 1) then 1 else if ¬ figP c 0 9 (q + 2) then 2 else if ¬ figP c 1 9 (q + 3) then 3 else if ¬ figP c 0 9 (q + 4) then 4 else if ¬ figP c 0 4 (q + 5) then 5 else if ¬ figP c (hlN (dvF c (q + 5))) (hhN (dvF c (q + 5))) (q + 6) then 6 else 7
theorem nI_n9 {n : Nat} (h : n < 2 ^ 31) : ¬ nI n = -9 := fun z => by
  have := nI_pos h
  rw [z] at this
  exact this (by decide)
theorem nI_n1 {n : Nat} (h : n < 2 ^ 31) : ¬ nI n = -1 := fun z => by
  have := nI_pos h
  rw [z] at this
  exact this (by decide)
/-- gangs, one after the other -/
def gaF (c : Nat → Int32) (E : Nat) : Nat → Nat → Nat → (Nat → Int32) → (Nat → Int32) → Int32 × Nat × Nat × (Nat → Int32) × (Nat → Int32)
  | 0, p, G, ks, fs => (1, p, G, ks, fs)
  | f + 1, p, G, ks, fs => if E ≤ p then (1, p, G, ks, fs) else if letterM (c p) = -9 ∨ G = 6 then (0, p, G, ks, fs) else if ¬ figP c 1 9 (p + 1) then (0, p + 1, G, ks, fs) else gaF c E f (skF c 60 (p + 2)) (G + 1) (upd ks G (letterM (c p))) (upd fs G (nI (dvF c (p + 1))))
def z0F : Nat → Int32 := fun _ => 0
def gaR (c : Nat → Int32) (E : Nat) : Int32 × Nat × Nat × (Nat → Int32) × (Nat → Int32) := gaF c E 60 (skF c 60 (skF c 60 0 + 7)) 0 z0F z0F
def fltF (c : Nat → Int32) (E : Nat) : Int32 := if ¬ hullN c (skF c 60 0) = 7 then nI (skF c 60 0 + hullN c (skF c 60 0)) else if (gaR c E).1 = 1 ∧ 0 < (gaR c E).2.2.1 then -9 else nI (gaR c E).2.1
def gam (γ ks fs : Nat → Int32) (G : Nat) : Nat → Int32 := fun k => if k < 2 * G then (if k % 2 = 0 then ks (k / 2) else fs (k / 2)) else γ k
theorem gam_0 {γ ks fs : Nat → Int32} : gam γ ks fs 0 = γ := funext fun k => if_neg (by omega)
theorem gam_s {γ ks fs : Nat → Int32} {G : Nat} {k f : Int32} : upd (upd (gam γ ks fs G) (2 * G) k) (2 * G + 1) f = gam γ (upd ks G k) (upd fs G f) (G + 1) := by
  funext x
  by_cases h1 : x = 2 * G + 1
  · subst h1
    rw [pk_us]
    unfold gam
    rw [if_pos (by omega), if_neg (by omega), show (2 * G + 1) / 2 = G by omega, pk_us]
  · rw [pk_un h1]
    by_cases h2 : x = 2 * G
    · subst h2
      rw [pk_us]
      unfold gam
      rw [if_pos (by omega), if_pos (by omega), show 2 * G / 2 = G by omega, pk_us]
    · rw [pk_un h2]
      unfold gam
      by_cases h3 : x < 2 * G
      · have h4 : x < 2 * (G + 1) := by omega
        have h5 : x / 2 ≠ G := by omega
        simp only [if_pos h3, if_pos h4]
        rw [pk_un h5, pk_un h5]
      · rw [if_neg h3, if_neg (by omega)]
theorem ga_bd {b : Nat → Int32} {E : Nat} : ∀ f p G ks fs, p ≤ E → G ≤ 6 → (gaF (chF0 b E) E f p G ks fs).2.1 ≤ E ∧ (gaF (chF0 b E) E f p G ks fs).2.2.1 ≤ 6
  | 0, _, _, _, _, h, h2 => ⟨h, h2⟩
  | f + 1, p, G, ks, fs, h, h2 => by
    unfold gaF
    split
    · exact ⟨h, h2⟩
    · split
      · exact ⟨h, h2⟩
      · rename_i z1 z2
        split
        · exact ⟨by show p + 1 ≤ E; omega, h2⟩
        · rename_i z3
          have z3 := Classical.not_not.mp z3
          have := fig_in z3 (by omega)
          have : ¬ G = 6 := fun q => z2 (Or.inr q)
          exact ga_bd f _ _ _ _ (sk_le _ _ (by omega)) (by omega)
section MRD
variable {L : Nat} {xs : Nat → Int32} {d : Nat} {μ : ps_M} {m F p E : Nat} {ρ γ : Nat → Int32}
theorem mr_here (hm : isMd μ m) (hF : F + 60 ≤ 240) (hE : E ≤ 60) (hp : p < E) : ps_Ev (ps_XX L xs) (d + 1) j_X8_here [.ref m] (RD μ m F p E (ρ) (γ)) (some (.int ((chF0 (fun x => ps_i μ (m + 6) (F + x)) E) p))) (RD μ m F p E (ρ) (γ)) := by
  refine ⟨Nat.le_of_ble_eq_true rfl, ?_⟩
  refine e_4 rfl rfl ?_
  refine e_gr rfl hm.1 rfl hm.2.2.2.2.2.2.2.2.2.2.2.2.2.2.1 ?_
  refine e_4 rfl rfl ?_
  refine r_g14 hm rfl rfl ?_
  refine e_4 rfl rfl ?_
  refine r_g15 hm rfl rfl ?_
  refine e_9 rfl ?_
  refine r_l6 (i := (F + p)) hm (by first | rfl | (simp only [← nI_add, ← pk_mul]; rfl) | (simp only [nI_add, pk_mul, nI_1]; done)) (by omega) rfl ?_
  exact e_ri rfl rfl (by exact (if_pos hp).symm) (rfl)
theorem mr_skip_loop (hm : isMd μ m) (hF : F + 60 ≤ 240) (hE : E ≤ 60) : ∀ (f p : Nat), p ≤ E → E ≤ p + f → ps_To (ps_XX L xs) (ps_Ev (ps_XX L xs) (d + 1)) j_X8_skip (ps_rt j_X8_skip none (RD μ m F (skF (chF0 (fun x => ps_i μ (m + 6) (F + x)) E) f p) E (ρ) (γ))) (0, [(0, .ref m)], [], RD μ m F p E (ρ) (γ)) := by
  intro f
  induction f with
  | zero =>
    intro p hp hf
    obtain rfl : p = E := by omega
    refine e_4 rfl rfl ?_
    refine r_g15 hm rfl rfl ?_
    refine e_4 rfl rfl ?_
    refine r_g16 hm rfl rfl ?_
    refine e_39 rfl (fun h1 => ?_) (fun h1 => ?_)
    · exact e_rv rfl (rfl)
    · exact absurd (nI_le (Nat.le_refl _) (by omega)) h1
  | succ f ih =>
    intro p hp hf
    by_cases hpE : p = E
    · subst hpE
      have e : skF (chF0 (fun x => ps_i μ (m + 6) (F + x)) p) (f + 1) p = p := by
        unfold skF chF0
        rw [if_neg (Nat.lt_irrefl p), if_neg (by decide)]
      rw [e]
      refine e_4 rfl rfl ?_
      refine r_g15 hm rfl rfl ?_
      refine e_4 rfl rfl ?_
      refine r_g16 hm rfl rfl ?_
      refine e_39 rfl (fun h1 => ?_) (fun h1 => ?_)
      · exact e_rv rfl (rfl)
      · exact absurd (nI_le (Nat.le_refl _) (by omega)) h1
    · skip
      refine e_4 rfl rfl ?_
      refine r_g15 hm rfl rfl ?_
      refine e_4 rfl rfl ?_
      refine r_g16 hm rfl rfl ?_
      refine e_39 rfl (fun h1 => ?_) (fun h1 => ?_)
      · exact absurd h1 (nI_ge (by omega) (by omega))
      · refine e_4 rfl rfl ?_
        refine e_v0 rfl (by first | exact hm.1 | assumption | rfl) rfl (by decide) rfl (Nat.le_of_ble_eq_true rfl) (mr_here hm hF hE (by omega)) ?_
        refine e_0 rfl ?_
        refine e_37 rfl (fun h2 => ?_) (fun h2 => ?_)
        · exact e_rv rfl (by unfold skF; rw [if_neg h2])
        · refine e_4 rfl rfl ?_
          refine e_28 rfl rfl ?_
          refine r_g15 hm rfl rfl ?_
          refine e_0 rfl ?_
          refine e_9 rfl ?_
          refine r_p15 (p' := (p + 1)) hm rfl rfl (by first | rfl | (simp only [← nI_add, ← pk_mul]; rfl) | (simp only [nI_add, pk_mul, nI_1]; done)) ?_
          refine e_42 rfl ?_
          have h := ih (p + 1) (by omega) (by omega)
          unfold skF
          rw [if_pos h2]
          exact h
theorem mr_skip (hm : isMd μ m) (hF : F + 60 ≤ 240) (hE : E ≤ 60) {f : Nat} (hp : p ≤ E) (hf : E ≤ p + f) : ps_Ev (ps_XX L xs) (d + 2) j_X8_skip [.ref m] (RD μ m F p E (ρ) (γ)) none (RD μ m F (skF (chF0 (fun x => ps_i μ (m + 6) (F + x)) E) f p) E (ρ) (γ)) := ⟨Nat.le_of_ble_eq_true rfl, mr_skip_loop hm hF hE f p hp hf⟩
theorem mr_fig_ok (hm : isMd μ m) (hF : F + 60 ≤ 240) (hE : E ≤ 60) (hp : p ≤ E) {lo hi : Nat} (hlo : lo ≤ 9) (hhi : hi ≤ 9) (hh : figP (chF0 (fun x => ps_i μ (m + 6) (F + x)) E) lo hi p) : ps_Ev (ps_XX L xs) (d + 2) j_X8_figure [.ref m, .int (nI lo), .int (nI hi)] (RD μ m F p E (ρ) (γ)) (some (.int (nI (dvF (chF0 (fun x => ps_i μ (m + 6) (F + x)) E) p)))) (RD μ m F (p + 1) E (ρ) (γ)) := by
  refine ⟨Nat.le_of_ble_eq_true rfl, ?_⟩
  have hpE := fig_in hh hlo
  have hdv := fig_dv hh hlo hhi
  refine e_4 rfl rfl ?_
  refine r_g15 hm rfl rfl ?_
  refine e_4 rfl rfl ?_
  refine r_g16 hm rfl rfl ?_
  refine e_36 rfl (fun h1 => ?_) (fun h1 => ?_)
  · exact absurd ((nI_eq (by omega) (by omega)).mp h1) (by omega)
  · refine e_4 rfl rfl ?_
    refine e_v0 rfl (by first | exact hm.1 | assumption | rfl) rfl (by decide) rfl (Nat.le_of_ble_eq_true rfl) (mr_here hm hF hE (by omega)) ?_
    refine e_25 rfl ?_
    refine e_0 rfl ?_
    refine e_2 rfl rfl ?_
    refine e_9 rfl ?_
    refine e_25 rfl ?_
    refine e_0 rfl ?_
    refine e_2 rfl rfl ?_
    refine e_9 rfl ?_
    refine e_25 rfl ?_
    refine e_s3 rfl rfl rfl (Nat.le_of_ble_eq_true rfl) (sm_in _ (nI (48 + lo)) (nI (48 + hi)) (by rw [← nI_add]; rfl) (by rw [← nI_add]; rfl)) ?_
    refine e_31b rfl (fun h2 => ?_) (fun h2 => ?_)
    · refine e_4 rfl rfl ?_
      refine e_28 rfl rfl ?_
      refine r_g15 hm rfl rfl ?_
      refine e_0 rfl ?_
      refine e_9 rfl ?_
      refine r_p15 (p' := (p + 1)) hm rfl rfl (by first | rfl | (simp only [← nI_add, ← pk_mul]; rfl) | (simp only [nI_add, pk_mul, nI_1]; done)) ?_
      refine e_4 rfl rfl ?_
      refine e_gr rfl hm.1 rfl hm.2.2.2.2.2.2.2.2.2.2.2.2.2.2.1 ?_
      refine e_4 rfl rfl ?_
      refine r_g14 hm rfl rfl ?_
      refine e_4 rfl rfl ?_
      refine r_g15 hm rfl rfl ?_
      refine e_9 rfl ?_
      refine e_0 rfl ?_
      refine e_10 rfl ?_
      refine r_l6 (i := (F + p)) hm (by rw [nI_add, show F + (p + 1) = (F + p) + 1 by omega, nI_pred]) (by omega) rfl ?_
      refine e_0 rfl ?_
      refine e_10 rfl ?_
      exact e_ri rfl rfl (by rw [← hdv.1]; unfold chF0; rw [if_pos hpE]) (rfl)
    · exact absurd hh h2
theorem mr_fig_no (hm : isMd μ m) (hF : F + 60 ≤ 240) (hE : E ≤ 60) (hp : p ≤ E) {lo hi : Nat} (hlo : lo ≤ 9) (hhi : hi ≤ 9) (hh : ¬ figP (chF0 (fun x => ps_i μ (m + 6) (F + x)) E) lo hi p) : ps_Ev (ps_XX L xs) (d + 2) j_X8_figure [.ref m, .int (nI lo), .int (nI hi)] (RD μ m F p E (ρ) (γ)) (some (.int (-9))) (RD μ m F p E (ρ) (γ)) := by
  refine ⟨Nat.le_of_ble_eq_true rfl, ?_⟩
  by_cases hpE : p = E
  · subst hpE
    refine e_4 rfl rfl ?_
    refine r_g15 hm rfl rfl ?_
    refine e_4 rfl rfl ?_
    refine r_g16 hm rfl rfl ?_
    refine e_36 rfl (fun h1 => ?_) (fun h1 => ?_)
    · refine e_0 rfl ?_
      exact e_ri rfl rfl (by rfl) (rfl)
    · exact absurd rfl h1
  · skip
    refine e_4 rfl rfl ?_
    refine r_g15 hm rfl rfl ?_
    refine e_4 rfl rfl ?_
    refine r_g16 hm rfl rfl ?_
    refine e_36 rfl (fun h1 => ?_) (fun h1 => ?_)
    · exact absurd ((nI_eq (by omega) (by omega)).mp h1) hpE
    · refine e_4 rfl rfl ?_
      refine e_v0 rfl (by first | exact hm.1 | assumption | rfl) rfl (by decide) rfl (Nat.le_of_ble_eq_true rfl) (mr_here hm hF hE (by omega)) ?_
      refine e_25 rfl ?_
      refine e_0 rfl ?_
      refine e_2 rfl rfl ?_
      refine e_9 rfl ?_
      refine e_25 rfl ?_
      refine e_0 rfl ?_
      refine e_2 rfl rfl ?_
      refine e_9 rfl ?_
      refine e_25 rfl ?_
      refine e_s3 rfl rfl rfl (Nat.le_of_ble_eq_true rfl) (sm_in _ (nI (48 + lo)) (nI (48 + hi)) (by rw [← nI_add]; rfl) (by rw [← nI_add]; rfl)) ?_
      refine e_31b rfl (fun h2 => ?_) (fun h2 => ?_)
      · exact absurd h2 hh
      · refine e_0 rfl ?_
        exact e_ri rfl rfl (by rfl) (rfl)
theorem mr_hull (hm : isMd μ m) (hF : F + 60 ≤ 240) (hE : E ≤ 60) (hp : p ≤ E) {q : Nat} (eq0 : q = (skF (chF0 (fun x => ps_i μ (m + 6) (F + x)) E) 60 p)) : ∃ ρ' : Nat → Int32, ps_Ev (ps_XX L xs) (d + 3) j_X8_readsShip [.ref m] (RD μ m F p E (ρ) (γ)) (some (.int (b2i (hullN (chF0 (fun x => ps_i μ (m + 6) (F + x)) E) q = 7)))) (RD μ m F (q + hullN (chF0 (fun x => ps_i μ (m + 6) (F + x)) E) q) E (ρ') (γ)) ∧ ρ' 22 = ρ 22 ∧ (hullN (chF0 (fun x => ps_i μ (m + 6) (F + x)) E) q = 7 → ρ' 17 = 10 * (nI (dvF (chF0 (fun x => ps_i μ (m + 6) (F + x)) E) (q + 1))) + (nI (dvF (chF0 (fun x => ps_i μ (m + 6) (F + x)) E) (q + 2))) ∧ ρ' 18 = (nI (dvF (chF0 (fun x => ps_i μ (m + 6) (F + x)) E) (q + 3))) ∧ ρ' 19 = (nI (dvF (chF0 (fun x => ps_i μ (m + 6) (F + x)) E) (q + 4))) ∧ ρ' 20 = 10 * (nI (dvF (chF0 (fun x => ps_i μ (m + 6) (F + x)) E) (q + 5))) + (nI (dvF (chF0 (fun x => ps_i μ (m + 6) (F + x)) E) (q + 6)))) := by
  have hqE : q ≤ E := by rw [eq0]; exact sk_le _ _ hp
  by_cases ha : (chF0 (fun x => ps_i μ (m + 6) (F + x)) E) q = 119
  · have hlt0 := ch_in ha (by decide)
    by_cases hb : figP (chF0 (fun x => ps_i μ (m + 6) (F + x)) E) 0 9 (q + 1)
    · have hlt1 := fig_in hb (by omega)
      have hdv1 := fig_dv hb (by omega) (by omega)
      by_cases hc : figP (chF0 (fun x => ps_i μ (m + 6) (F + x)) E) 0 9 (q + 2)
      · have hlt2 := fig_in hc (by omega)
        have hdv2 := fig_dv hc (by omega) (by omega)
        by_cases hd : figP (chF0 (fun x => ps_i μ (m + 6) (F + x)) E) 1 9 (q + 3)
        · have hlt3 := fig_in hd (by omega)
          have hdv3 := fig_dv hd (by omega) (by omega)
          by_cases he : figP (chF0 (fun x => ps_i μ (m + 6) (F + x)) E) 0 9 (q + 4)
          · have hlt4 := fig_in he (by omega)
            have hdv4 := fig_dv he (by omega) (by omega)
            by_cases hf : figP (chF0 (fun x => ps_i μ (m + 6) (F + x)) E) 0 4 (q + 5)
            · have hlt5 := fig_in hf (by omega)
              have hdv5 := fig_dv hf (by omega) (by omega)
              by_cases hd0 : dvF (chF0 (fun x => ps_i μ (m + 6) (F + x)) E) (q + 5) = 0
              · skip
                have ehl : hlN (dvF (chF0 (fun x => ps_i μ (m + 6) (F + x)) E) (q + 5)) = 1 := by unfold hlN; rw [if_pos hd0]
                have ehh : hhN (dvF (chF0 (fun x => ps_i μ (m + 6) (F + x)) E) (q + 5)) = 9 := by unfold hhN; rw [hd0]; rfl
                by_cases hg : figP (chF0 (fun x => ps_i μ (m + 6) (F + x)) E) (hlN (dvF (chF0 (fun x => ps_i μ (m + 6) (F + x)) E) (q + 5))) (hhN (dvF (chF0 (fun x => ps_i μ (m + 6) (F + x)) E) (q + 5))) (q + 6)
                · have hgx := hg
                  rw [ehl, ehh] at hgx
                  have hlt6 := fig_in hgx (by omega)
                  have hdv6 := fig_dv hgx (by omega) (by omega)
                  have e : hullN (chF0 (fun x => ps_i μ (m + 6) (F + x)) E) q = 7 := by
                    unfold hullN
                    rw [if_neg (Classical.not_not.mpr ha), if_neg (Classical.not_not.mpr hb), if_neg (Classical.not_not.mpr hc), if_neg (Classical.not_not.mpr hd), if_neg (Classical.not_not.mpr he), if_neg (Classical.not_not.mpr hf), if_neg (Classical.not_not.mpr hg)]
                  rw [e]
                  refine ⟨upd (upd (upd (upd ρ 17 (10 * (nI (dvF (chF0 (fun x => ps_i μ (m + 6) (F + x)) E) (q + 1))) + (nI (dvF (chF0 (fun x => ps_i μ (m + 6) (F + x)) E) (q + 2))))) 18 (nI (dvF (chF0 (fun x => ps_i μ (m + 6) (F + x)) E) (q + 3)))) 19 (nI (dvF (chF0 (fun x => ps_i μ (m + 6) (F + x)) E) (q + 4)))) 20 (10 * (nI (dvF (chF0 (fun x => ps_i μ (m + 6) (F + x)) E) (q + 5))) + (nI (dvF (chF0 (fun x => ps_i μ (m + 6) (F + x)) E) (q + 6)))), ⟨Nat.le_of_ble_eq_true rfl, ?_⟩, ?_, ?_⟩
                  · refine e_4 rfl rfl ?_
                    refine e_v0v rfl (by first | exact hm.1 | assumption | rfl) rfl (by decide) rfl (Nat.le_of_ble_eq_true rfl) (mr_skip (f := 60) hm hF hE hp (by omega)) ?_
                    show ps_To _ _ _ _ (4, _, _, RD μ m F (skF (chF0 (fun x => ps_i μ (m + 6) (F + x)) E) 60 p) E ρ γ)
                    rw [← eq0]
                    refine e_4 rfl rfl ?_
                    refine r_g15 hm rfl rfl ?_
                    refine e_4 rfl rfl ?_
                    refine r_g16 hm rfl rfl ?_
                    refine e_36 rfl (fun h1 => ?_) (fun h1 => ?_)
                    · exact absurd ((nI_eq (by omega) (by omega)).mp h1) (by omega)
                    · refine e_4 rfl rfl ?_
                      refine e_v0 rfl (by first | exact hm.1 | assumption | rfl) rfl (by decide) rfl (Nat.le_of_ble_eq_true rfl) (mr_here hm hF hE (by omega)) ?_
                      refine e_0 rfl ?_
                      refine e_36 rfl (fun h2 => ?_) (fun h2 => ?_)
                      · refine e_4 rfl rfl ?_
                        refine e_28 rfl rfl ?_
                        refine r_g15 hm rfl rfl ?_
                        refine e_0 rfl ?_
                        refine e_9 rfl ?_
                        refine r_p15 (p' := (q + 1)) hm rfl rfl (by first | rfl | (simp only [← nI_add, ← pk_mul]; rfl) | (simp only [nI_add, pk_mul, nI_1]; done)) ?_
                        refine e_4 rfl rfl ?_
                        refine e_0 rfl ?_
                        refine e_0 rfl ?_
                        refine e_v2 rfl (by first | exact hm.1 | assumption | rfl) rfl (by decide) rfl (Nat.le_of_ble_eq_true rfl) (mr_fig_ok (p := q + 1) (lo := 0) (hi := 9) hm hF hE (by omega) (by omega) (by omega) hb) ?_
                        refine e_5 rfl rfl ?_
                        refine e_2 rfl rfl ?_
                        refine e_0 rfl ?_
                        refine e_37 rfl (fun h3 => ?_) (fun h3 => ?_)
                        · refine e_4 rfl rfl ?_
                          refine e_0 rfl ?_
                          refine e_0 rfl ?_
                          refine e_v2 rfl (by first | exact hm.1 | assumption | rfl) rfl (by decide) rfl (Nat.le_of_ble_eq_true rfl) (mr_fig_ok (p := q + 2) (lo := 0) (hi := 9) hm hF hE (by omega) (by omega) (by omega) hc) ?_
                          refine e_5 rfl rfl ?_
                          refine e_4 rfl rfl ?_
                          refine e_0 rfl ?_
                          refine e_2 rfl rfl ?_
                          refine e_11 rfl ?_
                          refine e_2 rfl rfl ?_
                          refine e_9 rfl ?_
                          refine r_pr hm rfl rfl (by decide) (by decide) ?_
                          refine e_4 rfl rfl ?_
                          refine e_2 rfl rfl ?_
                          refine e_0 rfl ?_
                          refine e_37 rfl (fun h4 => ?_) (fun h4 => ?_)
                          · refine e_4 rfl rfl ?_
                            refine e_0 rfl ?_
                            refine e_0 rfl ?_
                            refine e_v2 rfl (by first | exact hm.1 | assumption | rfl) rfl (by decide) rfl (Nat.le_of_ble_eq_true rfl) (mr_fig_ok (p := q + 3) (lo := 1) (hi := 9) hm hF hE (by omega) (by omega) (by omega) hd) ?_
                            refine r_pr hm rfl rfl (by decide) (by decide) ?_
                            refine e_4 rfl rfl ?_
                            refine e_4 rfl rfl ?_
                            refine r_gr hm rfl rfl (by decide) (by decide) ?_
                            rw [pk_us]
                            refine e_0 rfl ?_
                            refine e_37 rfl (fun h5 => ?_) (fun h5 => ?_)
                            · refine e_4 rfl rfl ?_
                              refine e_0 rfl ?_
                              refine e_0 rfl ?_
                              refine e_v2 rfl (by first | exact hm.1 | assumption | rfl) rfl (by decide) rfl (Nat.le_of_ble_eq_true rfl) (mr_fig_ok (p := q + 4) (lo := 0) (hi := 9) hm hF hE (by omega) (by omega) (by omega) he) ?_
                              refine r_pr hm rfl rfl (by decide) (by decide) ?_
                              refine e_4 rfl rfl ?_
                              refine r_gr hm rfl rfl (by decide) (by decide) ?_
                              rw [pk_us]
                              refine e_0 rfl ?_
                              refine e_37 rfl (fun h6 => ?_) (fun h6 => ?_)
                              · refine e_4 rfl rfl ?_
                                refine e_0 rfl ?_
                                refine e_0 rfl ?_
                                refine e_v2 rfl (by first | exact hm.1 | assumption | rfl) rfl (by decide) rfl (Nat.le_of_ble_eq_true rfl) (mr_fig_ok (p := q + 5) (lo := 0) (hi := 4) hm hF hE (by omega) (by omega) (by omega) hf) ?_
                                refine e_5 rfl rfl ?_
                                refine e_2 rfl rfl ?_
                                refine e_0 rfl ?_
                                refine e_37 rfl (fun h7 => ?_) (fun h7 => ?_)
                                · refine e_4 rfl rfl ?_
                                  refine e_2 rfl rfl ?_
                                  refine e_31 rfl (fun h8 => ?_) (fun h8 => ?_)
                                  · exact absurd (by rw [hd0]; rfl) h8
                                  · refine e_0 rfl ?_
                                    refine e_42 rfl ?_
                                    refine e_2 rfl rfl ?_
                                    refine e_0 rfl ?_
                                    refine e_37 rfl (fun h9 => ?_) (fun h9 => ?_)
                                    · refine e_0 rfl ?_
                                      refine e_v2 rfl (by first | exact hm.1 | assumption | rfl) rfl (by decide) rfl (Nat.le_of_ble_eq_true rfl) (mr_fig_ok (p := q + 6) (lo := 1) (hi := 9) hm hF hE (by omega) (by omega) (by omega) hgx) ?_
                                      refine e_5 rfl rfl ?_
                                      refine e_4 rfl rfl ?_
                                      refine e_0 rfl ?_
                                      refine e_2 rfl rfl ?_
                                      refine e_11 rfl ?_
                                      refine e_2 rfl rfl ?_
                                      refine e_9 rfl ?_
                                      refine r_pr hm rfl rfl (by decide) (by decide) ?_
                                      refine e_2 rfl rfl ?_
                                      refine e_0 rfl ?_
                                      refine e_36 rfl (fun h10 => ?_) (fun h10 => ?_)
                                      · exact absurd h10 (nI_n9 (by omega))
                                      · refine e_0 rfl ?_
                                        refine e_42 rfl ?_
                                        exact e_rz rfl rfl (by first | decide | exact b2i_01 | assumption) (by rfl) (rfl)
                                    · exact absurd h9 (by rw [hd0]; decide)
                                · exact absurd h7 (nI_n9 (by omega))
                              · exact absurd h6 (nI_n9 (by omega))
                            · exact absurd h5 (nI_n9 (by omega))
                          · exact absurd h4 (nI_n9 (by omega))
                        · exact absurd h3 (nI_n9 (by omega))
                      · exact absurd ha h2
                  · first | rfl | (rw [pk_un (by decide), pk_un (by decide), pk_un (by decide), pk_un (by decide)])
                  · intro _
                    refine ⟨?_, ?_, ?_, ?_⟩
                    · rw [pk_un (by decide), pk_un (by decide), pk_un (by decide), pk_us]
                    · rw [pk_un (by decide), pk_un (by decide), pk_us]
                    · rw [pk_un (by decide), pk_us]
                    · rw [pk_us]
                · have hgx := hg
                  rw [ehl, ehh] at hgx
                  have e : hullN (chF0 (fun x => ps_i μ (m + 6) (F + x)) E) q = 6 := by
                    unfold hullN
                    rw [if_neg (Classical.not_not.mpr ha), if_neg (Classical.not_not.mpr hb), if_neg (Classical.not_not.mpr hc), if_neg (Classical.not_not.mpr hd), if_neg (Classical.not_not.mpr he), if_neg (Classical.not_not.mpr hf), if_pos hg]
                  rw [e]
                  refine ⟨upd (upd (upd (upd ρ 17 (10 * (nI (dvF (chF0 (fun x => ps_i μ (m + 6) (F + x)) E) (q + 1))) + (nI (dvF (chF0 (fun x => ps_i μ (m + 6) (F + x)) E) (q + 2))))) 18 (nI (dvF (chF0 (fun x => ps_i μ (m + 6) (F + x)) E) (q + 3)))) 19 (nI (dvF (chF0 (fun x => ps_i μ (m + 6) (F + x)) E) (q + 4)))) 20 (10 * (nI (dvF (chF0 (fun x => ps_i μ (m + 6) (F + x)) E) (q + 5))) + (-9)), ⟨Nat.le_of_ble_eq_true rfl, ?_⟩, ?_, ?_⟩
                  · refine e_4 rfl rfl ?_
                    refine e_v0v rfl (by first | exact hm.1 | assumption | rfl) rfl (by decide) rfl (Nat.le_of_ble_eq_true rfl) (mr_skip (f := 60) hm hF hE hp (by omega)) ?_
                    show ps_To _ _ _ _ (4, _, _, RD μ m F (skF (chF0 (fun x => ps_i μ (m + 6) (F + x)) E) 60 p) E ρ γ)
                    rw [← eq0]
                    refine e_4 rfl rfl ?_
                    refine r_g15 hm rfl rfl ?_
                    refine e_4 rfl rfl ?_
                    refine r_g16 hm rfl rfl ?_
                    refine e_36 rfl (fun h1 => ?_) (fun h1 => ?_)
                    · exact absurd ((nI_eq (by omega) (by omega)).mp h1) (by omega)
                    · refine e_4 rfl rfl ?_
                      refine e_v0 rfl (by first | exact hm.1 | assumption | rfl) rfl (by decide) rfl (Nat.le_of_ble_eq_true rfl) (mr_here hm hF hE (by omega)) ?_
                      refine e_0 rfl ?_
                      refine e_36 rfl (fun h2 => ?_) (fun h2 => ?_)
                      · refine e_4 rfl rfl ?_
                        refine e_28 rfl rfl ?_
                        refine r_g15 hm rfl rfl ?_
                        refine e_0 rfl ?_
                        refine e_9 rfl ?_
                        refine r_p15 (p' := (q + 1)) hm rfl rfl (by first | rfl | (simp only [← nI_add, ← pk_mul]; rfl) | (simp only [nI_add, pk_mul, nI_1]; done)) ?_
                        refine e_4 rfl rfl ?_
                        refine e_0 rfl ?_
                        refine e_0 rfl ?_
                        refine e_v2 rfl (by first | exact hm.1 | assumption | rfl) rfl (by decide) rfl (Nat.le_of_ble_eq_true rfl) (mr_fig_ok (p := q + 1) (lo := 0) (hi := 9) hm hF hE (by omega) (by omega) (by omega) hb) ?_
                        refine e_5 rfl rfl ?_
                        refine e_2 rfl rfl ?_
                        refine e_0 rfl ?_
                        refine e_37 rfl (fun h3 => ?_) (fun h3 => ?_)
                        · refine e_4 rfl rfl ?_
                          refine e_0 rfl ?_
                          refine e_0 rfl ?_
                          refine e_v2 rfl (by first | exact hm.1 | assumption | rfl) rfl (by decide) rfl (Nat.le_of_ble_eq_true rfl) (mr_fig_ok (p := q + 2) (lo := 0) (hi := 9) hm hF hE (by omega) (by omega) (by omega) hc) ?_
                          refine e_5 rfl rfl ?_
                          refine e_4 rfl rfl ?_
                          refine e_0 rfl ?_
                          refine e_2 rfl rfl ?_
                          refine e_11 rfl ?_
                          refine e_2 rfl rfl ?_
                          refine e_9 rfl ?_
                          refine r_pr hm rfl rfl (by decide) (by decide) ?_
                          refine e_4 rfl rfl ?_
                          refine e_2 rfl rfl ?_
                          refine e_0 rfl ?_
                          refine e_37 rfl (fun h4 => ?_) (fun h4 => ?_)
                          · refine e_4 rfl rfl ?_
                            refine e_0 rfl ?_
                            refine e_0 rfl ?_
                            refine e_v2 rfl (by first | exact hm.1 | assumption | rfl) rfl (by decide) rfl (Nat.le_of_ble_eq_true rfl) (mr_fig_ok (p := q + 3) (lo := 1) (hi := 9) hm hF hE (by omega) (by omega) (by omega) hd) ?_
                            refine r_pr hm rfl rfl (by decide) (by decide) ?_
                            refine e_4 rfl rfl ?_
                            refine e_4 rfl rfl ?_
                            refine r_gr hm rfl rfl (by decide) (by decide) ?_
                            rw [pk_us]
                            refine e_0 rfl ?_
                            refine e_37 rfl (fun h5 => ?_) (fun h5 => ?_)
                            · refine e_4 rfl rfl ?_
                              refine e_0 rfl ?_
                              refine e_0 rfl ?_
                              refine e_v2 rfl (by first | exact hm.1 | assumption | rfl) rfl (by decide) rfl (Nat.le_of_ble_eq_true rfl) (mr_fig_ok (p := q + 4) (lo := 0) (hi := 9) hm hF hE (by omega) (by omega) (by omega) he) ?_
                              refine r_pr hm rfl rfl (by decide) (by decide) ?_
                              refine e_4 rfl rfl ?_
                              refine r_gr hm rfl rfl (by decide) (by decide) ?_
                              rw [pk_us]
                              refine e_0 rfl ?_
                              refine e_37 rfl (fun h6 => ?_) (fun h6 => ?_)
                              · refine e_4 rfl rfl ?_
                                refine e_0 rfl ?_
                                refine e_0 rfl ?_
                                refine e_v2 rfl (by first | exact hm.1 | assumption | rfl) rfl (by decide) rfl (Nat.le_of_ble_eq_true rfl) (mr_fig_ok (p := q + 5) (lo := 0) (hi := 4) hm hF hE (by omega) (by omega) (by omega) hf) ?_
                                refine e_5 rfl rfl ?_
                                refine e_2 rfl rfl ?_
                                refine e_0 rfl ?_
                                refine e_37 rfl (fun h7 => ?_) (fun h7 => ?_)
                                · refine e_4 rfl rfl ?_
                                  refine e_2 rfl rfl ?_
                                  refine e_31 rfl (fun h8 => ?_) (fun h8 => ?_)
                                  · exact absurd (by rw [hd0]; rfl) h8
                                  · refine e_0 rfl ?_
                                    refine e_42 rfl ?_
                                    refine e_2 rfl rfl ?_
                                    refine e_0 rfl ?_
                                    refine e_37 rfl (fun h9 => ?_) (fun h9 => ?_)
                                    · refine e_0 rfl ?_
                                      refine e_v2 rfl (by first | exact hm.1 | assumption | rfl) rfl (by decide) rfl (Nat.le_of_ble_eq_true rfl) (mr_fig_no (p := q + 6) (lo := 1) (hi := 9) hm hF hE (by omega) (by omega) (by omega) hgx) ?_
                                      refine e_5 rfl rfl ?_
                                      refine e_4 rfl rfl ?_
                                      refine e_0 rfl ?_
                                      refine e_2 rfl rfl ?_
                                      refine e_11 rfl ?_
                                      refine e_2 rfl rfl ?_
                                      refine e_9 rfl ?_
                                      refine r_pr hm rfl rfl (by decide) (by decide) ?_
                                      refine e_2 rfl rfl ?_
                                      refine e_0 rfl ?_
                                      refine e_36 rfl (fun h10 => ?_) (fun h10 => ?_)
                                      · refine e_0 rfl ?_
                                        exact e_rz rfl rfl (by first | decide | exact b2i_01 | assumption) (by rfl) (rfl)
                                      · exact absurd rfl h10
                                    · exact absurd h9 (by rw [hd0]; decide)
                                · exact absurd h7 (nI_n9 (by omega))
                              · exact absurd h6 (nI_n9 (by omega))
                            · exact absurd h5 (nI_n9 (by omega))
                          · exact absurd h4 (nI_n9 (by omega))
                        · exact absurd h3 (nI_n9 (by omega))
                      · exact absurd ha h2
                  · first | rfl | (rw [pk_un (by decide), pk_un (by decide), pk_un (by decide), pk_un (by decide)])
                  · exact fun z => absurd z (by decide)
              · skip
                by_cases hd4 : dvF (chF0 (fun x => ps_i μ (m + 6) (F + x)) E) (q + 5) = 4
                · skip
                  have ehl : hlN (dvF (chF0 (fun x => ps_i μ (m + 6) (F + x)) E) (q + 5)) = 0 := by unfold hlN; rw [hd4]; rfl
                  have ehh : hhN (dvF (chF0 (fun x => ps_i μ (m + 6) (F + x)) E) (q + 5)) = 0 := by unfold hhN; rw [if_pos hd4]
                  by_cases hg : figP (chF0 (fun x => ps_i μ (m + 6) (F + x)) E) (hlN (dvF (chF0 (fun x => ps_i μ (m + 6) (F + x)) E) (q + 5))) (hhN (dvF (chF0 (fun x => ps_i μ (m + 6) (F + x)) E) (q + 5))) (q + 6)
                  · have hgx := hg
                    rw [ehl, ehh] at hgx
                    have hlt6 := fig_in hgx (by omega)
                    have hdv6 := fig_dv hgx (by omega) (by omega)
                    have e : hullN (chF0 (fun x => ps_i μ (m + 6) (F + x)) E) q = 7 := by
                      unfold hullN
                      rw [if_neg (Classical.not_not.mpr ha), if_neg (Classical.not_not.mpr hb), if_neg (Classical.not_not.mpr hc), if_neg (Classical.not_not.mpr hd), if_neg (Classical.not_not.mpr he), if_neg (Classical.not_not.mpr hf), if_neg (Classical.not_not.mpr hg)]
                    rw [e]
                    refine ⟨upd (upd (upd (upd ρ 17 (10 * (nI (dvF (chF0 (fun x => ps_i μ (m + 6) (F + x)) E) (q + 1))) + (nI (dvF (chF0 (fun x => ps_i μ (m + 6) (F + x)) E) (q + 2))))) 18 (nI (dvF (chF0 (fun x => ps_i μ (m + 6) (F + x)) E) (q + 3)))) 19 (nI (dvF (chF0 (fun x => ps_i μ (m + 6) (F + x)) E) (q + 4)))) 20 (10 * (nI (dvF (chF0 (fun x => ps_i μ (m + 6) (F + x)) E) (q + 5))) + (nI (dvF (chF0 (fun x => ps_i μ (m + 6) (F + x)) E) (q + 6)))), ⟨Nat.le_of_ble_eq_true rfl, ?_⟩, ?_, ?_⟩
                    · refine e_4 rfl rfl ?_
                      refine e_v0v rfl (by first | exact hm.1 | assumption | rfl) rfl (by decide) rfl (Nat.le_of_ble_eq_true rfl) (mr_skip (f := 60) hm hF hE hp (by omega)) ?_
                      show ps_To _ _ _ _ (4, _, _, RD μ m F (skF (chF0 (fun x => ps_i μ (m + 6) (F + x)) E) 60 p) E ρ γ)
                      rw [← eq0]
                      refine e_4 rfl rfl ?_
                      refine r_g15 hm rfl rfl ?_
                      refine e_4 rfl rfl ?_
                      refine r_g16 hm rfl rfl ?_
                      refine e_36 rfl (fun h1 => ?_) (fun h1 => ?_)
                      · exact absurd ((nI_eq (by omega) (by omega)).mp h1) (by omega)
                      · refine e_4 rfl rfl ?_
                        refine e_v0 rfl (by first | exact hm.1 | assumption | rfl) rfl (by decide) rfl (Nat.le_of_ble_eq_true rfl) (mr_here hm hF hE (by omega)) ?_
                        refine e_0 rfl ?_
                        refine e_36 rfl (fun h2 => ?_) (fun h2 => ?_)
                        · refine e_4 rfl rfl ?_
                          refine e_28 rfl rfl ?_
                          refine r_g15 hm rfl rfl ?_
                          refine e_0 rfl ?_
                          refine e_9 rfl ?_
                          refine r_p15 (p' := (q + 1)) hm rfl rfl (by first | rfl | (simp only [← nI_add, ← pk_mul]; rfl) | (simp only [nI_add, pk_mul, nI_1]; done)) ?_
                          refine e_4 rfl rfl ?_
                          refine e_0 rfl ?_
                          refine e_0 rfl ?_
                          refine e_v2 rfl (by first | exact hm.1 | assumption | rfl) rfl (by decide) rfl (Nat.le_of_ble_eq_true rfl) (mr_fig_ok (p := q + 1) (lo := 0) (hi := 9) hm hF hE (by omega) (by omega) (by omega) hb) ?_
                          refine e_5 rfl rfl ?_
                          refine e_2 rfl rfl ?_
                          refine e_0 rfl ?_
                          refine e_37 rfl (fun h3 => ?_) (fun h3 => ?_)
                          · refine e_4 rfl rfl ?_
                            refine e_0 rfl ?_
                            refine e_0 rfl ?_
                            refine e_v2 rfl (by first | exact hm.1 | assumption | rfl) rfl (by decide) rfl (Nat.le_of_ble_eq_true rfl) (mr_fig_ok (p := q + 2) (lo := 0) (hi := 9) hm hF hE (by omega) (by omega) (by omega) hc) ?_
                            refine e_5 rfl rfl ?_
                            refine e_4 rfl rfl ?_
                            refine e_0 rfl ?_
                            refine e_2 rfl rfl ?_
                            refine e_11 rfl ?_
                            refine e_2 rfl rfl ?_
                            refine e_9 rfl ?_
                            refine r_pr hm rfl rfl (by decide) (by decide) ?_
                            refine e_4 rfl rfl ?_
                            refine e_2 rfl rfl ?_
                            refine e_0 rfl ?_
                            refine e_37 rfl (fun h4 => ?_) (fun h4 => ?_)
                            · refine e_4 rfl rfl ?_
                              refine e_0 rfl ?_
                              refine e_0 rfl ?_
                              refine e_v2 rfl (by first | exact hm.1 | assumption | rfl) rfl (by decide) rfl (Nat.le_of_ble_eq_true rfl) (mr_fig_ok (p := q + 3) (lo := 1) (hi := 9) hm hF hE (by omega) (by omega) (by omega) hd) ?_
                              refine r_pr hm rfl rfl (by decide) (by decide) ?_
                              refine e_4 rfl rfl ?_
                              refine e_4 rfl rfl ?_
                              refine r_gr hm rfl rfl (by decide) (by decide) ?_
                              rw [pk_us]
                              refine e_0 rfl ?_
                              refine e_37 rfl (fun h5 => ?_) (fun h5 => ?_)
                              · refine e_4 rfl rfl ?_
                                refine e_0 rfl ?_
                                refine e_0 rfl ?_
                                refine e_v2 rfl (by first | exact hm.1 | assumption | rfl) rfl (by decide) rfl (Nat.le_of_ble_eq_true rfl) (mr_fig_ok (p := q + 4) (lo := 0) (hi := 9) hm hF hE (by omega) (by omega) (by omega) he) ?_
                                refine r_pr hm rfl rfl (by decide) (by decide) ?_
                                refine e_4 rfl rfl ?_
                                refine r_gr hm rfl rfl (by decide) (by decide) ?_
                                rw [pk_us]
                                refine e_0 rfl ?_
                                refine e_37 rfl (fun h6 => ?_) (fun h6 => ?_)
                                · refine e_4 rfl rfl ?_
                                  refine e_0 rfl ?_
                                  refine e_0 rfl ?_
                                  refine e_v2 rfl (by first | exact hm.1 | assumption | rfl) rfl (by decide) rfl (Nat.le_of_ble_eq_true rfl) (mr_fig_ok (p := q + 5) (lo := 0) (hi := 4) hm hF hE (by omega) (by omega) (by omega) hf) ?_
                                  refine e_5 rfl rfl ?_
                                  refine e_2 rfl rfl ?_
                                  refine e_0 rfl ?_
                                  refine e_37 rfl (fun h7 => ?_) (fun h7 => ?_)
                                  · refine e_4 rfl rfl ?_
                                    refine e_2 rfl rfl ?_
                                    refine e_31 rfl (fun h8 => ?_) (fun h8 => ?_)
                                    · refine e_0 rfl ?_
                                      refine e_2 rfl rfl ?_
                                      refine e_0 rfl ?_
                                      refine e_37 rfl (fun h9 => ?_) (fun h9 => ?_)
                                      · exact absurd (by rw [hd4]; rfl) h9
                                      · refine e_0 rfl ?_
                                        refine e_42 rfl ?_
                                        refine e_v2 rfl (by first | exact hm.1 | assumption | rfl) rfl (by decide) rfl (Nat.le_of_ble_eq_true rfl) (mr_fig_ok (p := q + 6) (lo := 0) (hi := 0) hm hF hE (by omega) (by omega) (by omega) hgx) ?_
                                        refine e_5 rfl rfl ?_
                                        refine e_4 rfl rfl ?_
                                        refine e_0 rfl ?_
                                        refine e_2 rfl rfl ?_
                                        refine e_11 rfl ?_
                                        refine e_2 rfl rfl ?_
                                        refine e_9 rfl ?_
                                        refine r_pr hm rfl rfl (by decide) (by decide) ?_
                                        refine e_2 rfl rfl ?_
                                        refine e_0 rfl ?_
                                        refine e_36 rfl (fun h10 => ?_) (fun h10 => ?_)
                                        · exact absurd h10 (nI_n9 (by omega))
                                        · refine e_0 rfl ?_
                                          refine e_42 rfl ?_
                                          exact e_rz rfl rfl (by first | decide | exact b2i_01 | assumption) (by rfl) (rfl)
                                    · exact absurd h8 (by rw [hd4]; decide)
                                  · exact absurd h7 (nI_n9 (by omega))
                                · exact absurd h6 (nI_n9 (by omega))
                              · exact absurd h5 (nI_n9 (by omega))
                            · exact absurd h4 (nI_n9 (by omega))
                          · exact absurd h3 (nI_n9 (by omega))
                        · exact absurd ha h2
                    · first | rfl | (rw [pk_un (by decide), pk_un (by decide), pk_un (by decide), pk_un (by decide)])
                    · intro _
                      refine ⟨?_, ?_, ?_, ?_⟩
                      · rw [pk_un (by decide), pk_un (by decide), pk_un (by decide), pk_us]
                      · rw [pk_un (by decide), pk_un (by decide), pk_us]
                      · rw [pk_un (by decide), pk_us]
                      · rw [pk_us]
                  · have hgx := hg
                    rw [ehl, ehh] at hgx
                    have e : hullN (chF0 (fun x => ps_i μ (m + 6) (F + x)) E) q = 6 := by
                      unfold hullN
                      rw [if_neg (Classical.not_not.mpr ha), if_neg (Classical.not_not.mpr hb), if_neg (Classical.not_not.mpr hc), if_neg (Classical.not_not.mpr hd), if_neg (Classical.not_not.mpr he), if_neg (Classical.not_not.mpr hf), if_pos hg]
                    rw [e]
                    refine ⟨upd (upd (upd (upd ρ 17 (10 * (nI (dvF (chF0 (fun x => ps_i μ (m + 6) (F + x)) E) (q + 1))) + (nI (dvF (chF0 (fun x => ps_i μ (m + 6) (F + x)) E) (q + 2))))) 18 (nI (dvF (chF0 (fun x => ps_i μ (m + 6) (F + x)) E) (q + 3)))) 19 (nI (dvF (chF0 (fun x => ps_i μ (m + 6) (F + x)) E) (q + 4)))) 20 (10 * (nI (dvF (chF0 (fun x => ps_i μ (m + 6) (F + x)) E) (q + 5))) + (-9)), ⟨Nat.le_of_ble_eq_true rfl, ?_⟩, ?_, ?_⟩
                    · refine e_4 rfl rfl ?_
                      refine e_v0v rfl (by first | exact hm.1 | assumption | rfl) rfl (by decide) rfl (Nat.le_of_ble_eq_true rfl) (mr_skip (f := 60) hm hF hE hp (by omega)) ?_
                      show ps_To _ _ _ _ (4, _, _, RD μ m F (skF (chF0 (fun x => ps_i μ (m + 6) (F + x)) E) 60 p) E ρ γ)
                      rw [← eq0]
                      refine e_4 rfl rfl ?_
                      refine r_g15 hm rfl rfl ?_
                      refine e_4 rfl rfl ?_
                      refine r_g16 hm rfl rfl ?_
                      refine e_36 rfl (fun h1 => ?_) (fun h1 => ?_)
                      · exact absurd ((nI_eq (by omega) (by omega)).mp h1) (by omega)
                      · refine e_4 rfl rfl ?_
                        refine e_v0 rfl (by first | exact hm.1 | assumption | rfl) rfl (by decide) rfl (Nat.le_of_ble_eq_true rfl) (mr_here hm hF hE (by omega)) ?_
                        refine e_0 rfl ?_
                        refine e_36 rfl (fun h2 => ?_) (fun h2 => ?_)
                        · refine e_4 rfl rfl ?_
                          refine e_28 rfl rfl ?_
                          refine r_g15 hm rfl rfl ?_
                          refine e_0 rfl ?_
                          refine e_9 rfl ?_
                          refine r_p15 (p' := (q + 1)) hm rfl rfl (by first | rfl | (simp only [← nI_add, ← pk_mul]; rfl) | (simp only [nI_add, pk_mul, nI_1]; done)) ?_
                          refine e_4 rfl rfl ?_
                          refine e_0 rfl ?_
                          refine e_0 rfl ?_
                          refine e_v2 rfl (by first | exact hm.1 | assumption | rfl) rfl (by decide) rfl (Nat.le_of_ble_eq_true rfl) (mr_fig_ok (p := q + 1) (lo := 0) (hi := 9) hm hF hE (by omega) (by omega) (by omega) hb) ?_
                          refine e_5 rfl rfl ?_
                          refine e_2 rfl rfl ?_
                          refine e_0 rfl ?_
                          refine e_37 rfl (fun h3 => ?_) (fun h3 => ?_)
                          · refine e_4 rfl rfl ?_
                            refine e_0 rfl ?_
                            refine e_0 rfl ?_
                            refine e_v2 rfl (by first | exact hm.1 | assumption | rfl) rfl (by decide) rfl (Nat.le_of_ble_eq_true rfl) (mr_fig_ok (p := q + 2) (lo := 0) (hi := 9) hm hF hE (by omega) (by omega) (by omega) hc) ?_
                            refine e_5 rfl rfl ?_
                            refine e_4 rfl rfl ?_
                            refine e_0 rfl ?_
                            refine e_2 rfl rfl ?_
                            refine e_11 rfl ?_
                            refine e_2 rfl rfl ?_
                            refine e_9 rfl ?_
                            refine r_pr hm rfl rfl (by decide) (by decide) ?_
                            refine e_4 rfl rfl ?_
                            refine e_2 rfl rfl ?_
                            refine e_0 rfl ?_
                            refine e_37 rfl (fun h4 => ?_) (fun h4 => ?_)
                            · refine e_4 rfl rfl ?_
                              refine e_0 rfl ?_
                              refine e_0 rfl ?_
                              refine e_v2 rfl (by first | exact hm.1 | assumption | rfl) rfl (by decide) rfl (Nat.le_of_ble_eq_true rfl) (mr_fig_ok (p := q + 3) (lo := 1) (hi := 9) hm hF hE (by omega) (by omega) (by omega) hd) ?_
                              refine r_pr hm rfl rfl (by decide) (by decide) ?_
                              refine e_4 rfl rfl ?_
                              refine e_4 rfl rfl ?_
                              refine r_gr hm rfl rfl (by decide) (by decide) ?_
                              rw [pk_us]
                              refine e_0 rfl ?_
                              refine e_37 rfl (fun h5 => ?_) (fun h5 => ?_)
                              · refine e_4 rfl rfl ?_
                                refine e_0 rfl ?_
                                refine e_0 rfl ?_
                                refine e_v2 rfl (by first | exact hm.1 | assumption | rfl) rfl (by decide) rfl (Nat.le_of_ble_eq_true rfl) (mr_fig_ok (p := q + 4) (lo := 0) (hi := 9) hm hF hE (by omega) (by omega) (by omega) he) ?_
                                refine r_pr hm rfl rfl (by decide) (by decide) ?_
                                refine e_4 rfl rfl ?_
                                refine r_gr hm rfl rfl (by decide) (by decide) ?_
                                rw [pk_us]
                                refine e_0 rfl ?_
                                refine e_37 rfl (fun h6 => ?_) (fun h6 => ?_)
                                · refine e_4 rfl rfl ?_
                                  refine e_0 rfl ?_
                                  refine e_0 rfl ?_
                                  refine e_v2 rfl (by first | exact hm.1 | assumption | rfl) rfl (by decide) rfl (Nat.le_of_ble_eq_true rfl) (mr_fig_ok (p := q + 5) (lo := 0) (hi := 4) hm hF hE (by omega) (by omega) (by omega) hf) ?_
                                  refine e_5 rfl rfl ?_
                                  refine e_2 rfl rfl ?_
                                  refine e_0 rfl ?_
                                  refine e_37 rfl (fun h7 => ?_) (fun h7 => ?_)
                                  · refine e_4 rfl rfl ?_
                                    refine e_2 rfl rfl ?_
                                    refine e_31 rfl (fun h8 => ?_) (fun h8 => ?_)
                                    · refine e_0 rfl ?_
                                      refine e_2 rfl rfl ?_
                                      refine e_0 rfl ?_
                                      refine e_37 rfl (fun h9 => ?_) (fun h9 => ?_)
                                      · exact absurd (by rw [hd4]; rfl) h9
                                      · refine e_0 rfl ?_
                                        refine e_42 rfl ?_
                                        refine e_v2 rfl (by first | exact hm.1 | assumption | rfl) rfl (by decide) rfl (Nat.le_of_ble_eq_true rfl) (mr_fig_no (p := q + 6) (lo := 0) (hi := 0) hm hF hE (by omega) (by omega) (by omega) hgx) ?_
                                        refine e_5 rfl rfl ?_
                                        refine e_4 rfl rfl ?_
                                        refine e_0 rfl ?_
                                        refine e_2 rfl rfl ?_
                                        refine e_11 rfl ?_
                                        refine e_2 rfl rfl ?_
                                        refine e_9 rfl ?_
                                        refine r_pr hm rfl rfl (by decide) (by decide) ?_
                                        refine e_2 rfl rfl ?_
                                        refine e_0 rfl ?_
                                        refine e_36 rfl (fun h10 => ?_) (fun h10 => ?_)
                                        · refine e_0 rfl ?_
                                          exact e_rz rfl rfl (by first | decide | exact b2i_01 | assumption) (by rfl) (rfl)
                                        · exact absurd rfl h10
                                    · exact absurd h8 (by rw [hd4]; decide)
                                  · exact absurd h7 (nI_n9 (by omega))
                                · exact absurd h6 (nI_n9 (by omega))
                              · exact absurd h5 (nI_n9 (by omega))
                            · exact absurd h4 (nI_n9 (by omega))
                          · exact absurd h3 (nI_n9 (by omega))
                        · exact absurd ha h2
                    · first | rfl | (rw [pk_un (by decide), pk_un (by decide), pk_un (by decide), pk_un (by decide)])
                    · exact fun z => absurd z (by decide)
                · skip
                  have ehl : hlN (dvF (chF0 (fun x => ps_i μ (m + 6) (F + x)) E) (q + 5)) = 0 := by unfold hlN; rw [if_neg hd0]
                  have ehh : hhN (dvF (chF0 (fun x => ps_i μ (m + 6) (F + x)) E) (q + 5)) = 9 := by unfold hhN; rw [if_neg hd4]
                  by_cases hg : figP (chF0 (fun x => ps_i μ (m + 6) (F + x)) E) (hlN (dvF (chF0 (fun x => ps_i μ (m + 6) (F + x)) E) (q + 5))) (hhN (dvF (chF0 (fun x => ps_i μ (m + 6) (F + x)) E) (q + 5))) (q + 6)
                  · have hgx := hg
                    rw [ehl, ehh] at hgx
                    have hlt6 := fig_in hgx (by omega)
                    have hdv6 := fig_dv hgx (by omega) (by omega)
                    have e : hullN (chF0 (fun x => ps_i μ (m + 6) (F + x)) E) q = 7 := by
                      unfold hullN
                      rw [if_neg (Classical.not_not.mpr ha), if_neg (Classical.not_not.mpr hb), if_neg (Classical.not_not.mpr hc), if_neg (Classical.not_not.mpr hd), if_neg (Classical.not_not.mpr he), if_neg (Classical.not_not.mpr hf), if_neg (Classical.not_not.mpr hg)]
                    rw [e]
                    refine ⟨upd (upd (upd (upd ρ 17 (10 * (nI (dvF (chF0 (fun x => ps_i μ (m + 6) (F + x)) E) (q + 1))) + (nI (dvF (chF0 (fun x => ps_i μ (m + 6) (F + x)) E) (q + 2))))) 18 (nI (dvF (chF0 (fun x => ps_i μ (m + 6) (F + x)) E) (q + 3)))) 19 (nI (dvF (chF0 (fun x => ps_i μ (m + 6) (F + x)) E) (q + 4)))) 20 (10 * (nI (dvF (chF0 (fun x => ps_i μ (m + 6) (F + x)) E) (q + 5))) + (nI (dvF (chF0 (fun x => ps_i μ (m + 6) (F + x)) E) (q + 6)))), ⟨Nat.le_of_ble_eq_true rfl, ?_⟩, ?_, ?_⟩
                    · refine e_4 rfl rfl ?_
                      refine e_v0v rfl (by first | exact hm.1 | assumption | rfl) rfl (by decide) rfl (Nat.le_of_ble_eq_true rfl) (mr_skip (f := 60) hm hF hE hp (by omega)) ?_
                      show ps_To _ _ _ _ (4, _, _, RD μ m F (skF (chF0 (fun x => ps_i μ (m + 6) (F + x)) E) 60 p) E ρ γ)
                      rw [← eq0]
                      refine e_4 rfl rfl ?_
                      refine r_g15 hm rfl rfl ?_
                      refine e_4 rfl rfl ?_
                      refine r_g16 hm rfl rfl ?_
                      refine e_36 rfl (fun h1 => ?_) (fun h1 => ?_)
                      · exact absurd ((nI_eq (by omega) (by omega)).mp h1) (by omega)
                      · refine e_4 rfl rfl ?_
                        refine e_v0 rfl (by first | exact hm.1 | assumption | rfl) rfl (by decide) rfl (Nat.le_of_ble_eq_true rfl) (mr_here hm hF hE (by omega)) ?_
                        refine e_0 rfl ?_
                        refine e_36 rfl (fun h2 => ?_) (fun h2 => ?_)
                        · refine e_4 rfl rfl ?_
                          refine e_28 rfl rfl ?_
                          refine r_g15 hm rfl rfl ?_
                          refine e_0 rfl ?_
                          refine e_9 rfl ?_
                          refine r_p15 (p' := (q + 1)) hm rfl rfl (by first | rfl | (simp only [← nI_add, ← pk_mul]; rfl) | (simp only [nI_add, pk_mul, nI_1]; done)) ?_
                          refine e_4 rfl rfl ?_
                          refine e_0 rfl ?_
                          refine e_0 rfl ?_
                          refine e_v2 rfl (by first | exact hm.1 | assumption | rfl) rfl (by decide) rfl (Nat.le_of_ble_eq_true rfl) (mr_fig_ok (p := q + 1) (lo := 0) (hi := 9) hm hF hE (by omega) (by omega) (by omega) hb) ?_
                          refine e_5 rfl rfl ?_
                          refine e_2 rfl rfl ?_
                          refine e_0 rfl ?_
                          refine e_37 rfl (fun h3 => ?_) (fun h3 => ?_)
                          · refine e_4 rfl rfl ?_
                            refine e_0 rfl ?_
                            refine e_0 rfl ?_
                            refine e_v2 rfl (by first | exact hm.1 | assumption | rfl) rfl (by decide) rfl (Nat.le_of_ble_eq_true rfl) (mr_fig_ok (p := q + 2) (lo := 0) (hi := 9) hm hF hE (by omega) (by omega) (by omega) hc) ?_
                            refine e_5 rfl rfl ?_
                            refine e_4 rfl rfl ?_
                            refine e_0 rfl ?_
                            refine e_2 rfl rfl ?_
                            refine e_11 rfl ?_
                            refine e_2 rfl rfl ?_
                            refine e_9 rfl ?_
                            refine r_pr hm rfl rfl (by decide) (by decide) ?_
                            refine e_4 rfl rfl ?_
                            refine e_2 rfl rfl ?_
                            refine e_0 rfl ?_
                            refine e_37 rfl (fun h4 => ?_) (fun h4 => ?_)
                            · refine e_4 rfl rfl ?_
                              refine e_0 rfl ?_
                              refine e_0 rfl ?_
                              refine e_v2 rfl (by first | exact hm.1 | assumption | rfl) rfl (by decide) rfl (Nat.le_of_ble_eq_true rfl) (mr_fig_ok (p := q + 3) (lo := 1) (hi := 9) hm hF hE (by omega) (by omega) (by omega) hd) ?_
                              refine r_pr hm rfl rfl (by decide) (by decide) ?_
                              refine e_4 rfl rfl ?_
                              refine e_4 rfl rfl ?_
                              refine r_gr hm rfl rfl (by decide) (by decide) ?_
                              rw [pk_us]
                              refine e_0 rfl ?_
                              refine e_37 rfl (fun h5 => ?_) (fun h5 => ?_)
                              · refine e_4 rfl rfl ?_
                                refine e_0 rfl ?_
                                refine e_0 rfl ?_
                                refine e_v2 rfl (by first | exact hm.1 | assumption | rfl) rfl (by decide) rfl (Nat.le_of_ble_eq_true rfl) (mr_fig_ok (p := q + 4) (lo := 0) (hi := 9) hm hF hE (by omega) (by omega) (by omega) he) ?_
                                refine r_pr hm rfl rfl (by decide) (by decide) ?_
                                refine e_4 rfl rfl ?_
                                refine r_gr hm rfl rfl (by decide) (by decide) ?_
                                rw [pk_us]
                                refine e_0 rfl ?_
                                refine e_37 rfl (fun h6 => ?_) (fun h6 => ?_)
                                · refine e_4 rfl rfl ?_
                                  refine e_0 rfl ?_
                                  refine e_0 rfl ?_
                                  refine e_v2 rfl (by first | exact hm.1 | assumption | rfl) rfl (by decide) rfl (Nat.le_of_ble_eq_true rfl) (mr_fig_ok (p := q + 5) (lo := 0) (hi := 4) hm hF hE (by omega) (by omega) (by omega) hf) ?_
                                  refine e_5 rfl rfl ?_
                                  refine e_2 rfl rfl ?_
                                  refine e_0 rfl ?_
                                  refine e_37 rfl (fun h7 => ?_) (fun h7 => ?_)
                                  · refine e_4 rfl rfl ?_
                                    refine e_2 rfl rfl ?_
                                    refine e_31 rfl (fun h8 => ?_) (fun h8 => ?_)
                                    · refine e_0 rfl ?_
                                      refine e_2 rfl rfl ?_
                                      refine e_0 rfl ?_
                                      refine e_37 rfl (fun h9 => ?_) (fun h9 => ?_)
                                      · refine e_0 rfl ?_
                                        refine e_v2 rfl (by first | exact hm.1 | assumption | rfl) rfl (by decide) rfl (Nat.le_of_ble_eq_true rfl) (mr_fig_ok (p := q + 6) (lo := 0) (hi := 9) hm hF hE (by omega) (by omega) (by omega) hgx) ?_
                                        refine e_5 rfl rfl ?_
                                        refine e_4 rfl rfl ?_
                                        refine e_0 rfl ?_
                                        refine e_2 rfl rfl ?_
                                        refine e_11 rfl ?_
                                        refine e_2 rfl rfl ?_
                                        refine e_9 rfl ?_
                                        refine r_pr hm rfl rfl (by decide) (by decide) ?_
                                        refine e_2 rfl rfl ?_
                                        refine e_0 rfl ?_
                                        refine e_36 rfl (fun h10 => ?_) (fun h10 => ?_)
                                        · exact absurd h10 (nI_n9 (by omega))
                                        · refine e_0 rfl ?_
                                          refine e_42 rfl ?_
                                          exact e_rz rfl rfl (by first | decide | exact b2i_01 | assumption) (by rfl) (rfl)
                                      · exact absurd ((nI_eq (b := 4) (by omega) (by omega)).mp h9) hd4
                                    · exact absurd ((nI_eq (b := 0) (by omega) (by omega)).mp h8) hd0
                                  · exact absurd h7 (nI_n9 (by omega))
                                · exact absurd h6 (nI_n9 (by omega))
                              · exact absurd h5 (nI_n9 (by omega))
                            · exact absurd h4 (nI_n9 (by omega))
                          · exact absurd h3 (nI_n9 (by omega))
                        · exact absurd ha h2
                    · first | rfl | (rw [pk_un (by decide), pk_un (by decide), pk_un (by decide), pk_un (by decide)])
                    · intro _
                      refine ⟨?_, ?_, ?_, ?_⟩
                      · rw [pk_un (by decide), pk_un (by decide), pk_un (by decide), pk_us]
                      · rw [pk_un (by decide), pk_un (by decide), pk_us]
                      · rw [pk_un (by decide), pk_us]
                      · rw [pk_us]
                  · have hgx := hg
                    rw [ehl, ehh] at hgx
                    have e : hullN (chF0 (fun x => ps_i μ (m + 6) (F + x)) E) q = 6 := by
                      unfold hullN
                      rw [if_neg (Classical.not_not.mpr ha), if_neg (Classical.not_not.mpr hb), if_neg (Classical.not_not.mpr hc), if_neg (Classical.not_not.mpr hd), if_neg (Classical.not_not.mpr he), if_neg (Classical.not_not.mpr hf), if_pos hg]
                    rw [e]
                    refine ⟨upd (upd (upd (upd ρ 17 (10 * (nI (dvF (chF0 (fun x => ps_i μ (m + 6) (F + x)) E) (q + 1))) + (nI (dvF (chF0 (fun x => ps_i μ (m + 6) (F + x)) E) (q + 2))))) 18 (nI (dvF (chF0 (fun x => ps_i μ (m + 6) (F + x)) E) (q + 3)))) 19 (nI (dvF (chF0 (fun x => ps_i μ (m + 6) (F + x)) E) (q + 4)))) 20 (10 * (nI (dvF (chF0 (fun x => ps_i μ (m + 6) (F + x)) E) (q + 5))) + (-9)), ⟨Nat.le_of_ble_eq_true rfl, ?_⟩, ?_, ?_⟩
                    · refine e_4 rfl rfl ?_
                      refine e_v0v rfl (by first | exact hm.1 | assumption | rfl) rfl (by decide) rfl (Nat.le_of_ble_eq_true rfl) (mr_skip (f := 60) hm hF hE hp (by omega)) ?_
                      show ps_To _ _ _ _ (4, _, _, RD μ m F (skF (chF0 (fun x => ps_i μ (m + 6) (F + x)) E) 60 p) E ρ γ)
                      rw [← eq0]
                      refine e_4 rfl rfl ?_
                      refine r_g15 hm rfl rfl ?_
                      refine e_4 rfl rfl ?_
                      refine r_g16 hm rfl rfl ?_
                      refine e_36 rfl (fun h1 => ?_) (fun h1 => ?_)
                      · exact absurd ((nI_eq (by omega) (by omega)).mp h1) (by omega)
                      · refine e_4 rfl rfl ?_
                        refine e_v0 rfl (by first | exact hm.1 | assumption | rfl) rfl (by decide) rfl (Nat.le_of_ble_eq_true rfl) (mr_here hm hF hE (by omega)) ?_
                        refine e_0 rfl ?_
                        refine e_36 rfl (fun h2 => ?_) (fun h2 => ?_)
                        · refine e_4 rfl rfl ?_
                          refine e_28 rfl rfl ?_
                          refine r_g15 hm rfl rfl ?_
                          refine e_0 rfl ?_
                          refine e_9 rfl ?_
                          refine r_p15 (p' := (q + 1)) hm rfl rfl (by first | rfl | (simp only [← nI_add, ← pk_mul]; rfl) | (simp only [nI_add, pk_mul, nI_1]; done)) ?_
                          refine e_4 rfl rfl ?_
                          refine e_0 rfl ?_
                          refine e_0 rfl ?_
                          refine e_v2 rfl (by first | exact hm.1 | assumption | rfl) rfl (by decide) rfl (Nat.le_of_ble_eq_true rfl) (mr_fig_ok (p := q + 1) (lo := 0) (hi := 9) hm hF hE (by omega) (by omega) (by omega) hb) ?_
                          refine e_5 rfl rfl ?_
                          refine e_2 rfl rfl ?_
                          refine e_0 rfl ?_
                          refine e_37 rfl (fun h3 => ?_) (fun h3 => ?_)
                          · refine e_4 rfl rfl ?_
                            refine e_0 rfl ?_
                            refine e_0 rfl ?_
                            refine e_v2 rfl (by first | exact hm.1 | assumption | rfl) rfl (by decide) rfl (Nat.le_of_ble_eq_true rfl) (mr_fig_ok (p := q + 2) (lo := 0) (hi := 9) hm hF hE (by omega) (by omega) (by omega) hc) ?_
                            refine e_5 rfl rfl ?_
                            refine e_4 rfl rfl ?_
                            refine e_0 rfl ?_
                            refine e_2 rfl rfl ?_
                            refine e_11 rfl ?_
                            refine e_2 rfl rfl ?_
                            refine e_9 rfl ?_
                            refine r_pr hm rfl rfl (by decide) (by decide) ?_
                            refine e_4 rfl rfl ?_
                            refine e_2 rfl rfl ?_
                            refine e_0 rfl ?_
                            refine e_37 rfl (fun h4 => ?_) (fun h4 => ?_)
                            · refine e_4 rfl rfl ?_
                              refine e_0 rfl ?_
                              refine e_0 rfl ?_
                              refine e_v2 rfl (by first | exact hm.1 | assumption | rfl) rfl (by decide) rfl (Nat.le_of_ble_eq_true rfl) (mr_fig_ok (p := q + 3) (lo := 1) (hi := 9) hm hF hE (by omega) (by omega) (by omega) hd) ?_
                              refine r_pr hm rfl rfl (by decide) (by decide) ?_
                              refine e_4 rfl rfl ?_
                              refine e_4 rfl rfl ?_
                              refine r_gr hm rfl rfl (by decide) (by decide) ?_
                              rw [pk_us]
                              refine e_0 rfl ?_
                              refine e_37 rfl (fun h5 => ?_) (fun h5 => ?_)
                              · refine e_4 rfl rfl ?_
                                refine e_0 rfl ?_
                                refine e_0 rfl ?_
                                refine e_v2 rfl (by first | exact hm.1 | assumption | rfl) rfl (by decide) rfl (Nat.le_of_ble_eq_true rfl) (mr_fig_ok (p := q + 4) (lo := 0) (hi := 9) hm hF hE (by omega) (by omega) (by omega) he) ?_
                                refine r_pr hm rfl rfl (by decide) (by decide) ?_
                                refine e_4 rfl rfl ?_
                                refine r_gr hm rfl rfl (by decide) (by decide) ?_
                                rw [pk_us]
                                refine e_0 rfl ?_
                                refine e_37 rfl (fun h6 => ?_) (fun h6 => ?_)
                                · refine e_4 rfl rfl ?_
                                  refine e_0 rfl ?_
                                  refine e_0 rfl ?_
                                  refine e_v2 rfl (by first | exact hm.1 | assumption | rfl) rfl (by decide) rfl (Nat.le_of_ble_eq_true rfl) (mr_fig_ok (p := q + 5) (lo := 0) (hi := 4) hm hF hE (by omega) (by omega) (by omega) hf) ?_
                                  refine e_5 rfl rfl ?_
                                  refine e_2 rfl rfl ?_
                                  refine e_0 rfl ?_
                                  refine e_37 rfl (fun h7 => ?_) (fun h7 => ?_)
                                  · refine e_4 rfl rfl ?_
                                    refine e_2 rfl rfl ?_
                                    refine e_31 rfl (fun h8 => ?_) (fun h8 => ?_)
                                    · refine e_0 rfl ?_
                                      refine e_2 rfl rfl ?_
                                      refine e_0 rfl ?_
                                      refine e_37 rfl (fun h9 => ?_) (fun h9 => ?_)
                                      · refine e_0 rfl ?_
                                        refine e_v2 rfl (by first | exact hm.1 | assumption | rfl) rfl (by decide) rfl (Nat.le_of_ble_eq_true rfl) (mr_fig_no (p := q + 6) (lo := 0) (hi := 9) hm hF hE (by omega) (by omega) (by omega) hgx) ?_
                                        refine e_5 rfl rfl ?_
                                        refine e_4 rfl rfl ?_
                                        refine e_0 rfl ?_
                                        refine e_2 rfl rfl ?_
                                        refine e_11 rfl ?_
                                        refine e_2 rfl rfl ?_
                                        refine e_9 rfl ?_
                                        refine r_pr hm rfl rfl (by decide) (by decide) ?_
                                        refine e_2 rfl rfl ?_
                                        refine e_0 rfl ?_
                                        refine e_36 rfl (fun h10 => ?_) (fun h10 => ?_)
                                        · refine e_0 rfl ?_
                                          exact e_rz rfl rfl (by first | decide | exact b2i_01 | assumption) (by rfl) (rfl)
                                        · exact absurd rfl h10
                                      · exact absurd ((nI_eq (b := 4) (by omega) (by omega)).mp h9) hd4
                                    · exact absurd ((nI_eq (b := 0) (by omega) (by omega)).mp h8) hd0
                                  · exact absurd h7 (nI_n9 (by omega))
                                · exact absurd h6 (nI_n9 (by omega))
                              · exact absurd h5 (nI_n9 (by omega))
                            · exact absurd h4 (nI_n9 (by omega))
                          · exact absurd h3 (nI_n9 (by omega))
                        · exact absurd ha h2
                    · first | rfl | (rw [pk_un (by decide), pk_un (by decide), pk_un (by decide), pk_un (by decide)])
                    · exact fun z => absurd z (by decide)
            · skip
              have e : hullN (chF0 (fun x => ps_i μ (m + 6) (F + x)) E) q = 5 := by
                unfold hullN
                rw [if_neg (Classical.not_not.mpr ha), if_neg (Classical.not_not.mpr hb), if_neg (Classical.not_not.mpr hc), if_neg (Classical.not_not.mpr hd), if_neg (Classical.not_not.mpr he), if_pos hf]
              rw [e]
              refine ⟨upd (upd (upd (upd ρ 17 (10 * (nI (dvF (chF0 (fun x => ps_i μ (m + 6) (F + x)) E) (q + 1))) + (nI (dvF (chF0 (fun x => ps_i μ (m + 6) (F + x)) E) (q + 2))))) 18 (nI (dvF (chF0 (fun x => ps_i μ (m + 6) (F + x)) E) (q + 3)))) 19 (nI (dvF (chF0 (fun x => ps_i μ (m + 6) (F + x)) E) (q + 4)))) 20 (10 * (-9) + (-9)), ⟨Nat.le_of_ble_eq_true rfl, ?_⟩, ?_, ?_⟩
              · refine e_4 rfl rfl ?_
                refine e_v0v rfl (by first | exact hm.1 | assumption | rfl) rfl (by decide) rfl (Nat.le_of_ble_eq_true rfl) (mr_skip (f := 60) hm hF hE hp (by omega)) ?_
                show ps_To _ _ _ _ (4, _, _, RD μ m F (skF (chF0 (fun x => ps_i μ (m + 6) (F + x)) E) 60 p) E ρ γ)
                rw [← eq0]
                refine e_4 rfl rfl ?_
                refine r_g15 hm rfl rfl ?_
                refine e_4 rfl rfl ?_
                refine r_g16 hm rfl rfl ?_
                refine e_36 rfl (fun h1 => ?_) (fun h1 => ?_)
                · exact absurd ((nI_eq (by omega) (by omega)).mp h1) (by omega)
                · refine e_4 rfl rfl ?_
                  refine e_v0 rfl (by first | exact hm.1 | assumption | rfl) rfl (by decide) rfl (Nat.le_of_ble_eq_true rfl) (mr_here hm hF hE (by omega)) ?_
                  refine e_0 rfl ?_
                  refine e_36 rfl (fun h2 => ?_) (fun h2 => ?_)
                  · refine e_4 rfl rfl ?_
                    refine e_28 rfl rfl ?_
                    refine r_g15 hm rfl rfl ?_
                    refine e_0 rfl ?_
                    refine e_9 rfl ?_
                    refine r_p15 (p' := (q + 1)) hm rfl rfl (by first | rfl | (simp only [← nI_add, ← pk_mul]; rfl) | (simp only [nI_add, pk_mul, nI_1]; done)) ?_
                    refine e_4 rfl rfl ?_
                    refine e_0 rfl ?_
                    refine e_0 rfl ?_
                    refine e_v2 rfl (by first | exact hm.1 | assumption | rfl) rfl (by decide) rfl (Nat.le_of_ble_eq_true rfl) (mr_fig_ok (p := q + 1) (lo := 0) (hi := 9) hm hF hE (by omega) (by omega) (by omega) hb) ?_
                    refine e_5 rfl rfl ?_
                    refine e_2 rfl rfl ?_
                    refine e_0 rfl ?_
                    refine e_37 rfl (fun h3 => ?_) (fun h3 => ?_)
                    · refine e_4 rfl rfl ?_
                      refine e_0 rfl ?_
                      refine e_0 rfl ?_
                      refine e_v2 rfl (by first | exact hm.1 | assumption | rfl) rfl (by decide) rfl (Nat.le_of_ble_eq_true rfl) (mr_fig_ok (p := q + 2) (lo := 0) (hi := 9) hm hF hE (by omega) (by omega) (by omega) hc) ?_
                      refine e_5 rfl rfl ?_
                      refine e_4 rfl rfl ?_
                      refine e_0 rfl ?_
                      refine e_2 rfl rfl ?_
                      refine e_11 rfl ?_
                      refine e_2 rfl rfl ?_
                      refine e_9 rfl ?_
                      refine r_pr hm rfl rfl (by decide) (by decide) ?_
                      refine e_4 rfl rfl ?_
                      refine e_2 rfl rfl ?_
                      refine e_0 rfl ?_
                      refine e_37 rfl (fun h4 => ?_) (fun h4 => ?_)
                      · refine e_4 rfl rfl ?_
                        refine e_0 rfl ?_
                        refine e_0 rfl ?_
                        refine e_v2 rfl (by first | exact hm.1 | assumption | rfl) rfl (by decide) rfl (Nat.le_of_ble_eq_true rfl) (mr_fig_ok (p := q + 3) (lo := 1) (hi := 9) hm hF hE (by omega) (by omega) (by omega) hd) ?_
                        refine r_pr hm rfl rfl (by decide) (by decide) ?_
                        refine e_4 rfl rfl ?_
                        refine e_4 rfl rfl ?_
                        refine r_gr hm rfl rfl (by decide) (by decide) ?_
                        rw [pk_us]
                        refine e_0 rfl ?_
                        refine e_37 rfl (fun h5 => ?_) (fun h5 => ?_)
                        · refine e_4 rfl rfl ?_
                          refine e_0 rfl ?_
                          refine e_0 rfl ?_
                          refine e_v2 rfl (by first | exact hm.1 | assumption | rfl) rfl (by decide) rfl (Nat.le_of_ble_eq_true rfl) (mr_fig_ok (p := q + 4) (lo := 0) (hi := 9) hm hF hE (by omega) (by omega) (by omega) he) ?_
                          refine r_pr hm rfl rfl (by decide) (by decide) ?_
                          refine e_4 rfl rfl ?_
                          refine r_gr hm rfl rfl (by decide) (by decide) ?_
                          rw [pk_us]
                          refine e_0 rfl ?_
                          refine e_37 rfl (fun h6 => ?_) (fun h6 => ?_)
                          · refine e_4 rfl rfl ?_
                            refine e_0 rfl ?_
                            refine e_0 rfl ?_
                            refine e_v2 rfl (by first | exact hm.1 | assumption | rfl) rfl (by decide) rfl (Nat.le_of_ble_eq_true rfl) (mr_fig_no (p := q + 5) (lo := 0) (hi := 4) hm hF hE (by omega) (by omega) (by omega) hf) ?_
                            refine e_5 rfl rfl ?_
                            refine e_2 rfl rfl ?_
                            refine e_0 rfl ?_
                            refine e_37 rfl (fun h7 => ?_) (fun h7 => ?_)
                            · exact absurd rfl h7
                            · refine e_0 rfl ?_
                              refine e_42 rfl ?_
                              refine e_5 rfl rfl ?_
                              refine e_4 rfl rfl ?_
                              refine e_0 rfl ?_
                              refine e_2 rfl rfl ?_
                              refine e_11 rfl ?_
                              refine e_2 rfl rfl ?_
                              refine e_9 rfl ?_
                              refine r_pr hm rfl rfl (by decide) (by decide) ?_
                              refine e_2 rfl rfl ?_
                              refine e_0 rfl ?_
                              refine e_36 rfl (fun h8 => ?_) (fun h8 => ?_)
                              · refine e_0 rfl ?_
                                exact e_rz rfl rfl (by first | decide | exact b2i_01 | assumption) (by rfl) (rfl)
                              · exact absurd rfl h8
                          · exact absurd h6 (nI_n9 (by omega))
                        · exact absurd h5 (nI_n9 (by omega))
                      · exact absurd h4 (nI_n9 (by omega))
                    · exact absurd h3 (nI_n9 (by omega))
                  · exact absurd ha h2
              · first | rfl | (rw [pk_un (by decide), pk_un (by decide), pk_un (by decide), pk_un (by decide)])
              · exact fun z => absurd z (by decide)
          · skip
            have e : hullN (chF0 (fun x => ps_i μ (m + 6) (F + x)) E) q = 4 := by
              unfold hullN
              rw [if_neg (Classical.not_not.mpr ha), if_neg (Classical.not_not.mpr hb), if_neg (Classical.not_not.mpr hc), if_neg (Classical.not_not.mpr hd), if_pos he]
            rw [e]
            refine ⟨upd (upd (upd (upd ρ 17 (10 * (nI (dvF (chF0 (fun x => ps_i μ (m + 6) (F + x)) E) (q + 1))) + (nI (dvF (chF0 (fun x => ps_i μ (m + 6) (F + x)) E) (q + 2))))) 18 (nI (dvF (chF0 (fun x => ps_i μ (m + 6) (F + x)) E) (q + 3)))) 19 (-9)) 20 (10 * (-9) + (-9)), ⟨Nat.le_of_ble_eq_true rfl, ?_⟩, ?_, ?_⟩
            · refine e_4 rfl rfl ?_
              refine e_v0v rfl (by first | exact hm.1 | assumption | rfl) rfl (by decide) rfl (Nat.le_of_ble_eq_true rfl) (mr_skip (f := 60) hm hF hE hp (by omega)) ?_
              show ps_To _ _ _ _ (4, _, _, RD μ m F (skF (chF0 (fun x => ps_i μ (m + 6) (F + x)) E) 60 p) E ρ γ)
              rw [← eq0]
              refine e_4 rfl rfl ?_
              refine r_g15 hm rfl rfl ?_
              refine e_4 rfl rfl ?_
              refine r_g16 hm rfl rfl ?_
              refine e_36 rfl (fun h1 => ?_) (fun h1 => ?_)
              · exact absurd ((nI_eq (by omega) (by omega)).mp h1) (by omega)
              · refine e_4 rfl rfl ?_
                refine e_v0 rfl (by first | exact hm.1 | assumption | rfl) rfl (by decide) rfl (Nat.le_of_ble_eq_true rfl) (mr_here hm hF hE (by omega)) ?_
                refine e_0 rfl ?_
                refine e_36 rfl (fun h2 => ?_) (fun h2 => ?_)
                · refine e_4 rfl rfl ?_
                  refine e_28 rfl rfl ?_
                  refine r_g15 hm rfl rfl ?_
                  refine e_0 rfl ?_
                  refine e_9 rfl ?_
                  refine r_p15 (p' := (q + 1)) hm rfl rfl (by first | rfl | (simp only [← nI_add, ← pk_mul]; rfl) | (simp only [nI_add, pk_mul, nI_1]; done)) ?_
                  refine e_4 rfl rfl ?_
                  refine e_0 rfl ?_
                  refine e_0 rfl ?_
                  refine e_v2 rfl (by first | exact hm.1 | assumption | rfl) rfl (by decide) rfl (Nat.le_of_ble_eq_true rfl) (mr_fig_ok (p := q + 1) (lo := 0) (hi := 9) hm hF hE (by omega) (by omega) (by omega) hb) ?_
                  refine e_5 rfl rfl ?_
                  refine e_2 rfl rfl ?_
                  refine e_0 rfl ?_
                  refine e_37 rfl (fun h3 => ?_) (fun h3 => ?_)
                  · refine e_4 rfl rfl ?_
                    refine e_0 rfl ?_
                    refine e_0 rfl ?_
                    refine e_v2 rfl (by first | exact hm.1 | assumption | rfl) rfl (by decide) rfl (Nat.le_of_ble_eq_true rfl) (mr_fig_ok (p := q + 2) (lo := 0) (hi := 9) hm hF hE (by omega) (by omega) (by omega) hc) ?_
                    refine e_5 rfl rfl ?_
                    refine e_4 rfl rfl ?_
                    refine e_0 rfl ?_
                    refine e_2 rfl rfl ?_
                    refine e_11 rfl ?_
                    refine e_2 rfl rfl ?_
                    refine e_9 rfl ?_
                    refine r_pr hm rfl rfl (by decide) (by decide) ?_
                    refine e_4 rfl rfl ?_
                    refine e_2 rfl rfl ?_
                    refine e_0 rfl ?_
                    refine e_37 rfl (fun h4 => ?_) (fun h4 => ?_)
                    · refine e_4 rfl rfl ?_
                      refine e_0 rfl ?_
                      refine e_0 rfl ?_
                      refine e_v2 rfl (by first | exact hm.1 | assumption | rfl) rfl (by decide) rfl (Nat.le_of_ble_eq_true rfl) (mr_fig_ok (p := q + 3) (lo := 1) (hi := 9) hm hF hE (by omega) (by omega) (by omega) hd) ?_
                      refine r_pr hm rfl rfl (by decide) (by decide) ?_
                      refine e_4 rfl rfl ?_
                      refine e_4 rfl rfl ?_
                      refine r_gr hm rfl rfl (by decide) (by decide) ?_
                      rw [pk_us]
                      refine e_0 rfl ?_
                      refine e_37 rfl (fun h5 => ?_) (fun h5 => ?_)
                      · refine e_4 rfl rfl ?_
                        refine e_0 rfl ?_
                        refine e_0 rfl ?_
                        refine e_v2 rfl (by first | exact hm.1 | assumption | rfl) rfl (by decide) rfl (Nat.le_of_ble_eq_true rfl) (mr_fig_no (p := q + 4) (lo := 0) (hi := 9) hm hF hE (by omega) (by omega) (by omega) he) ?_
                        refine r_pr hm rfl rfl (by decide) (by decide) ?_
                        refine e_4 rfl rfl ?_
                        refine r_gr hm rfl rfl (by decide) (by decide) ?_
                        rw [pk_us]
                        refine e_0 rfl ?_
                        refine e_37 rfl (fun h6 => ?_) (fun h6 => ?_)
                        · exact absurd rfl h6
                        · refine e_0 rfl ?_
                          refine e_42 rfl ?_
                          refine e_5 rfl rfl ?_
                          refine e_2 rfl rfl ?_
                          refine e_0 rfl ?_
                          refine e_37 rfl (fun h7 => ?_) (fun h7 => ?_)
                          · exact absurd rfl h7
                          · refine e_0 rfl ?_
                            refine e_42 rfl ?_
                            refine e_5 rfl rfl ?_
                            refine e_4 rfl rfl ?_
                            refine e_0 rfl ?_
                            refine e_2 rfl rfl ?_
                            refine e_11 rfl ?_
                            refine e_2 rfl rfl ?_
                            refine e_9 rfl ?_
                            refine r_pr hm rfl rfl (by decide) (by decide) ?_
                            refine e_2 rfl rfl ?_
                            refine e_0 rfl ?_
                            refine e_36 rfl (fun h8 => ?_) (fun h8 => ?_)
                            · refine e_0 rfl ?_
                              exact e_rz rfl rfl (by first | decide | exact b2i_01 | assumption) (by rfl) (rfl)
                            · exact absurd rfl h8
                      · exact absurd h5 (nI_n9 (by omega))
                    · exact absurd h4 (nI_n9 (by omega))
                  · exact absurd h3 (nI_n9 (by omega))
                · exact absurd ha h2
            · first | rfl | (rw [pk_un (by decide), pk_un (by decide), pk_un (by decide), pk_un (by decide)])
            · exact fun z => absurd z (by decide)
        · skip
          have e : hullN (chF0 (fun x => ps_i μ (m + 6) (F + x)) E) q = 3 := by
            unfold hullN
            rw [if_neg (Classical.not_not.mpr ha), if_neg (Classical.not_not.mpr hb), if_neg (Classical.not_not.mpr hc), if_pos hd]
          rw [e]
          refine ⟨upd (upd (upd (upd ρ 17 (10 * (nI (dvF (chF0 (fun x => ps_i μ (m + 6) (F + x)) E) (q + 1))) + (nI (dvF (chF0 (fun x => ps_i μ (m + 6) (F + x)) E) (q + 2))))) 18 (-9)) 19 (-9)) 20 (10 * (-9) + (-9)), ⟨Nat.le_of_ble_eq_true rfl, ?_⟩, ?_, ?_⟩
          · refine e_4 rfl rfl ?_
            refine e_v0v rfl (by first | exact hm.1 | assumption | rfl) rfl (by decide) rfl (Nat.le_of_ble_eq_true rfl) (mr_skip (f := 60) hm hF hE hp (by omega)) ?_
            show ps_To _ _ _ _ (4, _, _, RD μ m F (skF (chF0 (fun x => ps_i μ (m + 6) (F + x)) E) 60 p) E ρ γ)
            rw [← eq0]
            refine e_4 rfl rfl ?_
            refine r_g15 hm rfl rfl ?_
            refine e_4 rfl rfl ?_
            refine r_g16 hm rfl rfl ?_
            refine e_36 rfl (fun h1 => ?_) (fun h1 => ?_)
            · exact absurd ((nI_eq (by omega) (by omega)).mp h1) (by omega)
            · refine e_4 rfl rfl ?_
              refine e_v0 rfl (by first | exact hm.1 | assumption | rfl) rfl (by decide) rfl (Nat.le_of_ble_eq_true rfl) (mr_here hm hF hE (by omega)) ?_
              refine e_0 rfl ?_
              refine e_36 rfl (fun h2 => ?_) (fun h2 => ?_)
              · refine e_4 rfl rfl ?_
                refine e_28 rfl rfl ?_
                refine r_g15 hm rfl rfl ?_
                refine e_0 rfl ?_
                refine e_9 rfl ?_
                refine r_p15 (p' := (q + 1)) hm rfl rfl (by first | rfl | (simp only [← nI_add, ← pk_mul]; rfl) | (simp only [nI_add, pk_mul, nI_1]; done)) ?_
                refine e_4 rfl rfl ?_
                refine e_0 rfl ?_
                refine e_0 rfl ?_
                refine e_v2 rfl (by first | exact hm.1 | assumption | rfl) rfl (by decide) rfl (Nat.le_of_ble_eq_true rfl) (mr_fig_ok (p := q + 1) (lo := 0) (hi := 9) hm hF hE (by omega) (by omega) (by omega) hb) ?_
                refine e_5 rfl rfl ?_
                refine e_2 rfl rfl ?_
                refine e_0 rfl ?_
                refine e_37 rfl (fun h3 => ?_) (fun h3 => ?_)
                · refine e_4 rfl rfl ?_
                  refine e_0 rfl ?_
                  refine e_0 rfl ?_
                  refine e_v2 rfl (by first | exact hm.1 | assumption | rfl) rfl (by decide) rfl (Nat.le_of_ble_eq_true rfl) (mr_fig_ok (p := q + 2) (lo := 0) (hi := 9) hm hF hE (by omega) (by omega) (by omega) hc) ?_
                  refine e_5 rfl rfl ?_
                  refine e_4 rfl rfl ?_
                  refine e_0 rfl ?_
                  refine e_2 rfl rfl ?_
                  refine e_11 rfl ?_
                  refine e_2 rfl rfl ?_
                  refine e_9 rfl ?_
                  refine r_pr hm rfl rfl (by decide) (by decide) ?_
                  refine e_4 rfl rfl ?_
                  refine e_2 rfl rfl ?_
                  refine e_0 rfl ?_
                  refine e_37 rfl (fun h4 => ?_) (fun h4 => ?_)
                  · refine e_4 rfl rfl ?_
                    refine e_0 rfl ?_
                    refine e_0 rfl ?_
                    refine e_v2 rfl (by first | exact hm.1 | assumption | rfl) rfl (by decide) rfl (Nat.le_of_ble_eq_true rfl) (mr_fig_no (p := q + 3) (lo := 1) (hi := 9) hm hF hE (by omega) (by omega) (by omega) hd) ?_
                    refine r_pr hm rfl rfl (by decide) (by decide) ?_
                    refine e_4 rfl rfl ?_
                    refine e_4 rfl rfl ?_
                    refine r_gr hm rfl rfl (by decide) (by decide) ?_
                    rw [pk_us]
                    refine e_0 rfl ?_
                    refine e_37 rfl (fun h5 => ?_) (fun h5 => ?_)
                    · exact absurd rfl h5
                    · refine e_0 rfl ?_
                      refine e_42 rfl ?_
                      refine r_pr hm rfl rfl (by decide) (by decide) ?_
                      refine e_4 rfl rfl ?_
                      refine r_gr hm rfl rfl (by decide) (by decide) ?_
                      rw [pk_us]
                      refine e_0 rfl ?_
                      refine e_37 rfl (fun h6 => ?_) (fun h6 => ?_)
                      · exact absurd rfl h6
                      · refine e_0 rfl ?_
                        refine e_42 rfl ?_
                        refine e_5 rfl rfl ?_
                        refine e_2 rfl rfl ?_
                        refine e_0 rfl ?_
                        refine e_37 rfl (fun h7 => ?_) (fun h7 => ?_)
                        · exact absurd rfl h7
                        · refine e_0 rfl ?_
                          refine e_42 rfl ?_
                          refine e_5 rfl rfl ?_
                          refine e_4 rfl rfl ?_
                          refine e_0 rfl ?_
                          refine e_2 rfl rfl ?_
                          refine e_11 rfl ?_
                          refine e_2 rfl rfl ?_
                          refine e_9 rfl ?_
                          refine r_pr hm rfl rfl (by decide) (by decide) ?_
                          refine e_2 rfl rfl ?_
                          refine e_0 rfl ?_
                          refine e_36 rfl (fun h8 => ?_) (fun h8 => ?_)
                          · refine e_0 rfl ?_
                            exact e_rz rfl rfl (by first | decide | exact b2i_01 | assumption) (by rfl) (rfl)
                          · exact absurd rfl h8
                  · exact absurd h4 (nI_n9 (by omega))
                · exact absurd h3 (nI_n9 (by omega))
              · exact absurd ha h2
          · first | rfl | (rw [pk_un (by decide), pk_un (by decide), pk_un (by decide), pk_un (by decide)])
          · exact fun z => absurd z (by decide)
      · skip
        have e : hullN (chF0 (fun x => ps_i μ (m + 6) (F + x)) E) q = 2 := by
          unfold hullN
          rw [if_neg (Classical.not_not.mpr ha), if_neg (Classical.not_not.mpr hb), if_pos hc]
        rw [e]
        refine ⟨upd (upd (upd (upd ρ 17 (10 * (nI (dvF (chF0 (fun x => ps_i μ (m + 6) (F + x)) E) (q + 1))) + (-9))) 18 (-9)) 19 (-9)) 20 (10 * (-9) + (-9)), ⟨Nat.le_of_ble_eq_true rfl, ?_⟩, ?_, ?_⟩
        · refine e_4 rfl rfl ?_
          refine e_v0v rfl (by first | exact hm.1 | assumption | rfl) rfl (by decide) rfl (Nat.le_of_ble_eq_true rfl) (mr_skip (f := 60) hm hF hE hp (by omega)) ?_
          show ps_To _ _ _ _ (4, _, _, RD μ m F (skF (chF0 (fun x => ps_i μ (m + 6) (F + x)) E) 60 p) E ρ γ)
          rw [← eq0]
          refine e_4 rfl rfl ?_
          refine r_g15 hm rfl rfl ?_
          refine e_4 rfl rfl ?_
          refine r_g16 hm rfl rfl ?_
          refine e_36 rfl (fun h1 => ?_) (fun h1 => ?_)
          · exact absurd ((nI_eq (by omega) (by omega)).mp h1) (by omega)
          · refine e_4 rfl rfl ?_
            refine e_v0 rfl (by first | exact hm.1 | assumption | rfl) rfl (by decide) rfl (Nat.le_of_ble_eq_true rfl) (mr_here hm hF hE (by omega)) ?_
            refine e_0 rfl ?_
            refine e_36 rfl (fun h2 => ?_) (fun h2 => ?_)
            · refine e_4 rfl rfl ?_
              refine e_28 rfl rfl ?_
              refine r_g15 hm rfl rfl ?_
              refine e_0 rfl ?_
              refine e_9 rfl ?_
              refine r_p15 (p' := (q + 1)) hm rfl rfl (by first | rfl | (simp only [← nI_add, ← pk_mul]; rfl) | (simp only [nI_add, pk_mul, nI_1]; done)) ?_
              refine e_4 rfl rfl ?_
              refine e_0 rfl ?_
              refine e_0 rfl ?_
              refine e_v2 rfl (by first | exact hm.1 | assumption | rfl) rfl (by decide) rfl (Nat.le_of_ble_eq_true rfl) (mr_fig_ok (p := q + 1) (lo := 0) (hi := 9) hm hF hE (by omega) (by omega) (by omega) hb) ?_
              refine e_5 rfl rfl ?_
              refine e_2 rfl rfl ?_
              refine e_0 rfl ?_
              refine e_37 rfl (fun h3 => ?_) (fun h3 => ?_)
              · refine e_4 rfl rfl ?_
                refine e_0 rfl ?_
                refine e_0 rfl ?_
                refine e_v2 rfl (by first | exact hm.1 | assumption | rfl) rfl (by decide) rfl (Nat.le_of_ble_eq_true rfl) (mr_fig_no (p := q + 2) (lo := 0) (hi := 9) hm hF hE (by omega) (by omega) (by omega) hc) ?_
                refine e_5 rfl rfl ?_
                refine e_4 rfl rfl ?_
                refine e_0 rfl ?_
                refine e_2 rfl rfl ?_
                refine e_11 rfl ?_
                refine e_2 rfl rfl ?_
                refine e_9 rfl ?_
                refine r_pr hm rfl rfl (by decide) (by decide) ?_
                refine e_4 rfl rfl ?_
                refine e_2 rfl rfl ?_
                refine e_0 rfl ?_
                refine e_37 rfl (fun h4 => ?_) (fun h4 => ?_)
                · exact absurd rfl h4
                · refine e_0 rfl ?_
                  refine e_42 rfl ?_
                  refine r_pr hm rfl rfl (by decide) (by decide) ?_
                  refine e_4 rfl rfl ?_
                  refine e_4 rfl rfl ?_
                  refine r_gr hm rfl rfl (by decide) (by decide) ?_
                  rw [pk_us]
                  refine e_0 rfl ?_
                  refine e_37 rfl (fun h5 => ?_) (fun h5 => ?_)
                  · exact absurd rfl h5
                  · refine e_0 rfl ?_
                    refine e_42 rfl ?_
                    refine r_pr hm rfl rfl (by decide) (by decide) ?_
                    refine e_4 rfl rfl ?_
                    refine r_gr hm rfl rfl (by decide) (by decide) ?_
                    rw [pk_us]
                    refine e_0 rfl ?_
                    refine e_37 rfl (fun h6 => ?_) (fun h6 => ?_)
                    · exact absurd rfl h6
                    · refine e_0 rfl ?_
                      refine e_42 rfl ?_
                      refine e_5 rfl rfl ?_
                      refine e_2 rfl rfl ?_
                      refine e_0 rfl ?_
                      refine e_37 rfl (fun h7 => ?_) (fun h7 => ?_)
                      · exact absurd rfl h7
                      · refine e_0 rfl ?_
                        refine e_42 rfl ?_
                        refine e_5 rfl rfl ?_
                        refine e_4 rfl rfl ?_
                        refine e_0 rfl ?_
                        refine e_2 rfl rfl ?_
                        refine e_11 rfl ?_
                        refine e_2 rfl rfl ?_
                        refine e_9 rfl ?_
                        refine r_pr hm rfl rfl (by decide) (by decide) ?_
                        refine e_2 rfl rfl ?_
                        refine e_0 rfl ?_
                        refine e_36 rfl (fun h8 => ?_) (fun h8 => ?_)
                        · refine e_0 rfl ?_
                          exact e_rz rfl rfl (by first | decide | exact b2i_01 | assumption) (by rfl) (rfl)
                        · exact absurd rfl h8
              · exact absurd h3 (nI_n9 (by omega))
            · exact absurd ha h2
        · first | rfl | (rw [pk_un (by decide), pk_un (by decide), pk_un (by decide), pk_un (by decide)])
        · exact fun z => absurd z (by decide)
    · skip
      have e : hullN (chF0 (fun x => ps_i μ (m + 6) (F + x)) E) q = 1 := by
        unfold hullN
        rw [if_neg (Classical.not_not.mpr ha), if_pos hb]
      rw [e]
      refine ⟨upd (upd (upd (upd ρ 17 (10 * (-9) + (-9))) 18 (-9)) 19 (-9)) 20 (10 * (-9) + (-9)), ⟨Nat.le_of_ble_eq_true rfl, ?_⟩, ?_, ?_⟩
      · refine e_4 rfl rfl ?_
        refine e_v0v rfl (by first | exact hm.1 | assumption | rfl) rfl (by decide) rfl (Nat.le_of_ble_eq_true rfl) (mr_skip (f := 60) hm hF hE hp (by omega)) ?_
        show ps_To _ _ _ _ (4, _, _, RD μ m F (skF (chF0 (fun x => ps_i μ (m + 6) (F + x)) E) 60 p) E ρ γ)
        rw [← eq0]
        refine e_4 rfl rfl ?_
        refine r_g15 hm rfl rfl ?_
        refine e_4 rfl rfl ?_
        refine r_g16 hm rfl rfl ?_
        refine e_36 rfl (fun h1 => ?_) (fun h1 => ?_)
        · exact absurd ((nI_eq (by omega) (by omega)).mp h1) (by omega)
        · refine e_4 rfl rfl ?_
          refine e_v0 rfl (by first | exact hm.1 | assumption | rfl) rfl (by decide) rfl (Nat.le_of_ble_eq_true rfl) (mr_here hm hF hE (by omega)) ?_
          refine e_0 rfl ?_
          refine e_36 rfl (fun h2 => ?_) (fun h2 => ?_)
          · refine e_4 rfl rfl ?_
            refine e_28 rfl rfl ?_
            refine r_g15 hm rfl rfl ?_
            refine e_0 rfl ?_
            refine e_9 rfl ?_
            refine r_p15 (p' := (q + 1)) hm rfl rfl (by first | rfl | (simp only [← nI_add, ← pk_mul]; rfl) | (simp only [nI_add, pk_mul, nI_1]; done)) ?_
            refine e_4 rfl rfl ?_
            refine e_0 rfl ?_
            refine e_0 rfl ?_
            refine e_v2 rfl (by first | exact hm.1 | assumption | rfl) rfl (by decide) rfl (Nat.le_of_ble_eq_true rfl) (mr_fig_no (p := q + 1) (lo := 0) (hi := 9) hm hF hE (by omega) (by omega) (by omega) hb) ?_
            refine e_5 rfl rfl ?_
            refine e_2 rfl rfl ?_
            refine e_0 rfl ?_
            refine e_37 rfl (fun h3 => ?_) (fun h3 => ?_)
            · exact absurd rfl h3
            · refine e_0 rfl ?_
              refine e_42 rfl ?_
              refine e_5 rfl rfl ?_
              refine e_4 rfl rfl ?_
              refine e_0 rfl ?_
              refine e_2 rfl rfl ?_
              refine e_11 rfl ?_
              refine e_2 rfl rfl ?_
              refine e_9 rfl ?_
              refine r_pr hm rfl rfl (by decide) (by decide) ?_
              refine e_4 rfl rfl ?_
              refine e_2 rfl rfl ?_
              refine e_0 rfl ?_
              refine e_37 rfl (fun h4 => ?_) (fun h4 => ?_)
              · exact absurd rfl h4
              · refine e_0 rfl ?_
                refine e_42 rfl ?_
                refine r_pr hm rfl rfl (by decide) (by decide) ?_
                refine e_4 rfl rfl ?_
                refine e_4 rfl rfl ?_
                refine r_gr hm rfl rfl (by decide) (by decide) ?_
                rw [pk_us]
                refine e_0 rfl ?_
                refine e_37 rfl (fun h5 => ?_) (fun h5 => ?_)
                · exact absurd rfl h5
                · refine e_0 rfl ?_
                  refine e_42 rfl ?_
                  refine r_pr hm rfl rfl (by decide) (by decide) ?_
                  refine e_4 rfl rfl ?_
                  refine r_gr hm rfl rfl (by decide) (by decide) ?_
                  rw [pk_us]
                  refine e_0 rfl ?_
                  refine e_37 rfl (fun h6 => ?_) (fun h6 => ?_)
                  · exact absurd rfl h6
                  · refine e_0 rfl ?_
                    refine e_42 rfl ?_
                    refine e_5 rfl rfl ?_
                    refine e_2 rfl rfl ?_
                    refine e_0 rfl ?_
                    refine e_37 rfl (fun h7 => ?_) (fun h7 => ?_)
                    · exact absurd rfl h7
                    · refine e_0 rfl ?_
                      refine e_42 rfl ?_
                      refine e_5 rfl rfl ?_
                      refine e_4 rfl rfl ?_
                      refine e_0 rfl ?_
                      refine e_2 rfl rfl ?_
                      refine e_11 rfl ?_
                      refine e_2 rfl rfl ?_
                      refine e_9 rfl ?_
                      refine r_pr hm rfl rfl (by decide) (by decide) ?_
                      refine e_2 rfl rfl ?_
                      refine e_0 rfl ?_
                      refine e_36 rfl (fun h8 => ?_) (fun h8 => ?_)
                      · refine e_0 rfl ?_
                        exact e_rz rfl rfl (by first | decide | exact b2i_01 | assumption) (by rfl) (rfl)
                      · exact absurd rfl h8
          · exact absurd ha h2
      · first | rfl | (rw [pk_un (by decide), pk_un (by decide), pk_un (by decide), pk_un (by decide)])
      · exact fun z => absurd z (by decide)
  · skip
    have e : hullN (chF0 (fun x => ps_i μ (m + 6) (F + x)) E) q = 0 := by
      unfold hullN
      rw [if_pos ha]
    rw [e]
    refine ⟨ρ, ⟨Nat.le_of_ble_eq_true rfl, ?_⟩, ?_, ?_⟩
    · by_cases hqE : q = E
      · skip
        refine e_4 rfl rfl ?_
        refine e_v0v rfl (by first | exact hm.1 | assumption | rfl) rfl (by decide) rfl (Nat.le_of_ble_eq_true rfl) (mr_skip (f := 60) hm hF hE hp (by omega)) ?_
        show ps_To _ _ _ _ (4, _, _, RD μ m F (skF (chF0 (fun x => ps_i μ (m + 6) (F + x)) E) 60 p) E ρ γ)
        rw [← eq0]
        refine e_4 rfl rfl ?_
        refine r_g15 hm rfl rfl ?_
        refine e_4 rfl rfl ?_
        refine r_g16 hm rfl rfl ?_
        refine e_36 rfl (fun h1 => ?_) (fun h1 => ?_)
        · refine e_0 rfl ?_
          exact e_rz rfl rfl (by first | decide | exact b2i_01 | assumption) (by rfl) (rfl)
        · exact absurd (congrArg nI hqE) h1
      · skip
        refine e_4 rfl rfl ?_
        refine e_v0v rfl (by first | exact hm.1 | assumption | rfl) rfl (by decide) rfl (Nat.le_of_ble_eq_true rfl) (mr_skip (f := 60) hm hF hE hp (by omega)) ?_
        show ps_To _ _ _ _ (4, _, _, RD μ m F (skF (chF0 (fun x => ps_i μ (m + 6) (F + x)) E) 60 p) E ρ γ)
        rw [← eq0]
        refine e_4 rfl rfl ?_
        refine r_g15 hm rfl rfl ?_
        refine e_4 rfl rfl ?_
        refine r_g16 hm rfl rfl ?_
        refine e_36 rfl (fun h1 => ?_) (fun h1 => ?_)
        · exact absurd ((nI_eq (by omega) (by omega)).mp h1) hqE
        · refine e_4 rfl rfl ?_
          refine e_v0 rfl (by first | exact hm.1 | assumption | rfl) rfl (by decide) rfl (Nat.le_of_ble_eq_true rfl) (mr_here hm hF hE (by omega)) ?_
          refine e_0 rfl ?_
          refine e_36 rfl (fun h2 => ?_) (fun h2 => ?_)
          · exact absurd h2 ha
          · refine e_0 rfl ?_
            exact e_rz rfl rfl (by first | decide | exact b2i_01 | assumption) (by rfl) (rfl)
    · first | rfl | (rw [pk_un (by decide), pk_un (by decide), pk_un (by decide), pk_un (by decide)])
    · exact fun z => absurd z (by decide)
end MRD
