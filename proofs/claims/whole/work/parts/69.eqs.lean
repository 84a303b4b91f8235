-- ===== ships that are the same as far as their gangs go =====
def eqS (g : Nat) (σ τ : Nat → Int32) : Prop := (∀ k, k < 9 → σ k = τ k) ∧ ∀ i, i < g → σ (9 + i) = τ (9 + i) ∧ σ (15 + i) = τ (15 + i) ∧ σ (21 + i) = τ (21 + i)
section EQS2
variable {g : Nat} {σ τ : Nat → Int32}
theorem eqS.rf : eqS g σ σ := ⟨fun _ _ => rfl, fun _ _ => ⟨rfl, rfl, rfl⟩⟩
theorem eqS.sym (h : eqS g σ τ) : eqS g τ σ := ⟨fun k hk => (h.1 k hk).symm, fun i hi => ⟨(h.2 i hi).1.symm, (h.2 i hi).2.1.symm, (h.2 i hi).2.2.symm⟩⟩
theorem eqS.tr {ρ : Nat → Int32} (h : eqS g σ τ) (h2 : eqS g τ ρ) : eqS g σ ρ := ⟨fun k hk => (h.1 k hk).trans (h2.1 k hk), fun i hi => ⟨(h.2 i hi).1.trans (h2.2 i hi).1, (h.2 i hi).2.1.trans (h2.2 i hi).2.1, (h.2 i hi).2.2.trans (h2.2 i hi).2.2⟩⟩
theorem eqS.of27 (hg : g ≤ 6) (h : ∀ k, k < 27 → σ k = τ k) : eqS g σ τ := ⟨fun k hk => h k (by omega), fun i hi => ⟨h _ (by omega), h _ (by omega), h _ (by omega)⟩⟩
theorem eqS.has (h : eqS g σ τ) (a : Int32) : hasF σ a ↔ hasF τ a := by unfold hasF; rw [h.1 8 (by decide)]
theorem eqS.sunk (h : eqS g σ τ) : sunkF σ ↔ sunkF τ := by unfold sunkF; rw [h.1 0 (by decide)]
theorem eqS.over (h : eqS g σ τ) : overF σ ↔ overF τ := by unfold overF; rw [h.1 0 (by decide), h.1 5 (by decide), h.1 4 (by decide)]
theorem eqS.alw (h : eqS g σ τ) (a : Int32) : allowsF σ a ↔ allowsF τ a := by unfold allowsF hasF; rw [h.1 2 (by decide), h.1 7 (by decide), h.1 8 (by decide)]
theorem eqS.can (h : eqS g σ τ) (a : Int32) : canF σ a ↔ canF τ a := by
  unfold canF
  rw [h.1 8 (by decide), h.over, h.alw a]
theorem eqS.leak (h : eqS g σ τ) : leakF σ = leakF τ := by unfold leakF; rw [h.1 0 (by decide), h.1 1 (by decide), h.1 3 (by decide), h.1 7 (by decide)]
theorem eqS.pumped (h : eqS g σ τ) (hg : g ≤ 6) (h8 : σ 8 = nI g) (a : Int32) : pumpedF σ a = pumpedF τ a := by
  unfold pumpedF
  by_cases z : hasF σ a
  · rw [if_pos z, if_pos ((h.has a).mp z)]
    obtain ⟨x, hx, rfl⟩ := has_of hg h8 z
    rw [nI_clamp (by omega), h.1 6 (by decide), (h.2 x hx).1, (h.2 x hx).2.2]
  · rw [if_neg z, if_neg (fun q => z ((h.has a).mpr q))]
theorem eqS.pass (h : eqS g σ τ) (hg : g ≤ 6) (h8 : σ 8 = nI g) (a : Int32) : eqS g (passF g σ a) (passF g τ a) := by
  have hh := h.has a
  refine ⟨fun k hk => ?_, fun i hi => ⟨?_, ?_, ?_⟩⟩
  · rcases (show k = 0 ∨ k = 1 ∨ k = 2 ∨ k = 3 ∨ k = 4 ∨ k = 5 ∨ k = 6 ∨ k = 7 ∨ k = 8 by omega) with rfl | rfl | rfl | rfl | rfl | rfl | rfl | rfl | rfl
    · rw [pF_0, pF_0, h.leak, h.pumped hg h8, h.1 0 (by decide)]
    · rw [passF_lo (by omega) (by omega), passF_lo (by omega) (by omega), h.1 1 (by decide)]
    · rw [pF_2, pF_2, h.1 2 (by decide)]; unfold hasF; rw [h.1 8 (by decide)]
    · rw [pF_3, pF_3, h.1 3 (by decide)]; unfold hasF; rw [h.1 8 (by decide)]
    · rw [passF_lo (by omega) (by omega), passF_lo (by omega) (by omega), h.1 4 (by decide)]
    · rw [pF_5, pF_5, h.1 5 (by decide)]
    · rw [pF_6, pF_6, h.1 6 (by decide)]
      by_cases z : hasF σ a
      · rw [if_pos z, if_pos (hh.mp z)]
        obtain ⟨x, hx, rfl⟩ := has_of hg h8 z
        rw [nI_clamp (by omega), (h.2 x hx).1]
      · rw [if_neg z, if_neg (fun q => z (hh.mpr q))]
    · rw [pF_7, pF_7, h.1 7 (by decide)]; unfold hasF; rw [h.1 8 (by decide)]
    · rw [passF_8, passF_8, h.1 8 (by decide)]
  · rw [passF_lo (by omega) (by omega), passF_lo (by omega) (by omega), (h.2 i hi).1]
  · rw [passF_lo (by omega) (by omega), passF_lo (by omega) (by omega), (h.2 i hi).2.1]
  · have e : ∀ ρ : Nat → Int32, passF g ρ a (21 + i) = tireV ρ a i := fun ρ => by
      rw [passF_pt, if_neg (by omega), if_neg (by omega), if_neg (by omega), if_neg (by omega), if_neg (by omega), if_neg (by omega)]
      unfold tiU
      rw [if_pos (by omega), show 21 + i - 21 = i by omega]
    rw [e, e]
    unfold tireV
    rw [(h.2 i hi).1, (h.2 i hi).2.1, (h.2 i hi).2.2]
theorem eqS.rest (h : eqS g σ τ) (hg : g ≤ 6) (h8 : σ 8 = nI g) (a : Int32) : eqS g (restF g σ a) (restF g τ a) := by
  unfold restF
  by_cases z : allowsF σ a
  · rw [if_pos z, if_pos ((h.alw a).mp z)]; exact h.pass hg h8 _
  · rw [if_neg z, if_neg (fun q => z ((h.alw a).mpr q))]; exact h.pass hg h8 _
theorem eqS.up (h : eqS g σ τ) (k : Nat) (v : Int32) : eqS g (upd σ k v) (upd τ k v) := by
  have e : ∀ j, σ j = τ j → upd σ k v j = upd τ k v j := fun j hj => by
    by_cases z : j = k
    · subst z; rw [pk_us, pk_us]
    · rw [pk_un z, pk_un z, hj]
  exact ⟨fun j hj => e j (h.1 j hj), fun i hi => ⟨e _ (h.2 i hi).1, e _ (h.2 i hi).2.1, e _ (h.2 i hi).2.2⟩⟩
theorem eqS.again (hg : g ≤ 6) (a : Int32) : ∀ n (σ τ : Nat → Int32), eqS g σ τ → σ 8 = nI g → eqS g (againF g a n σ) (againF g a n τ)
  | 0, _, _, h, _ => h
  | n + 1, σ, τ, h, h8 => by
    unfold againF
    by_cases z : overF σ
    · rw [if_pos z, if_pos (h.over.mp z)]; exact h
    · rw [if_neg z, if_neg (fun q => z (h.over.mpr q))]
      exact eqS.again hg a n _ _ (h.rest hg h8 a) (restF_8.trans h8)
theorem eqS.rota (hg : g ≤ 6) {p q : Nat → Int32} {m : Nat} (hm : 0 < m) (hpq : ∀ j, j < m → p j = q j) : ∀ n x (σ τ : Nat → Int32), x < m → eqS g σ τ → σ 8 = nI g → eqS g (rotaF g p m n x σ) (rotaF g q m n x τ)
  | 0, _, _, _, _, h, _ => h
  | n + 1, x, σ, τ, hx, h, h8 => by
    unfold rotaF
    by_cases z : overF σ
    · rw [if_pos z, if_pos (h.over.mp z)]; exact h
    · rw [if_neg z, if_neg (fun q => z (h.over.mpr q)), hpq x hx]
      refine eqS.rota hg hm hpq n _ _ _ ?_ (h.rest hg h8 _) (restF_8.trans h8)
      split <;> omega
theorem eqS.plan (hg : g ≤ 6) {p q : Nat → Int32} : ∀ n i (σ τ : Nat → Int32), (∀ j, j < i + n → p j = q j) → eqS g σ τ → σ 8 = nI g → (planF g p n i σ).1 = (planF g q n i τ).1 ∧ eqS g (planF g p n i σ).2 (planF g q n i τ).2
  | 0, _, _, _, _, h, _ => ⟨rfl, h⟩
  | n + 1, i, σ, τ, hpq, h, h8 => by
    unfold planF
    rw [hpq i (by omega)]
    by_cases z : canF σ (q i)
    · rw [if_neg (Classical.not_not.mpr z), if_neg (Classical.not_not.mpr ((h.can _).mp z))]
      have h2 := h.pass hg h8 (q i)
      by_cases w : sunkF (passF g σ (q i))
      · rw [if_pos w, if_pos (h2.sunk.mp w)]; exact ⟨rfl, h2⟩
      · rw [if_neg w, if_neg (fun y => w (h2.sunk.mpr y))]
        exact eqS.plan hg n (i + 1) _ _ (fun j hj => hpq j (by omega)) h2 (passF_8.trans h8)
    · rw [if_pos z, if_pos (fun y => z ((h.can _).mpr y))]; exact ⟨rfl, h⟩
theorem eqS.so (hg : g ≤ 6) {p q : Nat → Int32} : ∀ n i (σ τ : Nat → Int32), (∀ j, j < i + 2 * n → p j = q j) → eqS g σ τ → σ 8 = nI g → (soF g p n i σ).1 = (soF g q n i τ).1
  | 0, _, _, _, _, _, _ => rfl
  | n + 1, i, σ, τ, hpq, h, h8 => by
    unfold soF
    rw [hpq i (by omega), hpq (i + 1) (by omega)]
    have h2 := h.pass hg h8 (q i)
    rw [h2.1 0 (by decide)]
    split
    · exact eqS.so hg n (i + 2) _ _ (fun j hj => hpq j (by omega)) h2 (passF_8.trans h8)
    · rfl
theorem eqS.all (hg : g ≤ 6) {p q : Nat → Int32} : ∀ n i (σ τ : Nat → Int32), (∀ j, j < i + 2 * n → p j = q j) → eqS g σ τ → σ 8 = nI g → (allF g p n i σ).1 = (allF g q n i τ).1
  | 0, _, _, _, _, _, _ => rfl
  | n + 1, i, σ, τ, hpq, h, h8 => by
    unfold allF
    rw [hpq i (by omega), h.1 4 (by decide), h.1 5 (by decide)]
    by_cases z : actP (q i) ∧ ¬ τ 4 ≤ τ 5 ∧ allowsF σ (q i)
    · rw [if_neg (Classical.not_not.mpr z), if_neg (Classical.not_not.mpr ⟨z.1, z.2.1, (h.alw _).mp z.2.2⟩)]
      exact eqS.all hg n (i + 2) _ _ (fun j hj => hpq j (by omega)) (h.pass hg h8 _) (passF_8.trans h8)
    · rw [if_pos z, if_pos (fun y => z ⟨y.1, y.2.1, (h.alw _).mpr y.2.2⟩)]
theorem keep_y {p : Nat → Int32} {n i : Nat} (z : ¬ overF σ ∧ allowsF σ (p i)) : keepF g p (n + 1) i σ = (if sunkF (passF g σ (p i)) then (0, passF g σ (p i)) else keepF g p n (i + 1) (passF g σ (p i))) := if_neg (Classical.not_not.mpr z)
theorem keep_n {p : Nat → Int32} {n i : Nat} (z : ¬ (¬ overF σ ∧ allowsF σ (p i))) : keepF g p (n + 1) i σ = (0, σ) := if_pos z
theorem eqS.keep (hg : g ≤ 6) {p q : Nat → Int32} : ∀ n i (σ τ : Nat → Int32), (∀ j, j < i + n → p j = q j) → eqS g σ τ → σ 8 = nI g → (keepF g p n i σ).1 = (keepF g q n i τ).1 ∧ eqS g (keepF g p n i σ).2 (keepF g q n i τ).2
  | 0, _, _, _, _, h, _ => ⟨rfl, h⟩
  | n + 1, i, σ, τ, hpq, h, h8 => by
    have ep := hpq i (by omega)
    by_cases z : ¬ overF σ ∧ allowsF σ (p i)
    · have z2 : ¬ overF τ ∧ allowsF τ (q i) := ⟨fun y => z.1 (h.over.mpr y), by rw [← ep]; exact (h.alw _).mp z.2⟩
      rw [keep_y z, keep_y z2, ep]
      have h2 := h.pass hg h8 (q i)
      by_cases w : sunkF (passF g σ (q i))
      · rw [if_pos w, if_pos (h2.sunk.mp w)]; exact ⟨rfl, h2⟩
      · rw [if_neg w, if_neg (fun y => w (h2.sunk.mpr y))]
        exact eqS.keep hg n (i + 1) _ _ (fun j hj => hpq j (by omega)) h2 (passF_8.trans h8)
    · have z2 : ¬ (¬ overF τ ∧ allowsF τ (q i)) := fun y => z ⟨fun u => y.1 (h.over.mp u), by rw [ep]; exact (h.alw _).mpr y.2⟩
      rw [keep_n z, keep_n z2]; exact ⟨rfl, h⟩
theorem eqS.chk (h : eqS g σ τ) : eqS g (chkS σ) (chkS τ) := by
  unfold chkS
  rw [h.1 6 (by decide)]
  exact h.up 6 _
theorem eqS.ch (hg : g ≤ 6) (a : Int32) (s : Nat) : ∀ n k (σ τ : Nat → Int32), eqS g σ τ → σ 8 = nI g → eqS g (chF g a s n k σ) (chF g a s n k τ)
  | 0, _, _, _, h, _ => h
  | n + 1, k, σ, τ, h, h8 => by
    unfold chF
    by_cases z : overF σ
    · rw [if_pos z, if_pos (h.over.mp z)]; exact h
    · rw [if_neg z, if_neg (fun q => z (h.over.mpr q))]
      by_cases w : hasF σ a ∧ bitN s k = 1
      · rw [if_pos w, if_pos ⟨(h.has a).mp w.1, w.2⟩]
        have e8 : chkS σ 8 = nI g := (pk_un (by omega)).trans h8
        exact eqS.ch hg a s n (k + 1) _ _ (h.chk.rest hg e8 a) (restF_8.trans e8)
      · rw [if_neg w, if_neg (fun y => w ⟨(h.has a).mpr y.1, y.2⟩)]
        exact eqS.ch hg a s n (k + 1) _ _ (h.rest hg h8 a) (restF_8.trans h8)
theorem eqS.by (h : eqS g σ τ) (w : Int32) : byF w σ = byF w τ := by
  unfold byF
  by_cases z : sunkF σ
  · rw [if_pos z, if_pos (h.sunk.mp z)]
  · rw [if_neg z, if_neg (fun y => z (h.sunk.mpr y)), h.1 0 (by decide)]
theorem eqS.ab (hg : g ≤ 6) (a : Int32) (p N : Nat) (w : Int32) (h : eqS g σ τ) (h8 : σ 8 = nI g) : ∀ n, abF g a p N w σ n = abF g a p N w τ n
  | 0 => rfl
  | n + 1 => by
    unfold abF
    rw [eqS.ab hg a p N w h h8 n, (eqS.ch hg a n N 0 σ τ h h8).by w]
theorem eqS.canSet (h : eqS g σ τ) : canS σ = canS τ := bitsN_c 10 (fun i _ => h.can (nI i))
theorem eqS.canBn (h : eqS g σ τ) : canB σ = canB τ := by
  have e := h.canSet
  rw [canS_B, canS_B] at e
  exact (nI_eq (Nat.lt_trans canB_lt (by omega)) (Nat.lt_trans canB_lt (by omega))).mp e
theorem eqS.drawn (h : eqS g σ τ) (l : Nat) : drawN σ l = drawN τ l := by unfold drawN; rw [h.canBn]
theorem eqS.ofShip (h : eqS g σ τ) (what : Int32) : ofShipF σ what = ofShipF τ what := by
  unfold ofShipF
  rw [b2i_c h.sunk, h.leak, h.1 0 (by decide), h.1 2 (by decide), h.1 3 (by decide), h.1 7 (by decide), h.1 6 (by decide), h.1 5 (by decide), h.1 4 (by decide)]
theorem eqS.ofGang (h : eqS g σ τ) {x : Nat} (hx : x < g) (what : Int32) : ofGangF σ x what = ofGangF τ x what := by
  unfold ofGangF
  rw [(h.2 x hx).1, (h.2 x hx).2.1, (h.2 x hx).2.2, h.1 6 (by decide)]
theorem eqS.sing (h : eqS g σ τ) : singF g σ = singF g τ := cntN_c g (fun i hi => by rw [(h.2 i hi).1, (h.2 i hi).2.2])
theorem eqS.mark (h : eqS g σ τ) {x : Nat} (hx : x < g) (kind : Int32) : markF g σ x kind = markF g τ x kind := by
  unfold markF
  rw [(h.2 x hx).1, (h.2 x hx).2.2, h.1 6 (by decide), h.sing]
theorem psum_c {f k : Nat → Int32} : ∀ n, (∀ i, i < n → f i = k i) → psum f n = psum k n
  | 0, _ => rfl
  | n + 1, e => by
    unfold psum
    rw [psum_c n (fun i hi => e i (by omega)), e n (by omega)]
theorem eqS.lit (h : eqS g σ τ) (i : Nat) : eqS g (litS σ i) (litS τ i) := by
  unfold litS
  rw [h.1 2 (by decide), h.1 3 (by decide)]
  exact (h.up 2 _).up 3 _
theorem eqS.light (hg : g ≤ 6) (a : Int32) (h : eqS g σ τ) (h8 : σ 8 = nI g) : ∀ n i ρ ρ', (lightF g a σ n i ρ).1 = (lightF g a τ n i ρ').1
  | 0, _, _, _ => rfl
  | n + 1, i, ρ, ρ' => by
    unfold lightF
    have h2 := eqS.again hg a 40 _ _ (h.lit i) (show litS σ i 8 = nI g from (pk_un (by omega)).trans ((pk_un (by omega)).trans h8))
    by_cases z : sunkF (againF g a 40 (litS σ i))
    · rw [if_pos z, if_pos (h2.sunk.mp z)]
      exact eqS.light hg a h h8 n (i + 1) _ _
    · rw [if_neg z, if_neg (fun y => z (h2.sunk.mpr y))]
theorem eqS.lots (hg : g ≤ 6) : ∀ n l (σ τ : Nat → Int32), eqS g σ τ → σ 8 = nI g → (lotE g n l σ).1 = (lotE g n l τ).1 ∧ eqS g (lotE g n l σ).2 (lotE g n l τ).2
  | 0, _, _, _, h, _ => ⟨rfl, h⟩
  | n + 1, l, σ, τ, h, h8 => by
    unfold lotE
    by_cases z : overF σ
    · rw [if_pos z, if_pos (h.over.mp z)]; exact ⟨rfl, h⟩
    · rw [if_neg z, if_neg (fun q => z (h.over.mpr q)), h.drawn]
      have h2 := eqS.lots hg n (lotN l) _ _ (h.pass hg h8 (nI (drawN τ (lotN l)))) (passF_8.trans h8)
      exact ⟨congrArg (· + 1) h2.1, h2.2⟩
theorem shI_eqS (h : shI g σ) (e : eqS g σ τ) : shI g τ := by
  obtain ⟨⟨hg, h8, hst⟩, hf, h7, ⟨c, hc, e2⟩, h0, p, q, hpq, hq, e5, e4⟩ := h
  refine ⟨⟨hg, (e.1 8 (by decide)).symm.trans h8, fun i hi => ?_⟩, fun i hi => ?_, ?_, ⟨c, hc, (e.1 2 (by decide)).symm.trans e2⟩, ?_, p, q, hpq, hq, (e.1 5 (by decide)).symm.trans e5, (e.1 4 (by decide)).symm.trans e4⟩
  · rw [← (e.2 i hi).1, ← (e.2 i hi).2.2]; exact hst i hi
  · rw [← (e.2 i hi).2.1, ← (e.2 i hi).2.2]; exact hf i hi
  · rw [← e.1 7 (by decide)]; exact h7
  · rw [← e.1 0 (by decide)]; exact h0
end EQS2

