-- ===== the relation of class and model =====
abbrev MD : Nat := 83
def scr (a i : Nat) : Prop := (10 ≤ a ∧ a ≤ 43) ∨ (a = 83 ∧ 14 ≤ i) ∨ a = 91 ∨ (a = 84 ∧ 1832 ≤ i)
def Rw (I J : Nat → Nat → Int32) : Prop := ∀ k, k < 6 → I (45 + 2 * k) 0 = J 86 k ∧ szP (J 86 k) 40 ∧ ∀ i, i < (J 86 k).toNatClampNeg → I (45 + 2 * k + 1) i = J 87 (40 * k + i)
def Tx (I J : Nat → Nat → Int32) : Prop := ∀ k, k < 4 → I (57 + 2 * k) 0 = J 88 k ∧ szP (J 88 k) 60 ∧ ∀ i, i < (J 88 k).toNatClampNeg → I (57 + 2 * k + 1) i = J 89 (60 * k + i)
def pastR (g : Nat) (P Q : Nat → Int32) (a b : Nat) : Prop := P a = Q b ∧ P (a + 1) = Q (b + 1) ∧ P (a + 2) = Q (b + 2) ∧ P (a + 3) = Q (b + 4) ∧ P (a + 4) = Q (b + 3) ∧ (∀ i, i < g → P (a + 5 + i) = Q (b + 5 + i)) ∧ ¬ Q b < 0 ∧ (∃ c, c ≤ 9 ∧ Q (b + 1) = nI c) ∧ (Q (b + 3) = 0 ∨ Q (b + 3) = 1) ∧ ∀ i, i < g → ∃ s, s ≤ 9 ∧ Q (b + 5 + i) = nI s
def SPr (g : Nat) (I J : Nat → Nat → Int32) (b c B : Nat) : Prop := shI g (mdG J 83 B) ∧ eqS g (shG I b) (mdG J 83 B) ∧ ∀ h, h < (J 84 B).toNatClampNeg → pastR g (I c) (J 84) (11 * h) (B + 18 + 11 * h)
def Kp (g : Nat) (I J : Nat → Nat → Int32) : Prop := ∀ k, k < 3 → (J 84 (458 * (1 + k)) = -1 ∧ I (65 + 6 * k) 1 = 0) ∨ (I (65 + 6 * k) 1 = 1 ∧ SPr g I J (65 + 6 * k + 1) (65 + 6 * k + 5) (458 * (1 + k)))
def Sc (I J : Nat → Nat → Int32) : Prop := I 0 10 = J 83 12 ∧ I 0 11 = J 83 9 ∧ ∀ f, f < 6 → I 44 f = J 90 f
def Dt (g : Nat) (I J : Nat → Nat → Int32) : Prop := Rw I J ∧ Tx I J ∧ SPr g I J 4 8 0 ∧ Kp g I J ∧ Sc I J
def Inv (W : Nat) (μ : ps_M) : Prop := isPs μ ∧ isMd μ 83 ∧ ps_n μ = 92 ∧ ps_w μ = W ∧ (∃ g, Dt g (ps_i μ) (ps_i μ)) ∧ ps_l μ 0 12 = ps_l μ 83 10 ∧ ps_l μ 0 13 = ps_l μ 83 11
theorem Rw.c {I J I' J' : Nat → Nat → Int32} (h : Rw I J) (hI : ∀ a i, 45 ≤ a → a ≤ 56 → I' a i = I a i) (hJ : ∀ a i, 86 ≤ a → a ≤ 87 → J' a i = J a i) : Rw I' J' := fun k hk => by
  rw [hI _ _ (by omega) (by omega), hJ _ _ (by omega) (by omega)]
  refine ⟨(h k hk).1, (h k hk).2.1, fun i hi => ?_⟩
  rw [hI _ _ (by omega) (by omega), hJ _ _ (by omega) (by omega)]
  exact (h k hk).2.2 i hi
theorem Tx.c {I J I' J' : Nat → Nat → Int32} (h : Tx I J) (hI : ∀ a i, 57 ≤ a → a ≤ 64 → I' a i = I a i) (hJ : ∀ a i, 88 ≤ a → a ≤ 89 → J' a i = J a i) : Tx I' J' := fun k hk => by
  rw [hI _ _ (by omega) (by omega), hJ _ _ (by omega) (by omega)]
  refine ⟨(h k hk).1, (h k hk).2.1, fun i hi => ?_⟩
  rw [hI _ _ (by omega) (by omega), hJ _ _ (by omega) (by omega)]
  exact (h k hk).2.2 i hi
theorem mdG_cells {I J : Nat → Nat → Int32} {B : Nat} (h83 : ∀ i, i = 1 ∨ i = 3 ∨ i = 4 → I 83 i = J 83 i) (h84 : ∀ i, B ≤ i → i < B + 18 → I 84 i = J 84 i) (h85 : ∀ i, I 85 i = J 85 i) : mdG I 83 B = mdG J 83 B := by
  funext k
  unfold mdG
  by_cases c0 : k = 0
  · rw [if_pos c0, if_pos c0]; exact h84 _ (by omega) (by omega)
  rw [if_neg c0, if_neg c0]
  by_cases c1 : k = 1
  · rw [if_pos c1, if_pos c1]; exact h83 _ (by omega)
  rw [if_neg c1, if_neg c1]
  by_cases c2 : k = 2
  · rw [if_pos c2, if_pos c2]; exact h84 _ (by omega) (by omega)
  rw [if_neg c2, if_neg c2]
  by_cases c3 : k = 3
  · rw [if_pos c3, if_pos c3]; exact h84 _ (by omega) (by omega)
  rw [if_neg c3, if_neg c3]
  by_cases c4 : k = 4
  · rw [if_pos c4, if_pos c4]; exact h83 _ (by omega)
  rw [if_neg c4, if_neg c4]
  by_cases c5 : k = 5
  · rw [if_pos c5, if_pos c5]; exact h84 _ (by omega) (by omega)
  rw [if_neg c5, if_neg c5]
  by_cases c6 : k = 6
  · rw [if_pos c6, if_pos c6]; exact h84 _ (by omega) (by omega)
  rw [if_neg c6, if_neg c6]
  by_cases c7 : k = 7
  · rw [if_pos c7, if_pos c7]; exact h84 _ (by omega) (by omega)
  rw [if_neg c7, if_neg c7]
  by_cases c8 : k = 8
  · rw [if_pos c8, if_pos c8]; exact h83 _ (by omega)
  rw [if_neg c8, if_neg c8]
  by_cases c9 : k < 15
  · rw [if_pos c9, if_pos c9]; exact h85 _
  rw [if_neg c9, if_neg c9]
  by_cases c10 : k < 21
  · rw [if_pos c10, if_pos c10]; exact h84 _ (by omega) (by omega)
  rw [if_neg c10, if_neg c10]
  by_cases c11 : k < 27
  · rw [if_pos c11, if_pos c11]; exact h84 _ (by omega) (by omega)
  rw [if_neg c11, if_neg c11]
theorem SPr.c {g : Nat} {I J I' J' : Nat → Nat → Int32} {b c B : Nat} (h : SPr g I J b c B) (hb : ∀ a i, b ≤ a → a ≤ b + 3 → I' a i = I a i) (hc : ∀ i, I' c i = I c i) (h83 : ∀ i, i = 1 ∨ i = 3 ∨ i = 4 → J' 83 i = J 83 i) (h84 : ∀ i, B ≤ i → i < B + 458 → J' 84 i = J 84 i) (h85 : ∀ i, J' 85 i = J 85 i) : SPr g I' J' b c B := by
  have e1 : mdG J' 83 B = mdG J 83 B := mdG_cells h83 (fun i h1 h2 => h84 i h1 (by omega)) h85
  have e2 : shG I' b = shG I b := shG_cells hb
  obtain ⟨s1, s2, s3⟩ := h
  obtain ⟨p, q, hpq, hq, e5, e4⟩ := s1.2.2.2.2.2
  have e5 : J 84 B = nI p := e5
  refine ⟨by rw [e1]; exact s1, by rw [e1, e2]; exact s2, ?_⟩
  rw [h84 B (by omega) (by omega)]
  intro x hx
  have hx2 : x < p := by rw [e5, nI_clamp (by omega)] at hx; exact hx
  obtain ⟨a1, a2, a3, a4, a5, a6, a7, a8, a9, a10⟩ := s3 x hx
  have hg := s1.1.1
  refine ⟨?_, ?_, ?_, ?_, ?_, fun i hi => ?_, ?_, ?_, ?_, fun i hi => ?_⟩
  · rw [hc, h84 _ (by omega) (by omega)]; exact a1
  · rw [hc, h84 _ (by omega) (by omega)]; exact a2
  · rw [hc, h84 _ (by omega) (by omega)]; exact a3
  · rw [hc, h84 _ (by omega) (by omega)]; exact a4
  · rw [hc, h84 _ (by omega) (by omega)]; exact a5
  · rw [hc, h84 _ (by omega) (by omega)]; exact a6 i hi
  · rw [h84 _ (by omega) (by omega)]; exact a7
  · rw [h84 _ (by omega) (by omega)]; exact a8
  · rw [h84 _ (by omega) (by omega)]; exact a9
  · rw [h84 _ (by omega) (by omega)]; exact a10 i hi
theorem Kp.c {g : Nat} {I J I' J' : Nat → Nat → Int32} (h : Kp g I J) (hI : ∀ a i, 65 ≤ a → a ≤ 82 → I' a i = I a i) (h83 : ∀ i, i = 1 ∨ i = 3 ∨ i = 4 → J' 83 i = J 83 i) (h84 : ∀ i, 458 ≤ i → i < 1832 → J' 84 i = J 84 i) (h85 : ∀ i, J' 85 i = J 85 i) : Kp g I' J' := fun k hk => by
  rw [hI _ _ (by omega) (by omega), h84 _ (by omega) (by omega)]
  rcases h k hk with z | z
  · exact Or.inl z
  · exact Or.inr ⟨z.1, z.2.c (fun a i h1 h2 => hI a i (by omega) (by omega)) (fun i => hI _ _ (by omega) (by omega)) h83 (fun i h1 h2 => h84 i (by omega) (by omega)) h85⟩
theorem Sc.c {I J I' J' : Nat → Nat → Int32} (h : Sc I J) (hI : ∀ i, i = 10 ∨ i = 11 → I' 0 i = I 0 i) (h44 : ∀ i, I' 44 i = I 44 i) (hJ : ∀ i, i = 9 ∨ i = 12 → J' 83 i = J 83 i) (h90 : ∀ i, J' 90 i = J 90 i) : Sc I' J' := ⟨by rw [hI _ (by omega), hJ _ (by omega)]; exact h.1, by rw [hI _ (by omega), hJ _ (by omega)]; exact h.2.1, fun f hf => by rw [h44, h90]; exact h.2.2 f hf⟩
theorem Dt.scr {g : Nat} {I I' : Nat → Nat → Int32} (h : Dt g I I) (hs : ∀ a i, ¬ scr a i → I' a i = I a i) : Dt g I' I' := by
  have q : ∀ a i, ¬ ((10 ≤ a ∧ a ≤ 43) ∨ (a = 83 ∧ 14 ≤ i) ∨ a = 91 ∨ (a = 84 ∧ 1832 ≤ i)) → I' a i = I a i := hs
  obtain ⟨h1, h2, h3, h4, h5⟩ := h
  refine ⟨h1.c (fun a i _ _ => q _ _ (by omega)) (fun a i _ _ => q _ _ (by omega)), h2.c (fun a i _ _ => q _ _ (by omega)) (fun a i _ _ => q _ _ (by omega)), h3.c (fun a i _ _ => q _ _ (by omega)) (fun i => q _ _ (by omega)) (fun i _ => q _ _ (by omega)) (fun i _ _ => q _ _ (by omega)) (fun i => q _ _ (by omega)), h4.c (fun a i _ _ => q _ _ (by omega)) (fun i _ => q _ _ (by omega)) (fun i _ _ => q _ _ (by omega)) (fun i => q _ _ (by omega)), h5.c (fun i _ => q _ _ (by omega)) (fun i => q _ _ (by omega)) (fun i _ => q _ _ (by omega)) (fun i => q _ _ (by omega))⟩
/-- only scratch differs -/
def ScE (μ ν : ps_M) : Prop := ps_n ν = ps_n μ ∧ ps_w ν = ps_w μ ∧ ps_s ν = ps_s μ ∧ ps_l ν = ps_l μ ∧ (∀ k i, ¬ (k = 14 ∧ i = 1) → ps_r ν k i = ps_r μ k i) ∧ ∀ a i, ¬ scr a i → ps_i ν a i = ps_i μ a i
theorem ScE.rf {μ : ps_M} : ScE μ μ := ⟨rfl, rfl, rfl, rfl, fun _ _ _ => rfl, fun _ _ _ => rfl⟩
theorem ScE.tr {μ ν ξ : ps_M} (h : ScE μ ν) (h2 : ScE ν ξ) : ScE μ ξ := ⟨h2.1.trans h.1, h2.2.1.trans h.2.1, h2.2.2.1.trans h.2.2.1, h2.2.2.2.1.trans h.2.2.2.1, fun k i z => (h2.2.2.2.2.1 k i z).trans (h.2.2.2.2.1 k i z), fun a i z => (h2.2.2.2.2.2 a i z).trans (h.2.2.2.2.2 a i z)⟩
theorem ScE.ofI {μ : ps_M} {I : Nat → Nat → Int32} (h : ∀ a i, ¬ scr a i → I a i = ps_i μ a i) : ScE μ (ps_wI μ I) := ⟨rfl, rfl, rfl, rfl, fun _ _ _ => rfl, h⟩
theorem ScE.SM10 {μ : ps_M} {σ : Nat → Int32} : ScE μ (SM μ 10 σ) := ScE.ofI (fun a i z => SM_off (μ := μ) (σ := σ) (by unfold scr at z; omega))
theorem isPs.sc {μ ν : ps_M} (hp : isPs μ) (h : ScE μ ν) : isPs ν := by
  obtain ⟨-, -, hs, -, e, -⟩ := h
  obtain ⟨h1, h2, h3, h4, h5, h6, ⟨a1, a2, a3, a4, a5, a6⟩, h8, h9, h10, h11⟩ := hp
  refine ⟨by rw [hs]; exact h1, fun i hi => ?_, fun i hi => ?_, fun i hi => ?_, fun i hi => ?_, fun i hi => ?_, ⟨?_, ?_, ?_, ?_, ?_, ?_⟩, fun b hb => ⟨?_, ?_, ?_⟩, fun k hk => ?_, fun k hk => ?_, fun k hk => ⟨?_, ?_⟩⟩
  · rw [e _ _ (by omega)]; exact h2 i hi
  · rw [e _ _ (by omega)]; exact h3 i hi
  · rw [e _ _ (by omega)]; exact h4 i hi
  · rw [e _ _ (by omega)]; exact h5 i hi
  · rw [e _ _ (by omega)]; exact h6 i hi
  · rw [e _ _ (by omega)]; exact a1
  · rw [e _ _ (by omega)]; exact a2
  · rw [e _ _ (by omega)]; exact a3
  · rw [e _ _ (by omega)]; exact a4
  · rw [e _ _ (by omega)]; exact a5
  · rw [e _ _ (by omega)]; exact a6
  · rw [e _ _ (by omega)]; exact (h8 b hb).1
  · rw [e _ _ (by omega)]; exact (h8 b hb).2.1
  · rw [e _ _ (by omega)]; exact (h8 b hb).2.2
  · rw [e _ _ (by omega)]; exact h9 k hk
  · rw [e _ _ (by omega)]; exact h10 k hk
  · rw [e _ _ (by omega)]; exact (h11 k hk).1
  · rw [e _ _ (by omega)]; exact (h11 k hk).2
theorem isMd.sc {μ ν : ps_M} (hm : isMd μ 83) (h : ScE μ ν) : isMd ν 83 := by
  obtain ⟨-, -, hs, -, e, -⟩ := h
  unfold isMd
  rw [hs, e 83 0 (by omega), e 83 2 (by omega), e 83 5 (by omega), e 83 6 (by omega), e 83 7 (by omega), e 83 8 (by omega), e 83 13 (by omega), e 83 21 (by omega)]
  exact hm
theorem Inv.sc {W : Nat} {μ ν : ps_M} (h : Inv W μ) (hs : ScE μ ν) : Inv W ν := by
  obtain ⟨h1, h2, h3, h4, ⟨g, h5⟩, h6, h7⟩ := h
  refine ⟨h1.sc hs, h2.sc hs, hs.1.trans h3, hs.2.1.trans h4, ⟨g, h5.scr hs.2.2.2.2.2⟩, ?_, ?_⟩
  · rw [hs.2.2.2.1]; exact h6
  · rw [hs.2.2.2.1]; exact h7
theorem MS_scr {μ : ps_M} {τ : Nat → Int32} (h : sameF τ (mdG (ps_i μ) 83 0)) : ScE μ (MS μ 83 1832 τ) := ScE.ofI (fun a i z => by
  have z : ¬ ((10 ≤ a ∧ a ≤ 43) ∨ (a = 83 ∧ 14 ≤ i) ∨ a = 91 ∨ (a = 84 ∧ 1832 ≤ i)) := z
  unfold mdP
  by_cases h1 : a = 83 ∧ i = 3
  · rw [if_pos h1, h 1 (by omega) (by omega), h1.1, h1.2]; rfl
  by_cases h2 : a = 83 ∧ i = 4
  · rw [if_neg h1, if_pos h2, h 4 (by omega) (by omega), h2.1, h2.2]; rfl
  by_cases h3 : a = 83 ∧ i = 1
  · rw [if_neg h1, if_neg h2, if_pos h3, h 8 (by omega) (by omega), h3.1, h3.2]; rfl
  by_cases h4 : a = 83 + 2 ∧ i < 6
  · rw [if_neg h1, if_neg h2, if_neg h3, if_pos h4, h (9 + i) (by omega) (by omega), h4.1]
    rcases (show i = 0 ∨ i = 1 ∨ i = 2 ∨ i = 3 ∨ i = 4 ∨ i = 5 by omega) with rfl | rfl | rfl | rfl | rfl | rfl <;> rfl
  · rw [if_neg h1, if_neg h2, if_neg h3, if_neg h4, if_neg (by omega)])
theorem RD_scr {μ : ps_M} {F p E : Nat} {ρ γ : Nat → Int32} : ScE μ (RD μ 83 F p E ρ γ) := ScE.ofI (fun a i z => by
  have z : ¬ ((10 ≤ a ∧ a ≤ 43) ∨ (a = 83 ∧ 14 ≤ i) ∨ a = 91 ∨ (a = 84 ∧ 1832 ≤ i)) := z
  rw [if_neg (by omega), if_neg (by omega), if_neg (by omega), if_neg (by omega), if_neg (by omega)])
theorem RC_scr {μ : ps_M} {t : Option Nat} {p : Nat} {σ : Nat → Int32} : ScE μ (RC (ps_sR μ 14 1 t) p σ) := ⟨rfl, rfl, rfl, rfl, fun k i z => if_neg z, fun a i z => by
  have z : ¬ ((10 ≤ a ∧ a ≤ 43) ∨ (a = 83 ∧ 14 ≤ i) ∨ a = 91 ∨ (a = 84 ∧ 1832 ≤ i)) := z
  exact RC_off (by omega)⟩
theorem SEf.scr {μ ν : ps_M} (h : SEf μ ν) : ScE μ ν := ⟨h.1, h.2.1, h.2.2.1, h.2.2.2.1, fun k i _ => by rw [h.2.2.2.2.1], fun a i z => h.2.2.2.2.2 a i (by
  have z : ¬ ((10 ≤ a ∧ a ≤ 43) ∨ (a = 83 ∧ 14 ≤ i) ∨ a = 91 ∨ (a = 84 ∧ 1832 ≤ i)) := z
  omega)⟩
theorem WEf.scr {μ ν : ps_M} (h : WEf μ ν) : ScE μ ν := ⟨h.1, h.2.1, h.2.2.1, h.2.2.2.1, fun k i _ => by rw [h.2.2.2.2.1], fun a i z => h.2.2.2.2.2 a i (by
  have z : ¬ ((10 ≤ a ∧ a ≤ 43) ∨ (a = 83 ∧ 14 ≤ i) ∨ a = 91 ∨ (a = 84 ∧ 1832 ≤ i)) := z
  omega)⟩
/-- what is not scratch and not touched -/
theorem Inv.mk {W g : Nat} {μ ν : ps_M} (h : Inv W μ) (hn : ps_n ν = ps_n μ) (hw : ps_w ν = ps_w μ) (hs : ps_s ν = ps_s μ) (hr : ps_r ν = ps_r μ) (hd : Dt g (ps_i ν) (ps_i ν)) (h12 : ps_l ν 0 12 = ps_l ν 83 10) (h13 : ps_l ν 0 13 = ps_l ν 83 11) : Inv W ν := by
  refine ⟨?_, ?_, hn.trans h.2.2.1, hw.trans h.2.2.2.1, ⟨g, hd⟩, h12, h13⟩
  · unfold isPs; rw [hs, hr]; exact h.1
  · unfold isMd; rw [hs, hr]; exact h.2.1
def opI (X : Nat → Nat × (Nat → Int32)) (e jc jm : Nat) (as : List Value) (W : Nat) (μ : ps_M) : Prop := ∃ r μ1 μ2, ps_Ev X (e + 20) jc (.ref 0 :: as) μ (some (.int r)) μ1 ∧ ps_Ev X (e + 20) jm (.ref 83 :: as) μ1 (some (.int r)) μ2 ∧ ps_s μ1 83 = (7, 0) ∧ Inv W μ2
def opL (X : Nat → Nat × (Nat → Int32)) (e jc jm : Nat) (as : List Value) (W : Nat) (μ : ps_M) : Prop := ∃ r μ1 μ2, ps_Ev X (e + 20) jc (.ref 0 :: as) μ (some (.long r)) μ1 ∧ ps_Ev X (e + 20) jm (.ref 83 :: as) μ1 (some (.long r)) μ2 ∧ ps_s μ1 83 = (7, 0) ∧ Inv W μ2
theorem FCM {W : Nat} {μ : ps_M} (h : Inv W μ) {f : Nat} (hf : f < 6) : Inv W (FM (FC μ f) 83 f) := by
  obtain ⟨g, h1, h2, h3, h4, h5⟩ := h.2.2.2.2.1
  have q : ∀ a i, ¬ (a = 0 ∧ i = 10 ∨ a = 44 ∧ i = f ∨ a = 83 ∧ i = 12 ∨ a = 90 ∧ i = f) → ps_i (FM (FC μ f) 83 f) a i = ps_i μ a i := fun a i z => by
    unfold FM FC
    rw [sI_off (by omega), sI_off (by omega), sI_off (by omega), sI_off (by omega)]
  refine Inv.mk (g := g) h rfl rfl rfl rfl ⟨h1.c (fun a i _ _ => q _ _ (by omega)) (fun a i _ _ => q _ _ (by omega)), h2.c (fun a i _ _ => q _ _ (by omega)) (fun a i _ _ => q _ _ (by omega)), h3.c (fun a i _ _ => q _ _ (by omega)) (fun i => q _ _ (by omega)) (fun i hi => q _ _ (by omega)) (fun i _ _ => q _ _ (by omega)) (fun i => q _ _ (by omega)), h4.c (fun a i _ _ => q _ _ (by omega)) (fun i hi => q _ _ (by omega)) (fun i _ _ => q _ _ (by omega)) (fun i => q _ _ (by omega)), ?_, ?_, fun x hx => ?_⟩ h.2.2.2.2.2.1 h.2.2.2.2.2.2
  · unfold FM FC
    rw [sI_off (by omega), sI_off (by omega), sI_off (by omega), sI_at, sI_off (by omega), sI_at]
  · rw [q _ _ (by omega), q _ _ (by omega)]; exact h5.2.1
  · by_cases z : x = f
    · subst z
      unfold FM FC
      rw [sI_off (by omega), sI_off (by omega), sI_at, sI_at, sI_off (by omega), sI_off (by omega), h5.2.2 x hx]
    · rw [q _ _ (by omega), q _ _ (by omega)]; exact h5.2.2 x hx
