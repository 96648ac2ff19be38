/-! change: the fewest coins -/
theorem lp_rel {σ ρ : Type} {f : σ → Option (σ ⊕ ρ)} (P : Nat → σ → Prop) (R : ρ → Prop) (n : Nat) {s0 : σ} {N : Nat} (h0 : P 0 s0) (hN : n < N) (hs : ∀ i s, i < n → P i s → ∃ s', f s = some (.inl s') ∧ P (i + 1) s') (he : ∀ s, P n s → ∃ r, f s = some (.inr r) ∧ R r) : ∃ r, lp f N s0 = some r ∧ R r := by
  have go : ∀ k i, i + k = n → ∀ N, k < N → ∀ s, P i s → ∃ r, lp f N s = some r ∧ R r := by
    intro k
    induction k with
    | zero =>
      intro i hi N hN s hp
      have : i = n := by omega
      subst this
      obtain ⟨N', rfl⟩ : ∃ N', N = N' + 1 := ⟨N - 1, by omega⟩
      obtain ⟨r, e, hr⟩ := he s hp
      exact ⟨r, lp_inr e, hr⟩
    | succ k ih =>
      intro i hi N hN s hp
      obtain ⟨N', rfl⟩ : ∃ N', N = N' + 1 := ⟨N - 1, by omega⟩
      obtain ⟨s', e, hp'⟩ := hs i s (by omega) hp
      rw [lp_inl e]
      exact ih (i + 1) (by omega) N' (by omega) s' hp'
  exact go n 0 (by omega) N hN s0 h0
def mnv (D : Nat → Nat) (v : Nat) : Nat → Nat → Nat
  | 0, s => D s
  | t + 1, s => if (t + 1) * v ≤ s then min (mnv D v t s) (D (s - (t + 1) * v) + (t + 1)) else mnv D v t s
theorem mn_le {D : Nat → Nat} {v t s k : Nat} (hk : k ≤ t) (hv : k * v ≤ s) : mnv D v t s ≤ D (s - k * v) + k := by
  induction t with
  | zero =>
    have : k = 0 := by omega
    subst this
    simp only [mnv, Nat.zero_mul, Nat.sub_zero, Nat.add_zero]
    exact Nat.le_refl _
  | succ t ih =>
    simp only [mnv]
    by_cases c : k = t + 1
    · subst c
      rw [if_pos hv]
      exact Nat.min_le_right _ _
    · have := ih (by omega)
      split
      · exact Nat.le_trans (Nat.min_le_left _ _) this
      · exact this
theorem mn_ex {D : Nat → Nat} {v t s : Nat} : ∃ k, k ≤ t ∧ k * v ≤ s ∧ mnv D v t s = D (s - k * v) + k := by
  induction t with
  | zero => exact ⟨0, Nat.le_refl _, by rw [Nat.zero_mul]; exact Nat.zero_le _, by simp only [mnv, Nat.zero_mul, Nat.sub_zero, Nat.add_zero]⟩
  | succ t ih =>
    obtain ⟨k, h1, h2, h3⟩ := ih
    by_cases c : (t + 1) * v ≤ s
    · rcases Nat.le_total (mnv D v t s) (D (s - (t + 1) * v) + (t + 1)) with q | q
      · exact ⟨k, by omega, h2, by simp only [mnv]; rw [if_pos c, Nat.min_eq_left q, h3]⟩
      · exact ⟨t + 1, Nat.le_refl _, c, by simp only [mnv]; rw [if_pos c, Nat.min_eq_right q]⟩
    · exact ⟨k, by omega, h2, by simp only [mnv]; rw [if_neg c, h3]⟩
theorem mn_mono {D : Nat → Nat} {v t t' s : Nat} (h : t ≤ t') : mnv D v t' s ≤ mnv D v t s := by
  obtain ⟨k, h1, h2, h3⟩ := mn_ex (D := D) (v := v) (t := t) (s := s)
  rw [h3]
  exact mn_le (by omega) h2
theorem mn_step {D : Nat → Nat} {v T b s : Nat} (hb : b ≤ T + 1) : (if b * v ≤ s then min (mnv D v T s) (mnv D v T (s - b * v) + b) else mnv D v T s) = mnv D v (T + b) s := by
  refine Nat.le_antisymm ?_ ?_
  · obtain ⟨k, h1, h2, h3⟩ := mn_ex (D := D) (v := v) (t := T + b) (s := s)
    rw [h3]
    by_cases c : k ≤ T
    · have := mn_le (D := D) (v := v) c h2
      split
      · exact Nat.le_trans (Nat.min_le_left _ _) this
      · exact this
    · obtain ⟨k', rfl⟩ : ∃ k', k = b + k' := ⟨k - b, by omega⟩
      rw [Nat.add_mul] at h2 ⊢
      rw [if_pos (by omega)]
      refine Nat.le_trans (Nat.min_le_right _ _) ?_
      have := mn_le (D := D) (v := v) (t := T) (s := s - b * v) (k := k') (by omega) (by omega)
      rw [Nat.sub_sub] at this
      omega
  · by_cases c : b * v ≤ s
    · rw [if_pos c]
      refine Nat.le_min.mpr ⟨mn_mono (by omega), ?_⟩
      obtain ⟨k, h1, h2, h3⟩ := mn_ex (D := D) (v := v) (t := T) (s := s - b * v)
      rw [h3]
      have := mn_le (D := D) (v := v) (t := T + b) (s := s) (k := b + k) (by omega) (by rw [Nat.add_mul]; omega)
      rw [Nat.add_mul] at this
      rw [Nat.sub_sub]
      omega
    · rw [if_neg c]
      exact mn_mono (by omega)
theorem mn_cap {D : Nat → Nat} {v c a s : Nat} (hv : 1 ≤ v) (hs : s ≤ a) : mnv D v (min (a / v) c) s = mnv D v c s := by
  refine Nat.le_antisymm ?_ (mn_mono (Nat.min_le_right _ _))
  obtain ⟨k, h1, h2, h3⟩ := mn_ex (D := D) (v := v) (t := c) (s := s)
  rw [h3]
  exact mn_le (Nat.le_min.mpr ⟨(Nat.le_div_iff_mul_le (by omega)).mpr (by omega), h1⟩) h2
def dOk (a : Nat) (D : Nat → Nat) : Prop := ∀ s, s ≤ a → D s ≤ s ∨ D s = 999
theorem mn_ok {D : Nat → Nat} {v t a : Nat} (hv : 1 ≤ v) (ha : a ≤ 300) (hD : dOk a D) : dOk a (mnv D v t) := by
  intro s hs
  obtain ⟨k, h1, h2, h3⟩ := mn_ex (D := D) (v := v) (t := t) (s := s)
  have h4 := mn_le (D := D) (v := v) (t := t) (s := s) (k := 0) (Nat.zero_le _) (by omega)
  rw [Nat.zero_mul, Nat.sub_zero, Nat.add_zero] at h4
  have hk : k ≤ k * v := Nat.le_mul_of_pos_right k (by omega)
  have d1 := hD s hs
  have d2 := hD (s - k * v) (by omega)
  omega
/-- the class writes -1 for none -/
def en (x : Nat) : Int32 := if x = 999 then -1 else nI x
theorem en_n {x : Nat} (h : x = 999) : en x = -1 := if_pos h
theorem en_y {x : Nat} (h : x ≠ 999) : en x = nI x := if_neg h
theorem en_ne {x : Nat} (h : x ≠ 999) (hx : x < 2 ^ 31) : ¬ en x = -1 := by rw [en_y h]; exact eo_ne hx
def eqF (a : Nat) (F : Nat → Int32) (D : Nat → Nat) : Prop := ∀ s, s ≤ a → F s = en (D s)
theorem bundle_in {a b v : Nat} {F : Nat → Int32} {D : Nat → Nat} (ha : a ≤ 300) (hb : 1 ≤ b) (hv : 1 ≤ v) (hbv : b * v ≤ a) (hF : eqF a F D) (hD : dOk a D) : ∃ F', fX5_payWithBundle F (nI b) (nI (b * v)) (nI a) = some F' ∧ eqF a F' (fun s => if b * v ≤ s then min (D s) (D (s - b * v) + b) else D s) := by
  obtain ⟨w, hw⟩ : ∃ w, w = b * v := ⟨_, rfl⟩
  have hw1 : 1 ≤ w := by rw [hw]; exact Nat.mul_pos hb hv
  have hbw : b ≤ w := by rw [hw]; exact Nat.le_mul_of_pos_right b (by omega)
  rw [← hw] at hbv ⊢
  obtain ⟨E, hE⟩ : ∃ E : Nat → Nat, E = fun s => if w ≤ s then min (D s) (D (s - w) + b) else D s := ⟨_, rfl⟩
  rw [← hE]
  have key := lp_rel (f := fun s : Int32 × (Nat → Int32) => fX5_payWithBundle_B3 (nI b) (nI w) s.1 s.2) (fun i s => s.1 = nI (a - i) ∧ ∀ q, q ≤ a → s.2 q = en (if a - i < q then E q else D q)) (fun r => eqF a r.2 E) (a + 1 - w) (s0 := (nI a, F)) (N := 302) ⟨by rw [Nat.sub_zero], fun q hq => by rw [Nat.sub_zero, if_neg (by omega)]; exact hF q hq⟩ (by omega) ?_ ?_
  · obtain ⟨r, e, hr⟩ := key
    refine ⟨r.2, ?_, hr⟩
    unfold fX5_payWithBundle
    exact b2_lp e rfl
  · rintro i ⟨x, f⟩ hi ⟨h1, h2⟩
    dsimp only at h1 h2 ⊢
    obtain ⟨s, hs⟩ : ∃ s, s = a - i := ⟨_, rfl⟩
    rw [← hs] at h1 h2
    have es : a - (i + 1) = s - 1 := by omega
    have e5 : f (s - w) = en (D (s - w)) := by rw [h2 (s - w) (by omega), if_neg (by omega)]
    have e6 : f s = en (D s) := by rw [h2 s (by omega), if_neg (by omega)]
    have d1 := hD s (by omega)
    have d2 := hD (s - w) (by omega)
    have eE : E s = min (D s) (D (s - w) + b) := by rw [hE]; exact if_pos (by omega)
    have next : nI s + -1 = nI (s - 1) := by
      obtain ⟨m, rfl⟩ : ∃ m, s = m + 1 := ⟨s - 1, by omega⟩
      exact pk_m1 m
    have keep : E s = D s → ∀ q, q ≤ a → f q = en (if s - 1 < q then E q else D q) := fun e q hq => by
      rw [h2 q hq]
      by_cases c : q = s
      · subst c; rw [if_neg (by omega), if_pos (by omega), e]
      · by_cases c2 : s < q
        · rw [if_pos c2, if_pos (by omega)]
        · rw [if_neg c2, if_neg (by omega)]
    have put : ∀ y, en (E s) = y → ∀ q, q ≤ a → upd f s y q = en (if s - 1 < q then E q else D q) := fun y e q hq => by
      by_cases c : q = s
      · subst c; rw [pk_us, if_pos (by omega), e]
      · rw [pk_un c, h2 q hq]
        by_cases c2 : s < q
        · rw [if_pos c2, if_pos (by omega)]
        · rw [if_neg c2, if_neg (by omega)]
    unfold fX5_payWithBundle_B3
    rw [h1, if_neg (nI_nlt (by omega) (by omega)), pk_sub (by omega), rAt_in (by omega) (by decide), rAt_in (by omega) (by decide), lt_B, lt_B, rPut_in (by omega) (by decide), lt_B, e5, e6, next, es]
    by_cases c5 : D (s - w) = 999
    · rw [if_pos (en_n c5)]
      exact ⟨_, rfl, rfl, keep (by rw [eE]; omega)⟩
    · rw [if_neg (en_ne c5 (by omega)), en_y c5, nI_add]
      by_cases c6 : D s = 999
      · rw [if_pos (en_n c6)]
        refine ⟨_, rfl, rfl, put _ ?_⟩
        have : E s = D (s - w) + b := by rw [eE]; omega
        rw [this, en_y (by omega)]
      · rw [if_neg (en_ne c6 (by omega)), en_y c6]
        by_cases c7 : D s ≤ D (s - w) + b
        · rw [if_pos (nI_le c7 (by omega))]
          exact ⟨_, rfl, rfl, keep (by rw [eE]; omega)⟩
        · rw [if_neg (nI_ge (by omega) (by omega))]
          refine ⟨_, rfl, rfl, put _ ?_⟩
          have : E s = D (s - w) + b := by rw [eE]; omega
          rw [this, en_y (by omega)]
  · rintro ⟨x, f⟩ ⟨h1, h2⟩
    dsimp only at h1 h2 ⊢
    refine ⟨(x, f), ?_, fun q hq => ?_⟩
    · unfold fX5_payWithBundle_B3
      rw [h1, if_pos (nI_lt (by omega) (by omega))]
    · show f q = _
      rw [h2 q hq]
      by_cases c : a - (a + 1 - w) < q
      · rw [if_pos c]
      · rw [if_neg c, hE]
        show en (D q) = en (if w ≤ q then _ else D q)
        rw [if_neg (by omega)]
theorem two_pow_9 {X : Nat} (h : X ≤ 300) : X ≤ 2 ^ 9 - 1 := by omega
theorem payLand_in {G : Nat → Nat → Int32} {a v l C : Nat} {F : Nat → Int32} {D : Nat → Nat} (ha : a ≤ 300) (hl : l < 6) (hv : 1 ≤ v) (hv5 : v ≤ 50) (ev : G 1 l = nI v) (eC : sm (fun y => G 11 (6 * y + l)) 5 = nI C) (hC : C < 2 ^ 30) (hF : eqF a F D) (hD : dOk a D) : ∃ F', fX5_payWithLand G F (nI l) (nI a) = some F' ∧ eqF a F' (mnv D v C) := by
  obtain ⟨X, hX⟩ : ∃ X, X = min (a / v) C := ⟨_, rfl⟩
  have hXa : X ≤ a := by rw [hX]; exact Nat.le_trans (Nat.min_le_left _ _) (Nat.div_le_self _ _)
  have hXv : X * v ≤ a := by
    have : X ≤ a / v := by rw [hX]; exact Nat.min_le_left _ _
    exact (Nat.le_div_iff_mul_le (by omega)).mp this
  have eX : (if nI (a / v) < nI C then nI (a / v) else nI C) = nI X := by
    have hq : a / v ≤ a := Nat.div_le_self _ _
    by_cases c : a / v < C
    · rw [if_pos (nI_lt c (by omega)), hX, Nat.min_eq_left (by omega)]
    · rw [if_neg (nI_nlt (by omega) (by omega)), hX, Nat.min_eq_right (by omega)]
  obtain ⟨n, hn, hmin⟩ := pk_least (fun i => X ≤ 2 ^ i - 1) ⟨9, two_pow_9 (by omega)⟩
  have hn9 : n ≤ 9 := Classical.byContradiction fun q => hmin 9 (by omega) (two_pow_9 (by omega))
  unfold fX5_payWithLand
  rw [rAt_in hl (by decide), lt_B, ev, if_pos (show (0 : Int32) < nI v from nI_lt (a := 0) (by omega) (by omega)), coinsOf_in hl, bd_S, gd_T (nI_ne0 (by omega) (by omega)), eC, pk_div (by omega) (by omega) (by omega), eX, lt_B]
  have key := lp_rel (f := fun s : Int32 × Int32 × (Nat → Int32) => fX5_payWithLand_B42 (nI a) (nI v) s.1 s.2.1 s.2.2) (fun i s => s.1 = nI (X - (2 ^ i - 1)) ∧ s.2.1 = nI (2 ^ i) ∧ eqF a s.2.2 (mnv D v (min X (2 ^ i - 1)))) (fun r => eqF a r.2.2 (mnv D v X)) n (s0 := (nI X, 1, F)) (N := 11) ⟨rfl, rfl, fun q hq => by rw [show min X (2 ^ 0 - 1) = 0 by simp]; exact hF q hq⟩ (by omega) ?_ ?_
  · obtain ⟨r, e, hr⟩ := key
    refine ⟨r.2.2, b3_lp e rfl, fun q hq => ?_⟩
    rw [hr q hq, hX, mn_cap hv hq]
  · rintro i ⟨x, y, f⟩ hi ⟨h1, h2, h3⟩
    dsimp only at h1 h2 h3 ⊢
    have hlt := hmin i hi
    obtain ⟨P, hP⟩ : ∃ P, P = 2 ^ i := ⟨_, rfl⟩
    have hP2 : 2 ^ (i + 1) = P + P := by rw [Nat.pow_succ, hP]; omega
    have hP0 : 1 ≤ P := by rw [hP]; exact Nat.one_le_two_pow
    rw [← hP] at h1 h2 h3 hlt
    rw [hP2]
    have hPX : P ≤ X := by omega
    obtain ⟨b, hb⟩ : ∃ b, b = min (X - (P - 1)) P := ⟨_, rfl⟩
    have eb : (if nI (X - (P - 1)) < nI P then nI (X - (P - 1)) else nI P) = nI b := by
      by_cases c : X - (P - 1) < P
      · rw [if_pos (nI_lt c (by omega)), hb, Nat.min_eq_left (by omega)]
      · rw [if_neg (nI_nlt (by omega) (by omega)), hb, Nat.min_eq_right (by omega)]
    have hbX : b * v ≤ a := Nat.le_trans (Nat.mul_le_mul_right v (show b ≤ X by omega)) hXv
    obtain ⟨F', e1, e2⟩ := bundle_in ha (show 1 ≤ b by omega) hv hbX h3 (mn_ok hv ha hD)
    unfold fX5_payWithLand_B42
    rw [h1, h2, if_neg (show ¬ (300 : Int32) < nI P from nI_nlt (a := 300) (by omega) (by decide)), if_neg (nI_nle (by omega) (by omega)), eb, lt_B, pk_mul, e1, bd_S, lt_B, lt_B, pk_sub (by omega), nI_add]
    refine ⟨_, rfl, ?_, rfl, fun q hq => ?_⟩
    · show nI (X - (P - 1) - b) = nI (X - (P + P - 1))
      congr 1
      omega
    · show F' q = _
      rw [e2 q hq]
      show en (if b * v ≤ q then min (mnv D v (min X (P - 1)) q) (mnv D v (min X (P - 1)) (q - b * v) + b) else mnv D v (min X (P - 1)) q) = _
      rw [mn_step (T := min X (P - 1)) (b := b) (by omega), show min X (P - 1) + b = min X (P + P - 1) by omega]
  · rintro ⟨x, y, f⟩ ⟨h1, h2, h3⟩
    dsimp only at h1 h2 h3 ⊢
    refine ⟨(x, y, f), ?_, ?_⟩
    · unfold fX5_payWithLand_B42
      by_cases c : 300 < y
      · rw [if_pos c]
      · rw [if_neg c, if_pos]
        rw [h1, show X - (2 ^ n - 1) = 0 by omega]
        decide
    · show eqF a f (mnv D v X)
      rw [Nat.min_eq_left hn] at h3
      exact h3
theorem coins_nat {L B l : Nat} {P : Nat → Int32} (h : WFp L B P) (hl : l < 6) : ∃ C, C ≤ B ∧ sm (fun y => P (6 * y + l)) 5 = nI C := by
  obtain ⟨c, h1, h2, h3⟩ := h
  refine ⟨c l + c (6 + l) + c (12 + l) + c (18 + l) + c (24 + l), h3 l hl, ?_⟩
  simp only [sm]
  rw [h1 _ (by omega), h1 _ (by omega), h1 _ (by omega), h1 _ (by omega), h1 _ (by omega), Int32.zero_add, nI_add, nI_add, nI_add, nI_add, Nat.mul_zero, Nat.zero_add]
def D0 : Nat → Nat := fun s => if s = 0 then 0 else 999
def Dl (v c : Nat → Nat) : Nat → Nat → Nat
  | 0 => D0
  | l + 1 => mnv (Dl v c l) (v l) (c l)
theorem Dl_ok {v c : Nat → Nat} {a L : Nat} (ha : a ≤ 300) (hv : ∀ l, l < L → 1 ≤ v l) : ∀ l, l ≤ L → dOk a (Dl v c l) := by
  intro l
  induction l with
  | zero =>
    intro _ s _
    show D0 s ≤ s ∨ D0 s = 999
    unfold D0
    by_cases e : s = 0
    · left; rw [if_pos e]; omega
    · right; rw [if_neg e]
  | succ l ih =>
    intro hl
    exact mn_ok (hv l (by omega)) ha (ih (by omega))
theorem change_in {G : Nat → Nat → Int32} {g : Nat → Int32} {F : Nat → Int32} {a L : Nat} {v c : Nat → Nat} (h5 : g 5 = nI L) (hL : L ≤ 6) (ha : a ≤ 300) (hv : ∀ l, l < L → 1 ≤ v l ∧ v l ≤ 50 ∧ G 1 l = nI (v l)) (hc : ∀ l, l < L → c l < 2 ^ 30 ∧ sm (fun y => G 11 (6 * y + l)) 5 = nI (c l)) (hw : ¬ fX5_within (nI a) 1 300 = 0) : ∃ F', fX5_change G g F (nI a) = some (.inr (en (Dl v c L a), F')) := by
  unfold fX5_change
  rw [if_neg hw]
  obtain ⟨r, e, hr⟩ := lp_rel (f := fun s : Int32 × (Nat → Int32) => fX5_change_B23 (nI a) s.1 s.2) (fun i s => s.1 = nI (i + 1) ∧ ∀ q, 1 ≤ q → q ≤ i → s.2 q = -1) (fun r => ∀ q, 1 ≤ q → q ≤ a → r.2 q = -1) a (s0 := (1, F)) (N := 301) ⟨rfl, fun q h1 h2 => by omega⟩ (by omega) (by
    rintro i ⟨x, f⟩ hi ⟨h1, h2⟩
    dsimp only at h1 h2 ⊢
    unfold fX5_change_B23
    rw [h1, if_neg (nI_nlt (by omega) (by omega)), rPut_in (by omega) (by decide), lt_B, nI_up]
    refine ⟨_, rfl, rfl, fun q q1 q2 => ?_⟩
    show upd f (i + 1) (-1) q = -1
    by_cases e : q = i + 1
    · subst e; rw [pk_us]
    · rw [pk_un e]; exact h2 q q1 (by omega)) (by
    rintro ⟨x, f⟩ ⟨h1, h2⟩
    dsimp only at h1 h2 ⊢
    refine ⟨(x, f), ?_, h2⟩
    unfold fX5_change_B23
    rw [h1, if_pos (nI_lt (by omega) (by omega))])
  rw [show b2 (lp (fun s : Int32 × (Nat → Int32) => fX5_change_B23 (nI a) s.1 s.2) 301 (1, F)) = b2 (some (r.1, r.2)) by rw [e], b2_S, lt_B, show rPut 301 r.2 0 0 = upd r.2 0 0 from rPut_in (i := 0) (by decide) (by decide)]
  obtain ⟨r', e', hr'⟩ := lp_rel (f := fun s : Int32 × (Nat → Int32) => fX5_change_B54 G g (nI a) s.1 s.2) (fun i s => s.1 = nI i ∧ eqF a s.2 (Dl v c i)) (fun r => eqF a r.2 (Dl v c L)) L (s0 := (0, upd r.2 0 0)) (N := 7) ⟨rfl, fun q hq => by
    show upd r.2 0 0 q = en (D0 q)
    unfold D0
    by_cases c0 : q = 0
    · subst c0; rw [pk_us, if_pos rfl]; rfl
    · rw [pk_un c0, if_neg c0, hr q (by omega) hq]; rfl⟩ (by omega) (by
    rintro i ⟨x, f⟩ hi ⟨h1, h2⟩
    dsimp only at h1 h2 ⊢
    obtain ⟨v1, v2, v3⟩ := hv i hi
    obtain ⟨c1, c2⟩ := hc i hi
    obtain ⟨F', f1, f2⟩ := payLand_in ha (show i < 6 by omega) v1 v2 v3 c2 c1 h2 (Dl_ok ha (fun l hl => (hv l hl).1) i (by omega))
    unfold fX5_change_B54
    rw [h5, h1, if_neg (nI_ge hi (by omega)), f1, bd_S, nI_up]
    exact ⟨_, rfl, rfl, f2⟩) (by
    rintro ⟨x, f⟩ ⟨h1, h2⟩
    dsimp only at h1 h2 ⊢
    refine ⟨(x, f), ?_, h2⟩
    unfold fX5_change_B54
    rw [h5, h1, if_pos (Int32.le_refl _)])
  rw [show b2 (lp (fun s : Int32 × (Nat → Int32) => fX5_change_B54 G g (nI a) s.1 s.2) 7 (0, upd r.2 0 0)) = b2 (some (r'.1, r'.2)) by rw [e'], b2_S, rAt_in (by omega) (by decide), hr' a (Nat.le_refl a)]
  exact ⟨_, rfl⟩
