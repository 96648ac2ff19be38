/-! sums and choices: both sides by one formula -/
def vI (P V : Nat → Int32) (a : Nat) : Int32 := sm (fun j => P (6 * a + j) * V j) 6
def cI_ (P : Nat → Int32) (a : Nat) : Int32 := sm (fun j => P (6 * a + j)) 6
theorem valueIn_in {G : Nat → Nat → Int32} {g : Nat → Int32} {L a : Nat} (h5 : g 5 = nI L) (hL : L ≤ 6) (hz : ∀ j, L ≤ j → j < 6 → G 1 j = 0) (ha : a < 5) : fX3_valueIn G g (nI a) = some (vI (G 11) (G 1) a) := by
  unfold fX3_valueIn
  have e : vI (G 11) (G 1) a = sm (fun j => G 11 (6 * a + j) * G 1 j) L := sm_tail hL fun i h1 h2 => by
    show G 11 (6 * a + i) * G 1 i = 0
    rw [hz i h1 h2, Int32.mul_zero]
  rw [e]
  refine b2_lp (lp_for (fun i => (sm (fun j => G 11 (6 * a + j) * G 1 j) i, nI i)) L (sm (fun j => G 11 (6 * a + j) * G 1 j) L, nI L) rfl (by omega) (fun i hi => ?_) ?_) rfl
  · show fX3_valueIn_B4 G g (nI a) (sm _ i) (nI i) = _
    unfold fX3_valueIn_B4
    rw [h5, if_neg (nI_ge hi (by omega)), lt_B, at_in ha (by omega), rAt_in (by omega) (by decide), nI_up]
    rfl
  · show fX3_valueIn_B4 G g (nI a) (sm _ L) (nI L) = _
    unfold fX3_valueIn_B4
    rw [h5, if_pos (Int32.le_refl _)]
theorem m_worth {T M : Nat → Nat → Int32} {a : Nat} (ha : a < 5) : fX6_worth T M (nI a) = some (vI (T 0) (M 0) a) := by
  unfold fX6_worth
  have e : vI (T 0) (M 0) a = sm (fun j => M 0 j * T 0 (6 * a + j)) 6 := sm_congr fun i _ => Int32.mul_comm _ _
  rw [e]
  refine b2_lp (lp_for (fun i => (sm (fun j => M 0 j * T 0 (6 * a + j)) i, nI i)) 6 (sm (fun j => M 0 j * T 0 (6 * a + j)) 6, nI 6) rfl (by decide) (fun i hi => ?_) ?_) rfl
  · show fX6_worth_B4 T M (nI a) (sm _ i) (nI i) = _
    unfold fX6_worth_B4
    rw [if_neg (show ¬ (6 : Int32) ≤ nI i from nI_ge (b := 6) hi (by decide)), gd_in (by omega) (by decide), show (6 : Int32) * nI a + nI i = nI (6 * a + i) by rw [show (6 : Int32) = nI 6 from rfl, pk_mul, nI_add], gd_in (by omega) (by decide), lt_B, cl_n (by omega), cl_n (by omega), nI_up]
    rfl
  · show fX6_worth_B4 T M (nI a) (sm _ 6) (nI 6) = _
    unfold fX6_worth_B4
    rw [if_pos (show (6 : Int32) ≤ nI 6 by decide)]
theorem valueOfAll_in {G : Nat → Nat → Int32} {g : Nat → Int32} {L : Nat} (h5 : g 5 = nI L) (hL : L ≤ 6) (hz : ∀ j, L ≤ j → j < 6 → G 1 j = 0) : fX3_valueOfAll G g = some (sm (vI (G 11) (G 1)) 5) := by
  unfold fX3_valueOfAll
  refine b2_lp (lp_for (fun i => (sm (vI (G 11) (G 1)) i, nI i)) 5 (sm (vI (G 11) (G 1)) 5, nI 5) rfl (by decide) (fun i hi => ?_) ?_) rfl
  · show fX3_valueOfAll_B4 G g (sm _ i) (nI i) = _
    unfold fX3_valueOfAll_B4
    rw [if_neg (show ¬ (5 : Int32) ≤ nI i from nI_ge (b := 5) hi (by decide)), valueIn_in h5 hL hz hi, bd_S, lt_B, nI_up]
    rfl
  · show fX3_valueOfAll_B4 G g (sm _ 5) (nI 5) = _
    unfold fX3_valueOfAll_B4
    rw [if_pos (show (5 : Int32) ≤ nI 5 by decide)]
theorem m_allWorth {T M : Nat → Nat → Int32} : fX6_allWorth T M = some (sm (vI (T 0) (M 0)) 5) := by
  unfold fX6_allWorth
  refine b2_lp (lp_for (fun i => (sm (vI (T 0) (M 0)) i, nI i)) 5 (sm (vI (T 0) (M 0)) 5, nI 5) rfl (by decide) (fun i hi => ?_) ?_) rfl
  · show fX6_allWorth_B4 T M (sm _ i) (nI i) = _
    unfold fX6_allWorth_B4
    rw [if_neg (show ¬ (5 : Int32) ≤ nI i from nI_ge (b := 5) hi (by decide)), m_worth hi, bd_S, lt_B, nI_up]
    rfl
  · show fX6_allWorth_B4 T M (sm _ 5) (nI 5) = _
    unfold fX6_allWorth_B4
    rw [if_pos (show (5 : Int32) ≤ nI 5 by decide)]
theorem coinsInAll_in {G : Nat → Nat → Int32} : fX3_coinsInAll G = some (sm (cI_ (G 11)) 5) := by
  unfold fX3_coinsInAll
  refine b2_lp (lp_for (fun i => (sm (cI_ (G 11)) i, nI i)) 5 (sm (cI_ (G 11)) 5, nI 5) rfl (by decide) (fun i hi => ?_) ?_) rfl
  · show fX3_coinsInAll_B4 G (sm _ i) (nI i) = _
    unfold fX3_coinsInAll_B4
    rw [if_neg (show ¬ (5 : Int32) ≤ nI i from nI_ge (b := 5) hi (by decide)), coinsIn_in hi, bd_S, lt_B, nI_up]
    rfl
  · show fX3_coinsInAll_B4 G (sm _ 5) (nI 5) = _
    unfold fX3_coinsInAll_B4
    rw [if_pos (show (5 : Int32) ≤ nI 5 by decide)]
/-- how many of the first n are x -/
def hm (F : Nat → Int32) (x : Int32) : Nat → Int32
  | 0 => 0
  | n + 1 => if F n = x then hm F x n + 1 else hm F x n
theorem howMany_in {G : Nat → Nat → Int32} {g : Nat → Int32} {N : Nat} {x : Int32} (h6 : g 6 = nI N) (hN : N ≤ 24) : fX4_howMany G g x = some (hm (G 9) x N) := by
  unfold fX4_howMany
  refine b2_lp (lp_for (fun i => (hm (G 9) x i, nI i)) N (hm (G 9) x N, nI N) rfl (by omega) (fun i hi => ?_) ?_) rfl
  · show fX4_howMany_B4 G g x (hm _ x i) (nI i) = _
    unfold fX4_howMany_B4
    rw [h6, if_neg (nI_ge hi (by omega)), rAt_in (by omega) (by decide), nI_up]
    by_cases c : G 9 i = x
    · rw [if_pos c]; simp only [hm, if_pos c]
    · rw [if_neg c]; simp only [hm, if_neg c]
  · show fX4_howMany_B4 G g x (hm _ x N) (nI N) = _
    unfold fX4_howMany_B4
    rw [h6, if_pos (Int32.le_refl _)]
def Hf (F : Nat → Int32) (i : Nat) : Nat → Int32 := fun j => if j < 3 then hm F (nI j) i else 0
theorem m_how {T : Nat → Nat → Int32} {k : Nat → Int32} {N : Nat} (h2 : k 2 = nI N) (hN : N ≤ 24) (hF : ∀ w, w < N → ∃ x, x < 3 ∧ T 2 w = nI x) : lp (fun s => fX7_counted_B6 T k s.1 s.2) 25 (0, (fun _ => 0 : Nat → Int32)) = some (nI N, Hf (T 2) N) := by
  refine lp_for (fun i => (nI i, Hf (T 2) i)) N (nI N, Hf (T 2) N) ?_ (by omega) (fun i hi => ?_) ?_
  · show _ = (nI 0, Hf (T 2) 0)
    have : Hf (T 2) 0 = (fun _ => 0 : Nat → Int32) := by
      funext j; unfold Hf; split <;> rfl
    rw [this]; rfl
  · show fX7_counted_B6 T k (nI i) (Hf (T 2) i) = _
    unfold fX7_counted_B6
    obtain ⟨x, hx, ex⟩ := hF i hi
    rw [h2, if_neg (nI_ge hi (by omega)), gd_in (by omega) (by decide), cl_n (by omega), ex, gd_in hx (by decide), gd_in hx (by decide), lt_B, cl_n (by omega), nI_up]
    have e : upd (Hf (T 2) i) x (Hf (T 2) i x + 1) = Hf (T 2) (i + 1) := by
      funext j
      by_cases hj : j = x
      · subst hj
        rw [pk_us]; unfold Hf; rw [if_pos hx, if_pos hx]; simp only [hm, if_pos ex]
      · rw [pk_un hj]; unfold Hf
        by_cases h3 : j < 3
        · rw [if_pos h3, if_pos h3]
          simp only [hm]
          rw [if_neg]
          rw [ex]
          intro q
          exact hj ((nI_eq (by omega) (by omega)).mp q).symm
        · rw [if_neg h3, if_neg h3]
    rw [e]
  · show fX7_counted_B6 T k (nI N) (Hf (T 2) N) = _
    unfold fX7_counted_B6
    rw [h2, if_pos (Int32.le_refl _)]
theorem m_countCoins {T : Nat → Nat → Int32} : lp (fun s => fX7_counted_B40 T s.1 s.2) 6 (0, 0) = some (sm (cI_ (T 0)) 5, nI 5) := by
  refine lp_for (fun i => (sm (cI_ (T 0)) i, nI i)) 5 (sm (cI_ (T 0)) 5, nI 5) rfl (by decide) (fun i hi => ?_) ?_
  · show fX7_counted_B40 T (sm _ i) (nI i) = _
    unfold fX7_counted_B40
    rw [if_neg (show ¬ (5 : Int32) ≤ nI i from nI_ge (b := 5) hi (by decide)), m_coins hi, bd_S, lt_B, nI_up]
    rfl
  · show fX7_counted_B40 T (sm _ 5) (nI 5) = _
    unfold fX7_counted_B40
    rw [if_pos (show (5 : Int32) ≤ nI 5 by decide)]
/-- of the first n that C names: the one of the greatest X, of several the first -/
def bsel (C : Nat → Bool) (X : Nat → Int32) : Nat → Option Nat
  | 0 => none
  | i + 1 => if C i = true then (match bsel C X i with
    | none => some i
    | some b => if X i ≤ X b then some b else some i) else bsel C X i
theorem bsel_lt {C : Nat → Bool} {X : Nat → Int32} {n w : Nat} (h : bsel C X n = some w) : w < n ∧ C w = true := by
  induction n with
  | zero => cases h
  | succ n ih =>
    simp only [bsel] at h
    by_cases c : C n = true
    · rw [if_pos c] at h
      cases hb : bsel C X n with
      | none => rw [hb] at h; cases h; exact ⟨Nat.lt_succ_self _, c⟩
      | some b =>
        rw [hb] at h
        by_cases c2 : X n ≤ X b
        · simp only [if_pos c2] at h; cases h; exact ⟨by have := (ih hb).1; omega, (ih hb).2⟩
        · simp only [if_neg c2] at h; cases h; exact ⟨Nat.lt_succ_self _, c⟩
    · rw [if_neg c] at h
      exact ⟨by have := (ih h).1; omega, (ih h).2⟩
theorem bsel_n {C : Nat → Bool} {X : Nat → Int32} {i : Nat} (c : ¬ C i = true) : bsel C X (i + 1) = bsel C X i := by simp only [bsel, if_neg c]
theorem bsel_y {C : Nat → Bool} {X : Nat → Int32} {i : Nat} (c : C i = true) (hb : bsel C X i = none) : bsel C X (i + 1) = some i := by simp only [bsel, if_pos c, hb]
theorem bsel_b {C : Nat → Bool} {X : Nat → Int32} {i b : Nat} (c : C i = true) (hb : bsel C X i = some b) (h : X i ≤ X b) : bsel C X (i + 1) = some b := by simp only [bsel, if_pos c, hb, if_pos h]
theorem bsel_i {C : Nat → Bool} {X : Nat → Int32} {i b : Nat} (c : C i = true) (hb : bsel C X i = some b) (h : ¬ X i ≤ X b) : bsel C X (i + 1) = some i := by simp only [bsel, if_pos c, hb, if_neg h]
def eo : Option Nat → Int32
  | none => -1
  | some w => nI w
def ev (X : Nat → Int32) : Option Nat → Int32
  | none => 0
  | some w => X w
theorem eo_0 : eo none = -1 := rfl
theorem eo_1 {w : Nat} : eo (some w) = nI w := rfl
theorem ev_0 {X : Nat → Int32} : ev X none = 0 := rfl
theorem ev_1 {X : Nat → Int32} {w : Nat} : ev X (some w) = X w := rfl
theorem eo_ne {w : Nat} (h : w < 2 ^ 31) : ¬ nI w = -1 := by
  intro e
  have h1 := congrArg Int32.toInt e
  rw [nI_toInt h] at h1
  have h2 : (-1 : Int32).toInt = -1 := by decide
  omega
/-- the value of a wish's coin -/
def cvX (V O : Nat → Int32) : Nat → Int32 := fun i => V (Int32.toNatClampNeg (O i))
def cWish (F K : Nat → Int32) (κ : Int32) : Nat → Bool := fun i => decide (F i = 0) && decide (K i = κ)
theorem nextWish_in {G : Nat → Nat → Int32} {g : Nat → Int32} {N L : Nat} {κ : Int32} (h6 : g 6 = nI N) (hN : N ≤ 24) (hO : ∀ w, w < N → ∃ x, x < L ∧ G 7 w = nI x) (hL : L ≤ 6) (hV : ∀ j, j < L → ∃ v, 1 ≤ v ∧ v ≤ 50 ∧ G 1 j = nI v) : fX3_nextWish G g κ = some (eo (bsel (cWish (G 9) (G 6) κ) (cvX (G 1) (G 7)) N)) := by
  unfold fX3_nextWish
  have key : ∀ i, i < N → ∃ v, 1 ≤ v ∧ v ≤ 50 ∧ fX3_coinValue G (nI i) = nI v ∧ cvX (G 1) (G 7) i = nI v := by
    intro i hi
    obtain ⟨x, hx, ex⟩ := hO i hi
    obtain ⟨v, h1, h2, h3⟩ := hV x hx
    refine ⟨v, h1, h2, ?_, ?_⟩
    · unfold fX3_coinValue
      rw [rAt_in (by omega) (by decide), ex, rAt_in (by omega) (by decide), h3]
    · unfold cvX
      rw [ex, cl_n (by omega), h3]
  refine b3_lp (lp_for (fun i => (eo (bsel (cWish (G 9) (G 6) κ) (cvX (G 1) (G 7)) i), ev (cvX (G 1) (G 7)) (bsel (cWish (G 9) (G 6) κ) (cvX (G 1) (G 7)) i), nI i)) N (eo (bsel (cWish (G 9) (G 6) κ) (cvX (G 1) (G 7)) N), ev (cvX (G 1) (G 7)) (bsel (cWish (G 9) (G 6) κ) (cvX (G 1) (G 7)) N), nI N) rfl (by omega) (fun i hi => ?_) ?_) rfl
  · show fX3_nextWish_B7 G g κ (eo (bsel _ _ i)) (ev _ (bsel _ _ i)) (nI i) = _
    unfold fX3_nextWish_B7
    obtain ⟨v, h1, h2, h3, h4⟩ := key i hi
    rw [h6, if_neg (nI_ge hi (by omega)), lt_B, nI_up]
    have hw : fX4_waitsFor G (nI i) κ = if cWish (G 9) (G 6) κ i = true then 1 else 0 := by
      unfold fX4_waitsFor cWish
      rw [rAt_in (by omega) (by decide), rAt_in (by omega) (by decide)]
      by_cases c1 : G 9 i = 0 <;> by_cases c2 : G 6 i = κ <;> simp [c1, c2]
    rw [hw]
    by_cases c : cWish (G 9) (G 6) κ i = true
    · rw [if_pos c, if_neg (by decide), h3]
      cases hb : bsel (cWish (G 9) (G 6) κ) (cvX (G 1) (G 7)) i with
      | none =>
        rw [bsel_y c hb, ev_0, eo_1, ev_1, h4, if_neg (nI_nle (by omega) (by omega))]
      | some b =>
        rw [ev_1, ← h4]
        by_cases c2 : cvX (G 1) (G 7) i ≤ cvX (G 1) (G 7) b
        · rw [if_pos c2, bsel_b c hb c2, ev_1]
        · rw [if_neg c2, bsel_i c hb c2, ev_1, eo_1]
    · rw [if_neg c, if_pos rfl, bsel_n c]
  · show fX3_nextWish_B7 G g κ (eo (bsel _ _ N)) (ev _ (bsel _ _ N)) (nI N) = _
    unfold fX3_nextWish_B7
    rw [h6, if_pos (Int32.le_refl _)]
theorem m_next {T M : Nat → Nat → Int32} {k : Nat → Int32} {N L : Nat} {κ : Int32} (h2 : k 2 = nI N) (hN : N ≤ 24) (hO : ∀ w, w < N → ∃ x, x < L ∧ M 6 w = nI x) (hL : L ≤ 6) : fX6_next T M k κ = some (eo (bsel (cWish (T 2) (M 5) κ) (cvX (M 0) (M 6)) N)) := by
  unfold fX6_next
  refine b2_lp (lp_for (fun i => (eo (bsel (cWish (T 2) (M 5) κ) (cvX (M 0) (M 6)) i), nI i)) N (_, nI N) rfl (by omega) (fun i hi => ?_) ?_) rfl
  · show fX6_next_B4 T M k κ (eo (bsel _ _ i)) (nI i) = _
    unfold fX6_next_B4
    obtain ⟨x, hx, ex⟩ := hO i hi
    rw [h2, if_neg (nI_ge hi (by omega)), gd_in (by omega) (by decide), gd_in (by omega) (by decide), cl_n (by omega), nI_up]
    by_cases c1 : T 2 i = 0
    · by_cases c2 : M 5 i = κ
      · have c : cWish (T 2) (M 5) κ i = true := by unfold cWish; rw [decide_eq_true c1, decide_eq_true c2]; rfl
        rw [if_pos c1, if_pos c2]
        cases hb : bsel (cWish (T 2) (M 5) κ) (cvX (M 0) (M 6)) i with
        | none =>
          rw [bsel_y c hb, eo_0, eo_1, if_pos rfl]
        | some b =>
          have hbi := (bsel_lt hb).1
          obtain ⟨y, hy, ey⟩ := hO b (by omega)
          have hb31 : b < 2 ^ 31 := by omega
          rw [eo_1, if_neg (eo_ne hb31), gd_in (by omega) (by decide), ex, gd_in (by omega) (by decide), gd_in (by omega) (by decide), cl_n hb31, ey, gd_in (by omega) (by decide)]
          have e1 : cvX (M 0) (M 6) i = M 0 (Int32.toNatClampNeg (nI x)) := by unfold cvX; rw [ex]
          have e2 : cvX (M 0) (M 6) b = M 0 (Int32.toNatClampNeg (nI y)) := by unfold cvX; rw [ey]
          by_cases c3 : M 0 (Int32.toNatClampNeg (nI x)) ≤ M 0 (Int32.toNatClampNeg (nI y))
          · rw [if_pos c3, bsel_b c hb (by rw [e1, e2]; exact c3), eo_1]
          · rw [if_neg c3, bsel_i c hb (by rw [e1, e2]; exact c3), eo_1]
      · have c : ¬ cWish (T 2) (M 5) κ i = true := by unfold cWish; rw [decide_eq_false c2, Bool.and_false]; decide
        rw [if_pos c1, if_neg c2, bsel_n c]
    · have c : ¬ cWish (T 2) (M 5) κ i = true := by unfold cWish; rw [decide_eq_false c1, Bool.false_and]; decide
      rw [if_neg c1, bsel_n c]
  · show fX6_next_B4 T M k κ (eo (bsel _ _ N)) (nI N) = _
    unfold fX6_next_B4
    rw [h2, if_pos (Int32.le_refl _)]
