/-! sinking -/
def sv (P Wt : Nat → Int32) (p : Nat) : Int32 := if Wt (p % 6) < 4 then P p / 4 else P p / 2
def Qd (P Wt : Nat → Int32) (D : Nat → Bool) : Nat → Int32 := fun p => (P p - (if D p = true then sv P Wt p else 0)) + (if 6 ≤ p ∧ D (p - 6) = true then sv P Wt (p - 6) else 0)
theorem Qd_0 {P Wt : Nat → Int32} {D : Nat → Bool} (h : ∀ p, D p = false) : Qd P Wt D = P := by
  funext p
  unfold Qd
  rw [if_neg (by rw [h p]; decide), if_neg (by rw [h (p - 6)]; rintro ⟨-, q⟩; cases q), Int32.sub_zero, Int32.add_zero]
theorem Qd_at {P Wt : Nat → Int32} {D : Nat → Bool} {k : Nat} (h1 : D k = false) (h2 : 6 ≤ k → D (k - 6) = false) : Qd P Wt D k = P k := by
  unfold Qd
  rw [if_neg (by rw [h1]; decide), if_neg (by rintro ⟨q1, q2⟩; rw [h2 q1] at q2; cases q2), Int32.sub_zero, Int32.add_zero]
theorem Qd_step {P Wt : Nat → Int32} {D D' : Nat → Bool} {k : Nat} (h1 : D k = false) (h2 : 6 ≤ k → D (k - 6) = false) (hD : ∀ p, D' p = (D p || p == k)) :
    upd (upd (Qd P Wt D) k (P k - sv P Wt k)) (k + 6) (upd (Qd P Wt D) k (P k - sv P Wt k) (k + 6) + sv P Wt k) = Qd P Wt D' := by
  funext p
  by_cases c1 : p = k + 6
  · subst c1
    rw [pk_us, pk_un (by omega)]
    unfold Qd
    rw [hD, hD, show k + 6 - 6 = k by omega, h1]
    have e : (k + 6 == k) = false := by rw [beq_eq_false_iff_ne]; omega
    rw [e, Bool.or_false, if_neg (show ¬ (6 ≤ k + 6 ∧ false = true) from fun q => by cases q.2), Int32.add_zero]
    rw [if_pos (⟨by omega, by rw [Bool.false_or, beq_self_eq_true]⟩ : 6 ≤ k + 6 ∧ (false || k == k) = true)]
  · rw [pk_un c1]
    by_cases c2 : p = k
    · subst c2
      rw [pk_us]
      unfold Qd
      rw [hD, hD, h1, Bool.false_or, if_pos (beq_self_eq_true p), if_neg, Int32.add_zero]
      rintro ⟨q1, q2⟩
      rw [h2 q1, Bool.false_or, beq_iff_eq] at q2
      omega
    · rw [pk_un c2]
      unfold Qd
      have e1 : (p == k) = false := by rw [beq_eq_false_iff_ne]; exact c2
      rw [hD, hD, e1, Bool.or_false]
      by_cases c3 : 6 ≤ p
      · have e2 : (p - 6 == k) = false := by rw [beq_eq_false_iff_ne]; omega
        rw [e2, Bool.or_false]
      · have n1 : ¬ (6 ≤ p ∧ D (p - 6) = true) := fun q => c3 q.1
        have n2 : ¬ (6 ≤ p ∧ (D (p - 6) || p - 6 == k) = true) := fun q => c3 q.1
        rw [if_neg n1, if_neg n2]
theorem Qd_congr {P Wt : Nat → Int32} {D D' : Nat → Bool} (h : ∀ p, D p = D' p ∨ sv P Wt p = 0) : Qd P Wt D = Qd P Wt D' := by
  funext p
  unfold Qd
  have a : ∀ q, (if D q = true then sv P Wt q else 0) = (if D' q = true then sv P Wt q else 0) := by
    intro q
    rcases h q with e | e
    · rw [e]
    · rw [e]; split <;> split <;> rfl
  rw [a p]
  congr 1
  by_cases c : 6 ≤ p
  · have := a (p - 6)
    simp only [c, true_and]
    exact this
  · rw [if_neg (fun q => c q.1), if_neg (fun q => c q.1)]
/-- processed: the layers below a, and of the layer a the first j lands -/
def Dc (L a j : Nat) : Nat → Bool := fun p => decide (p < 24) && ((decide (6 * (a + 1) ≤ p) && decide (p % 6 < L)) || (decide (6 * a ≤ p) && decide (p < 6 * a + j)))
/-- processed: the layers from a on -/
def Do (L a : Nat) : Nat → Bool := fun p => decide (p < 24) && (decide (6 * a ≤ p) && decide (p % 6 < L))
theorem Dc_0 {L a : Nat} : ∀ p, Dc L a 0 p = Do L (a + 1) p := by
  intro p
  unfold Dc Do
  by_cases c : 6 * a ≤ p
  · rw [show decide (p < 6 * a + 0) = false by rw [decide_eq_false_iff_not]; omega, Bool.and_false, Bool.or_false]
  · rw [show decide (6 * a ≤ p) = false by rw [decide_eq_false_iff_not]; exact c, Bool.false_and, Bool.or_false]
theorem Dc_L {L a : Nat} (hL : L ≤ 6) : ∀ p, Dc L a L p = Do L a p := by
  intro p
  rw [Bool.eq_iff_iff]
  simp only [Dc, Do, Bool.and_eq_true, Bool.or_eq_true, decide_eq_true_eq]
  omega
theorem Dc_s {L a j : Nat} (ha : a < 4) (hj : j < L) (hL : L ≤ 6) : ∀ p, Dc L a (j + 1) p = (Dc L a j p || p == 6 * a + j) := by
  intro p
  rw [Bool.eq_iff_iff]
  simp only [Dc, Bool.and_eq_true, Bool.or_eq_true, decide_eq_true_eq, beq_iff_eq]
  omega
theorem Dc_k {L a j : Nat} (ha : a < 4) (hj : j < L) (hL : L ≤ 6) : Dc L a j (6 * a + j) = false ∧ (6 ≤ 6 * a + j → Dc L a j (6 * a + j - 6) = false) := by
  constructor
  · rw [Bool.eq_false_iff]; simp only [ne_eq, Dc, Bool.and_eq_true, Bool.or_eq_true, decide_eq_true_eq]; omega
  · intro h; rw [Bool.eq_false_iff]; simp only [ne_eq, Dc, Bool.and_eq_true, Bool.or_eq_true, decide_eq_true_eq]; omega
theorem sink8 {L a : Nat} {G : Nat → Nat → Int32} {g : Nat → Int32} (h5 : g 5 = nI L) (hL : L ≤ 6) (ha : a < 4) : lp (fun s => fX3_sinkCoins_B8 g (nI a) s.1 s.2) 7 (0, uG G 11 (Qd (G 11) (G 2) (Do L (a + 1)))) = some (nI L, uG G 11 (Qd (G 11) (G 2) (Do L a))) := by
  have e0 : Qd (G 11) (G 2) (Do L (a + 1)) = Qd (G 11) (G 2) (Dc L a 0) := Qd_congr fun p => Or.inl (Dc_0 p).symm
  have e1 : Qd (G 11) (G 2) (Do L a) = Qd (G 11) (G 2) (Dc L a L) := Qd_congr fun p => Or.inl (Dc_L hL p).symm
  rw [e0, e1]
  refine lp_for (fun i => (nI i, uG G 11 (Qd (G 11) (G 2) (Dc L a i)))) L (nI L, uG G 11 (Qd (G 11) (G 2) (Dc L a L))) rfl (by omega) (fun i hi => ?_) ?_
  · show fX3_sinkCoins_B8 g (nI a) (nI i) (uG G 11 (Qd (G 11) (G 2) (Dc L a i))) = _
    unfold fX3_sinkCoins_B8
    obtain ⟨k1, k2⟩ := Dc_k (j := i) ha hi hL
    have hm : (6 * a + i) % 6 = i := by omega
    rw [h5, if_neg (nI_ge hi (by omega)), lt_B, at_in (by omega) (by omega), uG_n (show (2 : Nat) ≠ 11 by decide), rAt_in (by omega) (by decide), uG_s, Qd_at k1 k2]
    have fin : ∀ y : Int32, y = sv (G 11) (G 2) (6 * a + i) → (fX1_add (uG G 11 (Qd (G 11) (G 2) (Dc L a i))) (nI a) (nI i) (-y)).bind (fun G_8 => (fX1_add G_8 (nI a + 1) (nI i) y).bind (fun G_10 => (some (Sum.inl (nI i + 1, G_10)) : Option ((Int32 × (Nat → Nat → Int32)) ⊕ (Int32 × (Nat → Nat → Int32)))))) = some (Sum.inl (nI (i + 1), uG G 11 (Qd (G 11) (G 2) (Dc L a (i + 1))))) := by
      intro y hy
      rw [add_in (by omega) (by omega), bd_S, nI_up, add_in (by omega) (by omega), bd_S, nI_up, uG_s, uG_s, uG_uG, uG_uG, Qd_at k1 k2, ← Int32.sub_eq_add_neg, hy, show 6 * (a + 1) + i = 6 * a + i + 6 by omega, Qd_step k1 k2 (Dc_s ha hi hL)]
    by_cases c : G 2 i < 4
    · rw [if_pos c, lt_B]
      exact fin _ (by unfold sv; rw [hm, if_pos c])
    · rw [if_neg c, lt_B]
      exact fin _ (by unfold sv; rw [hm, if_neg c])
  · show fX3_sinkCoins_B8 g (nI a) (nI L) _ = _
    unfold fX3_sinkCoins_B8
    rw [h5, if_pos (Int32.le_refl _)]
theorem sink_in {L : Nat} {G : Nat → Nat → Int32} {g : Nat → Int32} (h5 : g 5 = nI L) (hL : L ≤ 6) : fX3_sinkCoins G g = some (uG G 11 (Qd (G 11) (G 2) (Do L 0))) := by
  unfold fX3_sinkCoins
  have e0 : G = uG G 11 (Qd (G 11) (G 2) (Do L 4)) := by
    rw [Qd_0, uG_id]
    intro p
    rw [Bool.eq_false_iff]; simp only [ne_eq, Do, Bool.and_eq_true, decide_eq_true_eq]; omega
  refine b2_lp (lp_for (fun i => (nI (4 - i) - 1, uG G 11 (Qd (G 11) (G 2) (Do L (4 - i))))) 4 (nI 0 - 1, uG G 11 (Qd (G 11) (G 2) (Do L 0))) ?_ (by decide) (fun i hi => ?_) ?_) rfl
  · show (3, G) = (nI 4 - 1, uG G 11 (Qd (G 11) (G 2) (Do L 4)))
    rw [← e0]; rfl
  · show fX3_sinkCoins_B2 g (nI (4 - i) - 1) (uG G 11 (Qd (G 11) (G 2) (Do L (4 - i)))) = _
    unfold fX3_sinkCoins_B2
    have ei : 4 - i = (3 - i) + 1 := by omega
    rw [ei, nI_pred, if_neg (nI_pos (by omega)), sink8 h5 hL (by omega), b2_S]
    have e2 : nI (3 - i) + (-1) = nI (4 - (i + 1)) - 1 := by rw [← Int32.sub_eq_add_neg, show 4 - (i + 1) = 3 - i by omega]
    rw [e2, show 4 - (i + 1) = 3 - i by omega]
  · show fX3_sinkCoins_B2 g (nI 0 - 1) _ = _
    unfold fX3_sinkCoins_B2
    rw [if_pos (by decide)]
/-- processed in the reference: the piles from n on -/
def Dm (n : Nat) : Nat → Bool := fun p => decide (p < 24) && decide (n ≤ p)
theorem m_sink {T M : Nat → Nat → Int32} : ∃ x, lp (fun s => fX6_pass_B58 M s.1 s.2) 25 (23, T) = some (x, uG T 0 (Qd (T 0) (M 1) (Dm 0))) := by
  refine ⟨nI 0 - 1, ?_⟩
  have e0 : T = uG T 0 (Qd (T 0) (M 1) (Dm 24)) := by
    rw [Qd_0, uG_id]
    intro p
    rw [Bool.eq_false_iff]; simp only [ne_eq, Dm, Bool.and_eq_true, decide_eq_true_eq]; omega
  refine lp_for (fun i => (nI (24 - i) - 1, uG T 0 (Qd (T 0) (M 1) (Dm (24 - i))))) 24 (nI 0 - 1, uG T 0 (Qd (T 0) (M 1) (Dm 0))) ?_ (by decide) (fun i hi => ?_) ?_
  · show (23, T) = (nI 24 - 1, uG T 0 (Qd (T 0) (M 1) (Dm 24)))
    rw [← e0]; rfl
  · show fX6_pass_B58 M (nI (24 - i) - 1) (uG T 0 (Qd (T 0) (M 1) (Dm (24 - i)))) = _
    unfold fX6_pass_B58
    obtain ⟨k, hk⟩ : ∃ k, k = 23 - i := ⟨_, rfl⟩
    have ei : 24 - i = k + 1 := by omega
    have ei2 : 24 - (i + 1) = k := by omega
    have hk24 : k < 24 := by omega
    have k1 : Dm (k + 1) k = false := by rw [Bool.eq_false_iff]; simp only [ne_eq, Dm, Bool.and_eq_true, decide_eq_true_eq]; omega
    have k2 : 6 ≤ k → Dm (k + 1) (k - 6) = false := by intro _; rw [Bool.eq_false_iff]; simp only [ne_eq, Dm, Bool.and_eq_true, decide_eq_true_eq]; omega
    have k3 : ∀ p, Dm k p = (Dm (k + 1) p || p == k) := by
      intro p
      rw [Bool.eq_iff_iff]
      simp only [Dm, Bool.and_eq_true, Bool.or_eq_true, decide_eq_true_eq, beq_iff_eq]
      omega
    have h6 : nI k - nI k / 6 * 6 = nI (k % 6) := rem_n (b := 6) (by omega) (by decide) (by decide)
    have hm : k % 6 < 6 := Nat.mod_lt _ (by decide)
    rw [ei, ei2, nI_pred, if_neg (nI_pos (by omega)), gd_in (by omega) (by decide), h6, gd_in hm (by decide), cl_n (by omega), cl_n (by omega)]
    rw [show nI k + 6 = nI (k + 6) from nI_add k 6, show nI k + (-1) = nI k - 1 from (Int32.sub_eq_add_neg _ _).symm]
    have fin : ∀ y : Int32, y = sv (T 0) (M 1) k → gd (vp_in (nI k) 30) (gd (vp_in (nI k) 30) (lt_ (uG (uG T 0 (Qd (T 0) (M 1) (Dm (k + 1)))) 0 (upd (uG T 0 (Qd (T 0) (M 1) (Dm (k + 1))) 0) k (uG T 0 (Qd (T 0) (M 1) (Dm (k + 1))) 0 k - y))) (fun T_17 => gd (vp_in (nI (k + 6)) 30) (gd (vp_in (nI (k + 6)) 30) (lt_ (uG T_17 0 (upd (T_17 0) (Int32.toNatClampNeg (nI (k + 6))) (T_17 0 (Int32.toNatClampNeg (nI (k + 6))) + y))) (fun T_20 => (some (Sum.inl (nI k - 1, T_20)) : Option ((Int32 × (Nat → Nat → Int32)) ⊕ (Int32 × (Nat → Nat → Int32)))))))))) = some (Sum.inl (nI k - 1, uG T 0 (Qd (T 0) (M 1) (Dm k)))) := by
      intro y hy
      rw [gd_in (by omega) (by decide), gd_in (by omega) (by decide), lt_B, gd_in (by omega) (by decide), gd_in (by omega) (by decide), lt_B, cl_n (by omega), uG_s, uG_uG, uG_s, uG_uG, Qd_at k1 k2, hy, Qd_step k1 k2 k3]
    by_cases c : M 1 (k % 6) < 4
    · rw [if_pos c, lt_B, uG_s, Qd_at k1 k2]
      have := fin (T 0 k / 4) (by unfold sv; rw [if_pos c])
      rw [uG_s, Qd_at k1 k2] at this
      exact this
    · rw [if_neg c, lt_B, uG_s, Qd_at k1 k2]
      have := fin (T 0 k / 2) (by unfold sv; rw [if_neg c])
      rw [uG_s, Qd_at k1 k2] at this
      exact this
  · show fX6_pass_B58 M (nI 0 - 1) _ = _
    unfold fX6_pass_B58
    rw [if_pos (by decide)]
theorem sv_0 {P Wt : Nat → Int32} {p : Nat} (h : P p = 0) : sv P Wt p = 0 := by
  unfold sv; rw [h]; split <;> decide
theorem sink_eq {L B : Nat} {P Wt : Nat → Int32} (h : WFp L B P) : Qd P Wt (Do L 0) = Qd P Wt (Dm 0) := by
  obtain ⟨c, h1, h2, -⟩ := h
  refine Qd_congr fun p => ?_
  by_cases hp : p < 24
  · by_cases hl : p % 6 < L
    · left
      unfold Do Dm
      rw [decide_eq_true hl, Bool.and_true]
    · right
      refine sv_0 ?_
      rw [h1 p (by omega), h2 p (by omega) (by omega)]; rfl
  · left
    unfold Do Dm
    rw [decide_eq_false hp, Bool.false_and, Bool.false_and]
theorem WFp_sink {L B : Nat} {P Wt : Nat → Int32} (h : WFp L B P) (hB : B < 2 ^ 30) : WFp L B (Qd P Wt (Dm 0)) := by
  obtain ⟨c, h1, h2, h3⟩ := h
  obtain ⟨q, hq⟩ : ∃ q : Nat → Nat, q = fun p => if Wt (p % 6) < 4 then c p / 4 else c p / 2 := ⟨_, rfl⟩
  have hqc : ∀ p, q p ≤ c p := fun p => by rw [hq]; show (if _ then _ else _) ≤ _; split <;> exact Nat.div_le_self _ _
  have hle : ∀ p, p < 30 → c p ≤ B := fun p hp => by
    have := h3 (p % 6) (Nat.mod_lt _ (by decide))
    rcases (show p = p % 6 ∨ p = 6 + p % 6 ∨ p = 12 + p % 6 ∨ p = 18 + p % 6 ∨ p = 24 + p % 6 by omega) with e | e | e | e | e
    · rw [e]; omega
    · have : c p = c (6 + p % 6) := by rw [← e]
      omega
    · have : c p = c (12 + p % 6) := by rw [← e]
      omega
    · have : c p = c (18 + p % 6) := by rw [← e]
      omega
    · have : c p = c (24 + p % 6) := by rw [← e]
      omega
  have hs : ∀ p, p < 30 → sv P Wt p = nI (q p) := fun p hp => by
    have hb := hle p hp
    rw [hq]
    unfold sv
    rw [h1 p hp]
    show _ = nI (if _ then _ else _)
    split
    · exact pk_div (d := 4) (by omega) (by decide) (by decide)
    · exact pk_div (d := 2) (by omega) (by decide) (by decide)
  have hD : ∀ p, (Dm 0 p = true) = (p < 24) := fun p => by unfold Dm; simp
  refine ⟨fun p => (c p - (if p < 24 then q p else 0)) + (if 6 ≤ p ∧ p - 6 < 24 then q (p - 6) else 0), fun p hp => ?_, fun p hp h6 => ?_, fun j hj => ?_⟩
  · show Qd P Wt (Dm 0) p = nI ((c p - (if p < 24 then q p else 0)) + (if 6 ≤ p ∧ p - 6 < 24 then q (p - 6) else 0))
    unfold Qd
    simp only [hD]
    have e1 : P p - (if p < 24 then sv P Wt p else 0) = nI (c p - (if p < 24 then q p else 0)) := by
      rw [h1 p hp]
      by_cases c1 : p < 24
      · rw [if_pos c1, if_pos c1, hs p hp, pk_sub (hqc p)]
      · rw [if_neg c1, if_neg c1, Int32.sub_zero, Nat.sub_zero]
    have e2 : (if 6 ≤ p ∧ p - 6 < 24 then sv P Wt (p - 6) else 0) = nI (if 6 ≤ p ∧ p - 6 < 24 then q (p - 6) else 0) := by
      by_cases c1 : 6 ≤ p ∧ p - 6 < 24
      · rw [if_pos c1, if_pos c1, hs (p - 6) (by omega)]
      · rw [if_neg c1, if_neg c1]; rfl
    rw [e1, e2, nI_add]
  · show (c p - (if p < 24 then q p else 0)) + (if 6 ≤ p ∧ p - 6 < 24 then q (p - 6) else 0) = 0
    have a1 := h2 p hp h6
    rw [a1]
    by_cases c1 : 6 ≤ p ∧ p - 6 < 24
    · have a2 := h2 (p - 6) (by omega) (by omega)
      have a3 := hqc (p - 6)
      rw [if_pos c1]; omega
    · rw [if_neg c1]; omega
  · have h5 := h3 j hj
    have q0 := hqc j; have q1 := hqc (6 + j); have q2 := hqc (12 + j); have q3 := hqc (18 + j)
    show (c j - (if j < 24 then q j else 0)) + (if 6 ≤ j ∧ j - 6 < 24 then q (j - 6) else 0) + ((c (6 + j) - (if 6 + j < 24 then q (6 + j) else 0)) + (if 6 ≤ 6 + j ∧ 6 + j - 6 < 24 then q (6 + j - 6) else 0)) + ((c (12 + j) - (if 12 + j < 24 then q (12 + j) else 0)) + (if 6 ≤ 12 + j ∧ 12 + j - 6 < 24 then q (12 + j - 6) else 0)) + ((c (18 + j) - (if 18 + j < 24 then q (18 + j) else 0)) + (if 6 ≤ 18 + j ∧ 18 + j - 6 < 24 then q (18 + j - 6) else 0)) + ((c (24 + j) - (if 24 + j < 24 then q (24 + j) else 0)) + (if 6 ≤ 24 + j ∧ 24 + j - 6 < 24 then q (24 + j - 6) else 0)) ≤ B
    rw [if_pos (by omega : j < 24), if_neg (by omega : ¬ (6 ≤ j ∧ j - 6 < 24)), if_pos (by omega : 6 + j < 24), if_pos (by omega : 6 ≤ 6 + j ∧ 6 + j - 6 < 24), if_pos (by omega : 12 + j < 24), if_pos (by omega : 6 ≤ 12 + j ∧ 12 + j - 6 < 24), if_pos (by omega : 18 + j < 24), if_pos (by omega : 6 ≤ 18 + j ∧ 18 + j - 6 < 24), if_neg (by omega : ¬ 24 + j < 24), if_pos (by omega : 6 ≤ 24 + j ∧ 24 + j - 6 < 24)]
    rw [show 6 + j - 6 = j by omega, show 12 + j - 6 = 6 + j by omega, show 18 + j - 6 = 12 + j by omega, show 24 + j - 6 = 18 + j by omega]
    omega
theorem zb_sink {P Wt : Nat → Int32} (h : zb 30 P) : zb 30 (Qd P Wt (Dm 0)) := by
  intro j hj
  unfold Qd
  have e1 : Dm 0 j = false := by unfold Dm; rw [decide_eq_false (by omega), Bool.false_and]
  have e2 : Dm 0 (j - 6) = false := by unfold Dm; rw [decide_eq_false (by omega), Bool.false_and]
  rw [e1, e2, h j hj]
  simp
