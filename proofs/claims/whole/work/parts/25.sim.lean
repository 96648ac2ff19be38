/-! both sides agree, after n steps of the law -/
def ZV (V : Nat → Nat → Int32) : Prop := zb 30 (V 0) ∧ zb 6 (V 1) ∧ zb 24 (V 2) ∧ zb 24 (V 3)
def SIM (n : Nat) (G : Nat → Nat → Int32) (g : Nat → Int32) (J V T : Nat → Nat → Int32) (t : Nat → Int32) (M : Nat → Nat → Int32) (k : Nat → Int32) : Prop := ∃ L N B d, WF L N B d G g ∧ RW G g T t M k ∧ ZG G ∧ ZG J ∧ ZV V ∧ B ≤ 1000 * n ∧ d ≤ 100 * n
theorem RW_k0 {G T M : Nat → Nat → Int32} {g t k : Nat → Int32} {x : Int32} (h : RW G g T t M k) : RW G g T t M (uS k 0 x) := by
  obtain ⟨a, b, c, ⟨d1, d2, d3, d4⟩⟩ := h
  refine ⟨a, b, c, ⟨?_, ?_, ?_, ?_⟩⟩ <;> simp [uS, *]
theorem SIM_k0 {n : Nat} {G J V T M : Nat → Nat → Int32} {g t k : Nat → Int32} {x : Int32} (h : SIM n G g J V T t M k) : SIM (n + 1) G g J V T t M (uS k 0 x) := by
  obtain ⟨L, N, B, d, h1, h2, h3, h4, h5, h6, h7⟩ := h
  exact ⟨L, N, B, d, h1, RW_k0 h2, h3, h4, h5, by omega, by omega⟩
theorem SIM_no {n : Nat} {G J V T M : Nat → Nat → Int32} {g t k : Nat → Int32} {x y : Int32} (h : SIM n G g J V T t M k) : SIM (n + 1) G g J V T t M (uS (uS k 0 x) 0 y) := by
  obtain ⟨L, N, B, d, h1, h2, h3, h4, h5, h6, h7⟩ := h
  exact ⟨L, N, B, d, h1, RW_k0 (RW_k0 h2), h3, h4, h5, by omega, by omega⟩
theorem no_ {k : Nat → Int32} {x : Int32} : fX7_no k x = some (0, uS k 0 x) := rfl
/-- a number within the bounds, or outside -/
theorem wi (p : Int32) (a b : Nat) (hb : b < 2 ^ 30) (hab : a ≤ b) : (fX5_within p (nI a) (nI b) = 0 ∧ fX7_isIn p (nI a) (nI b) = 0) ∨ ∃ i, a ≤ i ∧ i ≤ b ∧ p = nI i ∧ ¬ fX5_within p (nI a) (nI b) = 0 ∧ ¬ fX7_isIn p (nI a) (nI b) = 0 := by
  rcases pk_ix p (n := b + 1) (by omega) with h | h | ⟨j, hj, rfl⟩
  · left
    have : p < nI a := by
      have := nI_pos' (n := a) (by omega)
      exact Int32.lt_of_lt_of_le h this
    exact ⟨if_pos this, if_pos this⟩
  · left
    have h2 : nI b < p := Int32.lt_of_lt_of_le (nI_lt (Nat.lt_succ_self b) (by omega)) h
    unfold fX5_within fX7_isIn
    by_cases c : p < nI a
    · exact ⟨if_pos c, if_pos c⟩
    · rw [if_neg c, if_pos h2]; exact ⟨rfl, rfl⟩
  · by_cases c : j < a
    · left
      have := nI_lt c (show a < 2 ^ 31 by omega)
      exact ⟨if_pos this, if_pos this⟩
    · right
      refine ⟨j, by omega, by omega, rfl, ?_, ?_⟩
      · unfold fX5_within
        rw [if_neg (nI_nlt (by omega) (by omega)), if_neg (nI_nlt (by omega) (by omega))]; decide
      · unfold fX7_isIn
        rw [if_neg (nI_nlt (by omega) (by omega)), if_neg (nI_nlt (by omega) (by omega))]; decide
theorem isLay {p : Int32} : fX7_isLayer p = fX7_isIn p 0 4 := rfl
theorem ix_m (p : Int32) (n : Nat) (hn : n < 2 ^ 30) : ((p < 0 ∨ nI n ≤ p) ∧ fX7_isIn p 0 (nI n - 1) = 0) ∨ ∃ i, i < n ∧ p = nI i ∧ ¬ fX7_isIn p 0 (nI n - 1) = 0 := by
  unfold fX7_isIn
  rcases pk_ix p (n := n) (by omega) with h | h | ⟨j, hj, rfl⟩
  · exact Or.inl ⟨Or.inl h, if_pos h⟩
  · left
    refine ⟨Or.inr h, ?_⟩
    by_cases c : p < 0
    · exact if_pos c
    · rw [if_neg c, if_pos]
      cases n with
      | zero => exact Int32.lt_of_lt_of_le (by decide) (show (0 : Int32) ≤ p from Int32.not_lt.mp c)
      | succ n => rw [nI_pred]; exact Int32.lt_of_lt_of_le (nI_lt (Nat.lt_succ_self n) (by omega)) h
  · right
    obtain ⟨m, rfl⟩ : ∃ m, n = m + 1 := ⟨n - 1, by omega⟩
    refine ⟨j, hj, rfl, ?_⟩
    rw [if_neg (nI_pos (by omega)), nI_pred, if_neg (nI_nlt (by omega) (by omega))]; decide
theorem isL (p : Int32) {g k : Nat → Int32} {L : Nat} (h5 : g 5 = nI L) (hk : k 1 = nI L) (hL : L < 2 ^ 30) : (fX0_has g p = 0 ∧ fX7_isLand k p = 0) ∨ ∃ i, i < L ∧ p = nI i ∧ ¬ fX0_has g p = 0 ∧ ¬ fX7_isLand k p = 0 := by
  unfold fX0_has fX7_isLand
  rw [h5, hk]
  rcases ix_m p L hL with ⟨h, e⟩ | ⟨i, hi, rfl, e⟩
  · left
    refine ⟨?_, e⟩
    by_cases c : p < 0
    · exact if_pos c
    · rcases h with h | h
      · exact absurd h c
      · rw [if_neg c, if_pos h]
  · right
    refine ⟨i, hi, rfl, ?_, e⟩
    rw [if_neg (nI_pos (by omega)), if_neg (nI_ge hi (by omega))]; decide
theorem isW (p : Int32) {g k : Nat → Int32} {N : Nat} (h6 : g 6 = nI N) (hk : k 2 = nI N) (hN : N < 2 ^ 30) : (fX4_has g p = 0 ∧ fX7_isWish k p = 0) ∨ ∃ i, i < N ∧ p = nI i ∧ ¬ fX4_has g p = 0 ∧ ¬ fX7_isWish k p = 0 := by
  unfold fX4_has fX7_isWish
  rw [h6, hk]
  rcases ix_m p N hN with ⟨h, e⟩ | ⟨i, hi, rfl, e⟩
  · left
    refine ⟨?_, e⟩
    by_cases c : p < 0
    · exact if_pos c
    · rcases h with h | h
      · exact absurd h c
      · rw [if_neg c, if_pos h]
  · right
    refine ⟨i, hi, rfl, ?_, e⟩
    rw [if_neg (nI_pos (by omega)), if_neg (nI_ge hi (by omega))]; decide
/-! the sixteen calls: both answer, or both refuse with the same number -/
abbrev IA : String := "java/lang/IllegalArgumentException"
abbrev IS : String := "java/lang/IllegalStateException"
abbrev IX : String := "java/lang/IndexOutOfBoundsException"
theorem op_addLand {n : Nat} {G J V T M : Nat → Nat → Int32} {g t k : Nat → Int32} (h : SIM n G g J V T t M k) (p0 p1 : Int32) :
    (∃ r G' g' M' k', fX5_addLand G g p0 p1 = some (.inr (r, G', g')) ∧ fX7_addLand M k p0 p1 = some (r, M', k') ∧ k' 0 = 0 ∧ SIM (n + 1) G' g' J V T t M' k') ∨
    ∃ s c b k', ((s = IA ∧ c = 1) ∨ (s = IS ∧ c = 2)) ∧ fX5_addLand G g p0 p1 = some (.inl s) ∧ fX7_addLand M k p0 p1 = some (b, M, k') ∧ k' 0 = c ∧ SIM (n + 1) G g J V T t M k' := by
  unfold fX5_addLand fX7_addLand
  rw [lt_B (uS k 0 0)]
  rcases wi p0 1 50 (by decide) (by decide) with ⟨c, c'⟩ | ⟨u, u1, u2, rfl, c, c'⟩
  · right
    exact ⟨IA, 1, 0, _, Or.inl ⟨rfl, rfl⟩, if_pos c, by rw [if_pos (show fX7_isIn p0 1 50 = 0 from c'), no_, b2_S], uS_s, SIM_no h⟩
  rw [if_neg (show ¬ fX5_within (nI u) 1 50 = 0 from c), if_neg (show ¬ fX7_isIn (nI u) 1 50 = 0 from c')]
  rcases wi p1 1 9 (by decide) (by decide) with ⟨c, c'⟩ | ⟨v, v1, v2, rfl, c, c'⟩
  · right
    exact ⟨IA, 1, 0, _, Or.inl ⟨rfl, rfl⟩, if_pos c, by rw [if_pos (show fX7_isIn p1 1 9 = 0 from c'), no_, b2_S], uS_s, SIM_no h⟩
  rw [if_neg (show ¬ fX5_within (nI v) 1 9 = 0 from c), if_neg (show ¬ fX7_isIn (nI v) 1 9 = 0 from c')]
  obtain ⟨L, N, B, d, hW, hR, hZ, hJ, hV, hB, hd⟩ := id h
  obtain ⟨⟨a1, a2, a3⟩, ⟨w1, w2, w3⟩, wt, ⟨ww1, ww2, ww3⟩, ⟨q, q1, q2, q3⟩⟩ := hW
  obtain ⟨⟨r1, r2, r3, r4⟩, ⟨b1, b2, b3, b4, b5, b6, b7, b8⟩, ⟨c1, c2, c3⟩, ⟨d1, d2, d3, d4⟩⟩ := id hR
  have ek : uS k 0 0 1 = nI L := by rw [uS_n (by decide), d1, a1]
  by_cases hL : L < 6
  · left
    refine ⟨nI L, uG (uG G 1 (upd (G 1) L (nI u))) 2 (upd (G 2) L (nI v)), uS g 5 (nI L + 1), uG (uG M 0 (upd (M 0) L (nI u))) 1 (upd (M 1) L (nI v)), uS (uS k 0 0) 1 (nI L + 1), ?_, ?_, ?_, L + 1, N, B, d, ⟨⟨?_, ?_, ?_⟩, ⟨by omega, ?_, ?_⟩, ?_, ?_, ?_⟩, ?_, ?_, hJ, hV, by omega, by omega⟩
    · rw [a1, if_pos (show nI L < 6 from nI_lt (b := 6) hL (by decide))]
      unfold fX0_tell
      rw [lt_B, lt_B, lt_B, lt_B, b3_S, a1, rPut_in hL (by decide), rPut_in hL (by decide), uG_n (show (2 : Nat) ≠ 1 by decide)]
    · rw [ek, if_neg (show ¬ nI L = 6 from fun q => absurd ((nI_eq (b := 6) (by omega) (by decide)).mp q) (by omega)), gd_in hL (by decide), lt_B, gd_in hL (by decide), lt_B, lt_B, cl_n (by omega), uS_s, Int32.add_sub_cancel, uG_n (show (1 : Nat) ≠ 0 by decide)]
    · rw [uS_n (by decide), uS_s]
    · rw [uS_s, nI_1]
    · rw [uS_n (by decide), a2]
    · rw [uS_n (by decide), a3]
    · intro j hj
      rw [uG_n (by decide), uG_s]
      by_cases c : j = L
      · subst c; exact ⟨u, u1, u2, pk_us⟩
      · rw [pk_un c]; exact w2 j (by omega)
    · intro j hj
      rw [uG_n (by decide), uG_s, pk_un (by omega)]; exact w3 j (by omega)
    · rw [uG_n (by decide), uG_n (by decide)]; exact wt
    · rw [uG_n (by decide), uG_n (by decide), uG_n (by decide), uG_n (by decide)]
      refine ⟨ww1, fun w hw => ?_, ww3⟩
      obtain ⟨x, hx, ex⟩ := ww2 w hw
      exact ⟨x, by omega, ex⟩
    · rw [uG_n (by decide), uG_n (by decide)]
      exact ⟨q, q1, fun p hp h6 => q2 p hp (by omega), q3⟩
    · refine ⟨⟨?_, ?_, ?_, ?_⟩, ⟨?_, ?_, ?_, ?_, ?_, ?_, ?_, ?_⟩, ⟨?_, ?_, ?_⟩, ⟨?_, ?_, ?_, ?_⟩⟩ <;> simp [uG, uS, *]
    · exact ZG_uG (ZG_uG hZ (zb_upd (hZ 1 (by decide)) hL)) (zb_upd (hZ 2 (by decide)) hL)
  · right
    have : L = 6 := by omega
    subst this
    refine ⟨IS, 2, 0, uS (uS k 0 0) 0 2, Or.inr ⟨rfl, rfl⟩, ?_, ?_, uS_s, SIM_no h⟩
    · rw [a1, if_neg (by decide)]
    · rw [ek, if_pos (show nI 6 = 6 from rfl), no_, b2_S]
theorem op_setTide {n : Nat} {G J V T M : Nat → Nat → Int32} {g t k : Nat → Int32} (h : SIM n G g J V T t M k) (p0 p1 : Int32) :
    (∃ r G' M' k', fX5_setTide G p0 p1 = some (.inr (r, G')) ∧ fX7_setTide M k p0 p1 = some (r, M', k') ∧ k' 0 = 0 ∧ SIM (n + 1) G' g J V T t M' k') ∨
    ∃ s c b k', ((s = IX ∧ c = 1) ∨ (s = IA ∧ c = 2)) ∧ fX5_setTide G p0 p1 = some (.inl s) ∧ fX7_setTide M k p0 p1 = some (b, M, k') ∧ k' 0 = c ∧ SIM (n + 1) G g J V T t M k' := by
  unfold fX5_setTide fX7_setTide
  rw [lt_B (uS k 0 0)]
  rcases wi p0 0 6 (by decide) (by decide) with ⟨c, c'⟩ | ⟨u, u1, u2, rfl, c, c'⟩
  · right
    exact ⟨IX, 1, 0, _, Or.inl ⟨rfl, rfl⟩, if_pos c, by rw [if_pos (show fX7_isIn p0 0 6 = 0 from c'), no_, b2_S], uS_s, SIM_no h⟩
  rw [if_neg (show ¬ fX5_within (nI u) 0 6 = 0 from c), if_neg (show ¬ fX7_isIn (nI u) 0 6 = 0 from c')]
  rcases wi p1 0 9 (by decide) (by decide) with ⟨c, c'⟩ | ⟨v, v1, v2, rfl, c, c'⟩
  · right
    exact ⟨IA, 2, 0, _, Or.inr ⟨rfl, rfl⟩, if_pos c, by rw [if_pos (show fX7_isIn p1 0 9 = 0 from c'), no_, b2_S], uS_s, SIM_no h⟩
  rw [if_neg (show ¬ fX5_within (nI v) 0 9 = 0 from c), if_neg (show ¬ fX7_isIn (nI v) 0 9 = 0 from c')]
  obtain ⟨L, N, B, d, hW, hR, hZ, hJ, hV, hB, hd⟩ := id h
  obtain ⟨wa, wl_, wt, ww, wp⟩ := hW
  obtain ⟨⟨r1, r2, r3, r4⟩, ⟨b1, b2, b3, b4, b5, b6, b7, b8⟩, ⟨c1, c2, c3⟩, ⟨d1, d2, d3, d4⟩⟩ := id hR
  left
  refine ⟨G 0 u, uG G 0 (upd (G 0) u (nI v)), uG M 2 (upd (M 2) u (nI v)), uS k 0 0, ?_, ?_, uS_s, L, N, B, d, ⟨wa, ?_, ?_, ?_, ?_⟩, ?_, ?_, hJ, hV, by omega, by omega⟩
  · rw [lt_B, lt_B, rAt_in (by omega) (by decide), rPut_in (by omega) (by decide)]
  · rw [gd_in (by omega) (by decide), lt_B, gd_in (by omega) (by decide), lt_B, cl_n (by omega), b3]
  · rw [uG_n (by decide)]; exact wl_
  · rw [uG_s]
    intro j hj
    by_cases c : j = u
    · subst c; exact ⟨v, v2, pk_us⟩
    · rw [pk_un c]; exact wt j hj
  · rw [uG_n (by decide), uG_n (by decide)]; exact ww
  · rw [uG_n (by decide)]; exact wp
  · refine ⟨⟨?_, ?_, ?_, ?_⟩, ⟨?_, ?_, ?_, ?_, ?_, ?_, ?_, ?_⟩, ⟨?_, ?_, ?_⟩, ⟨?_, ?_, ?_, ?_⟩⟩ <;> simp [uG, uS, *]
  · exact ZG_uG hZ (zb_upd (hZ 0 (by decide)) (show u < 7 by omega))
