/-! fishing -/
def cF (P : Nat → Int32) (a : Nat) : Nat → Bool := fun j => !decide (P (6 * a + j) ≤ 0)
theorem dearest_in {G : Nat → Nat → Int32} {g : Nat → Int32} {L a : Nat} (h5 : g 5 = nI L) (hL : L ≤ 6) (hV : ∀ j, j < L → ∃ v, 1 ≤ v ∧ v ≤ 50 ∧ G 1 j = nI v) (ha : a < 5) : fX3_dearestIn G g (nI a) = some (eo (bsel (cF (G 11) a) (G 1) L)) := by
  unfold fX3_dearestIn
  refine b3_lp (lp_for (fun i => (eo (bsel (cF (G 11) a) (G 1) i), ev (G 1) (bsel (cF (G 11) a) (G 1) i), nI i)) L (eo (bsel (cF (G 11) a) (G 1) L), ev (G 1) (bsel (cF (G 11) a) (G 1) L), nI L) rfl (by omega) (fun i hi => ?_) ?_) rfl
  · show fX3_dearestIn_B7 G g (nI a) (eo (bsel _ _ i)) (ev _ (bsel _ _ i)) (nI i) = _
    unfold fX3_dearestIn_B7
    rw [h5, if_neg (nI_ge hi (by omega)), at_in ha (by omega), rAt_in (by omega) (by decide), nI_up]
    by_cases c : cF (G 11) a i = true
    · have c0 : ¬ G 11 (6 * a + i) ≤ 0 := fun q => by unfold cF at c; rw [decide_eq_true q] at c; cases c
      rw [if_neg c0]
      obtain ⟨v, h1, h2, h3⟩ := hV i hi
      cases hb : bsel (cF (G 11) a) (G 1) i with
      | none =>
        rw [bsel_y c hb, ev_0, eo_1, ev_1, h3, if_neg (nI_nle (by omega) (by omega)), lt_B]
      | some b =>
        rw [ev_1]
        by_cases c2 : G 1 i ≤ G 1 b
        · rw [if_pos c2, bsel_b c hb c2, ev_1]
        · rw [if_neg c2, bsel_i c hb c2, ev_1, eo_1, lt_B]
    · have c0 : G 11 (6 * a + i) ≤ 0 := Classical.byContradiction fun q => c (by unfold cF; rw [decide_eq_false q]; rfl)
      rw [if_pos c0, bsel_n c]
  · show fX3_dearestIn_B7 G g (nI a) (eo (bsel _ _ L)) (ev _ (bsel _ _ L)) (nI L) = _
    unfold fX3_dearestIn_B7
    rw [h5, if_pos (Int32.le_refl _)]
theorem m_dearest {T M : Nat → Nat → Int32} {k : Nat → Int32} {L a : Nat} (h1 : k 1 = nI L) (hL : L ≤ 6) (ha : a < 5) : lp (fun s => fX7_fish_B51 M (nI a) T k s.1 s.2) 7 (-1, 0) = some (eo (bsel (cF (T 0) a) (M 0) L), nI L) := by
  refine lp_for (fun i => (eo (bsel (cF (T 0) a) (M 0) i), nI i)) L (_, nI L) rfl (by omega) (fun i hi => ?_) ?_
  · show fX7_fish_B51 M (nI a) T k (eo (bsel _ _ i)) (nI i) = _
    unfold fX7_fish_B51
    rw [h1, if_neg (nI_ge hi (by omega)), six, gd_in (by omega) (by decide), cl_n (by omega), cl_n (by omega), nI_up]
    by_cases c : cF (T 0) a i = true
    · have c0 : ¬ T 0 (6 * a + i) ≤ 0 := fun q => by unfold cF at c; rw [decide_eq_true q] at c; cases c
      rw [if_neg c0]
      cases hb : bsel (cF (T 0) a) (M 0) i with
      | none => rw [bsel_y c hb, eo_0, eo_1, if_pos rfl]
      | some b =>
        have hbi := (bsel_lt hb).1
        have hb31 : b < 2 ^ 31 := by omega
        rw [eo_1, if_neg (eo_ne hb31), gd_in (by omega) (by decide), gd_in (by omega) (by decide), cl_n hb31]
        by_cases c2 : M 0 i ≤ M 0 b
        · rw [if_pos c2, bsel_b c hb c2, eo_1]
        · rw [if_neg c2, bsel_i c hb c2, eo_1]
    · have c0 : T 0 (6 * a + i) ≤ 0 := Classical.byContradiction fun q => c (by unfold cF; rw [decide_eq_false q]; rfl)
      rw [if_pos c0, bsel_n c]
  · show fX7_fish_B51 M (nI a) T k (eo (bsel _ _ L)) (nI L) = _
    unfold fX7_fish_B51
    rw [h1, if_pos (Int32.le_refl _)]
/-- the piles and the sum after i coins -/
def fs (a L : Nat) (V : Nat → Int32) (P : Nat → Int32) : Nat → Int32 × (Nat → Int32)
  | 0 => (0, P)
  | i + 1 => match bsel (cF (fs a L V P i).2 a) V L with
    | none => fs a L V P i
    | some j => ((fs a L V P i).1 + V j, upd (fs a L V P i).2 (6 * a + j) ((fs a L V P i).2 (6 * a + j) + -1))
theorem fs_s {a L : Nat} {V P : Nat → Int32} {i j : Nat} (h : bsel (cF (fs a L V P i).2 a) V L = some j) : fs a L V P (i + 1) = ((fs a L V P i).1 + V j, upd (fs a L V P i).2 (6 * a + j) ((fs a L V P i).2 (6 * a + j) + -1)) := by simp only [fs, h]
theorem fs_wf {a L B : Nat} {V P : Nat → Int32} (h : WFp L B P) (hB : B < 2 ^ 30) (ha : a < 5) (hL : L ≤ 6) (i : Nat) : WFp L B (fs a L V P i).2 := by
  induction i with
  | zero => exact h
  | succ i ih =>
    cases hb : bsel (cF (fs a L V P i).2 a) V L with
    | none => simp only [fs, hb]; exact ih
    | some j =>
      rw [fs_s hb]
      obtain ⟨hj, hc⟩ := bsel_lt hb
      obtain ⟨c, h1, h2, h3⟩ := id ih
      have e := h1 (6 * a + j) (by omega)
      have hle : c (6 * a + j) ≤ B := by
        have := h3 j (by omega)
        rcases (show a = 0 ∨ a = 1 ∨ a = 2 ∨ a = 3 ∨ a = 4 by omega) with e | e | e | e | e <;> subst e <;> simp only [Nat.mul_zero, Nat.zero_add, Nat.mul_one, show 6 * 2 = 12 from rfl, show 6 * 3 = 18 from rfl, show 6 * 4 = 24 from rfl] <;> omega
      have h0 : c (6 * a + j) ≠ 0 := fun q => by
        unfold cF at hc
        rw [e, q] at hc
        exact absurd hc (by decide)
      obtain ⟨m, hm⟩ : ∃ m, c (6 * a + j) = m + 1 := ⟨c (6 * a + j) - 1, by omega⟩
      show WFp L B (upd _ _ _)
      rw [e, hm, ng]
      exact WFp_dec ih hB (by omega) (by rw [e, hm]) (by omega)
theorem fs_zb {a L : Nat} {V P : Nat → Int32} (h : zb 30 P) (ha : a < 5) (hL : L ≤ 6) (i : Nat) : zb 30 (fs a L V P i).2 := by
  induction i with
  | zero => exact h
  | succ i ih =>
    cases hb : bsel (cF (fs a L V P i).2 a) V L with
    | none => simp only [fs, hb]; exact ih
    | some j =>
      rw [fs_s hb]
      have hj := (bsel_lt hb).1
      exact zb_upd ih (by omega)
/-- where both stop -/
theorem fs_stop (a L : Nat) (V P : Nat → Int32) (u : Nat) : ∃ n, n ≤ u ∧ (∀ i, i < n → ∃ j, bsel (cF (fs a L V P i).2 a) V L = some j) ∧ (n = u ∨ bsel (cF (fs a L V P n).2 a) V L = none) := by
  by_cases hx : ∃ n, n ≤ u ∧ bsel (cF (fs a L V P n).2 a) V L = none
  · obtain ⟨n, ⟨h1, h2⟩, h3⟩ := pk_least (fun n => n ≤ u ∧ bsel (cF (fs a L V P n).2 a) V L = none) hx
    refine ⟨n, h1, fun i hi => ?_, Or.inr h2⟩
    cases hb : bsel (cF (fs a L V P i).2 a) V L with
    | none => exact absurd ⟨by omega, hb⟩ (h3 i hi)
    | some j => exact ⟨j, rfl⟩
  · refine ⟨u, Nat.le_refl u, fun i hi => ?_, Or.inl rfl⟩
    cases hb : bsel (cF (fs a L V P i).2 a) V L with
    | none => exact absurd ⟨i, by omega, hb⟩ hx
    | some j => exact ⟨j, rfl⟩
theorem op_fish {n : Nat} {G J V T M : Nat → Nat → Int32} {g t k : Nat → Int32} (h : SIM n G g J V T t M k) (hn : n ≤ 1000) (p0 p1 : Int32) :
    (∃ r G' g' T' k', fX5_fish G g p0 p1 = some (.inr (r, G', g')) ∧ fX7_fish T M k p0 p1 = some (r, T', k') ∧ k' 0 = 0 ∧ SIM (n + 1) G' g' J V T' t M k') ∨
    ∃ s c b k', ((s = IX ∧ c = 1) ∨ (s = IA ∧ c = 2)) ∧ fX5_fish G g p0 p1 = some (.inl s) ∧ fX7_fish T M k p0 p1 = some (b, T, k') ∧ k' 0 = c ∧ SIM (n + 1) G g J V T t M k' := by
  unfold fX5_fish fX7_fish
  rw [lt_B (uS k 0 0), isLay]
  rcases wi p0 0 4 (by decide) (by decide) with ⟨c, c'⟩ | ⟨a, u1, u2, rfl, c, c'⟩
  · right
    exact ⟨IX, 1, 0, _, Or.inl ⟨rfl, rfl⟩, if_pos c, by rw [if_pos (show fX7_isIn p0 0 4 = 0 from c'), no_, b2_S], uS_s, SIM_no h⟩
  rw [if_neg (show ¬ fX5_within (nI a) 0 4 = 0 from c), if_neg (show ¬ fX7_isIn (nI a) 0 4 = 0 from c')]
  rcases wi p1 1 20 (by decide) (by decide) with ⟨c, c'⟩ | ⟨v, v1, v2, rfl, c, c'⟩
  · right
    exact ⟨IA, 2, 0, _, Or.inr ⟨rfl, rfl⟩, if_pos c, by rw [if_pos (show fX7_isIn p1 1 20 = 0 from c'), no_, b2_S], uS_s, SIM_no h⟩
  rw [if_neg (show ¬ fX5_within (nI v) 1 20 = 0 from c), if_neg (show ¬ fX7_isIn (nI v) 1 20 = 0 from c')]
  obtain ⟨L, N, B, d, hW, hR, hZ, hJ, hV, hB, hd⟩ := id h
  obtain ⟨⟨a1, a2, a3⟩, ⟨w1, w2, w3⟩, wt, ww, wp⟩ := id hW
  obtain ⟨⟨r1, r2, r3, r4⟩, ⟨b1, b2, b3, b4, b5, b6, b7, b8⟩, ⟨c1, c2, c3⟩, ⟨d1, d2, d3, d4⟩⟩ := id hR
  have ek : uS k 0 0 1 = nI L := by rw [uS_n (by decide), d1, a1]
  have ha : a < 5 := by omega
  obtain ⟨m, hm, hs, he⟩ := fs_stop a L (G 1) (G 11) v
  obtain ⟨S, hS⟩ : ∃ S, S = fs a L (G 1) (G 11) := ⟨_, rfl⟩
  rw [← hS] at hs he
  left
  have dn : ∀ i, fX3_dearestIn (uG G 11 (S i).2) g (nI a) = some (eo (bsel (cF (S i).2 a) (G 1) L)) := fun i => by
    have := dearest_in (G := uG G 11 (S i).2) (g := g) (L := L) (a := a) a1 w1 (by rw [uG_n (by decide)]; exact w2) ha
    rw [uG_s, uG_n (show (1 : Nat) ≠ 11 by decide)] at this
    exact this
  have mn : ∀ i, lp (fun s => fX7_fish_B51 M (nI a) (uG T 0 (S i).2) (uS k 0 0) s.1 s.2) 7 (-1, 0) = some (eo (bsel (cF (S i).2 a) (G 1) L), nI L) := fun i => by
    have := m_dearest (T := uG T 0 (S i).2) (M := M) (k := uS k 0 0) (L := L) (a := a) ek w1 ha
    rw [uG_s, b1] at this
    exact this
  refine ⟨(S m).1, uG G 11 (S m).2, uS g 4 (g 4 + (S m).1), uG T 0 (S m).2, uS (uS k 0 0) 4 (uS k 0 0 4 + (S m).1), ?_, ?_, ?_, L, N, B, d, ⟨⟨?_, ?_, ?_⟩, ?_, ?_, ?_, ?_⟩, ?_, ?_, hJ, hV, by omega, by omega⟩
  · have e : fX3_fishCoins G g (nI a) (nI v) = some ((S m).1, uG G 11 (S m).2, uS g 4 (g 4 + (S m).1)) := by
      unfold fX3_fishCoins
      refine b3_lp (lp_for (fun i => ((S i).1, nI i, uG G 11 (S i).2)) m ((S m).1, nI m, uG G 11 (S m).2) ?_ (by omega) (fun i hi => ?_) ?_) rfl
      · rw [hS]; show (0, 0, G) = (0, nI 0, uG G 11 (G 11)); rw [uG_id]; rfl
      · show fX3_fishCoins_B5 g (nI a) (nI v) (S i).1 (nI i) (uG G 11 (S i).2) = _
        unfold fX3_fishCoins_B5
        obtain ⟨j, hj⟩ := hs i hi
        have hjL := (bsel_lt hj).1
        rw [if_neg (nI_ge (by omega) (by omega)), dn, hj, bd_S, eo_1, if_neg (eo_ne (by omega)), add_in ha (by omega), bd_S, uG_s, uG_uG, uG_n (show (1 : Nat) ≠ 11 by decide), rAt_in (by omega) (by decide), lt_B, nI_up]
        have e2 := fs_s (P := G 11) (by rw [← hS]; exact hj)
        rw [← hS] at e2
        rw [e2]
      · show fX3_fishCoins_B5 g (nI a) (nI v) (S m).1 (nI m) (uG G 11 (S m).2) = _
        unfold fX3_fishCoins_B5
        by_cases cv : m = v
        · rw [cv, if_pos (Int32.le_refl _)]
        · rcases he with he | he
          · exact absurd he cv
          · rw [if_neg (nI_ge (by omega) (by omega)), dn, he, bd_S, eo_0, if_pos rfl]
    rw [e, b3_S]
  · refine b3_lp (lp_for (fun i => ((S i).1, nI i, uG T 0 (S i).2)) m ((S m).1, nI m, uG T 0 (S m).2) ?_ (by omega) (fun i hi => ?_) ?_) rfl
    · rw [hS, ← r1]; show (0, 0, T) = (0, nI 0, uG T 0 (T 0)); rw [uG_id]; rfl
    · show fX7_fish_B39 M (nI a) (nI v) (uS k 0 0) (S i).1 (nI i) (uG T 0 (S i).2) = _
      unfold fX7_fish_B39
      obtain ⟨j, hj⟩ := hs i hi
      have hjL := (bsel_lt hj).1
      rw [if_neg (nI_ge (by omega) (by omega)), mn, hj, b2_S, eo_1, if_neg (eo_ne (by omega)), six, gd_in (by omega) (by decide), gd_in (by omega) (by decide), lt_B, gd_in (by omega) (by decide), lt_B, cl_n (by omega), cl_n (by omega), uG_s, uG_uG, nI_up, Int32.sub_eq_add_neg, b1]
      have e2 := fs_s (P := G 11) (by rw [← hS]; exact hj)
      rw [← hS] at e2
      rw [e2]
    · show fX7_fish_B39 M (nI a) (nI v) (uS k 0 0) (S m).1 (nI m) (uG T 0 (S m).2) = _
      unfold fX7_fish_B39
      by_cases cv : m = v
      · rw [cv, if_pos (Int32.le_refl _)]
      · rcases he with he | he
        · exact absurd he cv
        · rw [if_neg (nI_ge (by omega) (by omega)), mn, he, b2_S, eo_0, if_pos rfl]
  · rw [uS_n (by decide), uS_s]
  · rw [uS_n (by decide)]; exact a1
  · rw [uS_n (by decide)]; exact a2
  · rw [uS_n (by decide)]; exact a3
  · rw [uG_n (by decide)]; exact ⟨w1, w2, w3⟩
  · rw [uG_n (by decide)]; exact wt
  · rw [uG_n (by decide), uG_n (by decide)]; exact ww
  · rw [uG_s, hS]; exact fs_wf wp (by omega) ha w1 m
  · refine ⟨⟨?_, ?_, ?_, ?_⟩, ⟨?_, ?_, ?_, ?_, ?_, ?_, ?_, ?_⟩, ⟨?_, ?_, ?_⟩, ⟨?_, ?_, ?_, ?_⟩⟩ <;> simp [uG, uS, *]
  · exact ZG_uG hZ (by rw [hS]; exact fs_zb (hZ 11 (by decide)) ha w1 m)
/-! an audit -/
def Pz (P : Nat → Int32) (a j : Nat) : Nat → Int32 := fun p => if 6 * a ≤ p ∧ p < 6 * a + j then 0 else P p
def Az (P A : Nat → Int32) (a j : Nat) : Nat → Int32 := fun q => if q < j then A q + P (6 * a + q) else A q
theorem Pz_0 {P : Nat → Int32} {a : Nat} : Pz P a 0 = P := by
  funext p; unfold Pz; rw [if_neg (by omega)]
theorem Az_0 {P A : Nat → Int32} {a : Nat} : Az P A a 0 = A := by
  funext p; unfold Az; rw [if_neg (by omega)]
theorem Pz_s {P : Nat → Int32} {a j : Nat} : upd (Pz P a j) (6 * a + j) 0 = Pz P a (j + 1) := by
  funext p
  by_cases c : p = 6 * a + j
  · subst c; rw [pk_us]; unfold Pz; rw [if_pos (by omega)]
  · rw [pk_un c]; unfold Pz
    by_cases c2 : 6 * a ≤ p ∧ p < 6 * a + j
    · rw [if_pos c2, if_pos (by omega)]
    · rw [if_neg c2, if_neg (by omega)]
theorem Az_s {P A : Nat → Int32} {a j : Nat} : upd (Az P A a j) j (A j + P (6 * a + j)) = Az P A a (j + 1) := by
  funext p
  by_cases c : p = j
  · subst c; rw [pk_us]; unfold Az; rw [if_pos (by omega)]
  · rw [pk_un c]; unfold Az
    by_cases c2 : p < j
    · rw [if_pos c2, if_pos (by omega)]
    · rw [if_neg c2, if_neg (by omega)]
theorem Pz_at {P : Nat → Int32} {a j : Nat} : Pz P a j (6 * a + j) = P (6 * a + j) := by unfold Pz; rw [if_neg (by omega)]
theorem Az_at {P A : Nat → Int32} {a j : Nat} : Az P A a j j = A j := by unfold Az; rw [if_neg (by omega)]
theorem WFp_tail {L B : Nat} {P : Nat → Int32} (h : WFp L B P) {p : Nat} (hp : p < 30) (h6 : L ≤ p % 6) : P p = 0 := by
  obtain ⟨c, h1, h2, -⟩ := h
  rw [h1 p hp, h2 p hp h6]; rfl
theorem Pz_L {L B a : Nat} {P : Nat → Int32} (h : WFp L B P) (ha : a < 5) (hL : L ≤ 6) : Pz P a L = Pz P a 6 := by
  funext p
  unfold Pz
  by_cases c : 6 * a ≤ p ∧ p < 6 * a + L
  · rw [if_pos c, if_pos (by omega)]
  · rw [if_neg c]
    by_cases c2 : 6 * a ≤ p ∧ p < 6 * a + 6
    · rw [if_pos c2]; exact WFp_tail h (by omega) (by omega)
    · rw [if_neg c2]
theorem Az_L {L B a : Nat} {P A : Nat → Int32} (h : WFp L B P) (ha : a < 5) (hL : L ≤ 6) : Az P A a L = Az P A a 6 := by
  funext p
  unfold Az
  by_cases c : p < L
  · rw [if_pos c, if_pos (by omega)]
  · rw [if_neg c]
    by_cases c2 : p < 6
    · rw [if_pos c2, WFp_tail h (by omega) (by omega), Int32.add_zero]
    · rw [if_neg c2]
theorem WFp_Pz {L B a : Nat} {P : Nat → Int32} (h : WFp L B P) (j : Nat) : WFp L B (Pz P a j) := by
  obtain ⟨c, h1, h2, h3⟩ := h
  have hs : ∀ q, (if 6 * a ≤ q ∧ q < 6 * a + j then 0 else c q) ≤ c q := fun q => by split <;> omega
  refine ⟨fun q => if 6 * a ≤ q ∧ q < 6 * a + j then 0 else c q, fun q hq => ?_, fun q hq h6 => ?_, fun i hi => ?_⟩
  · show Pz P a j q = nI (if 6 * a ≤ q ∧ q < 6 * a + j then 0 else c q)
    unfold Pz
    by_cases e : 6 * a ≤ q ∧ q < 6 * a + j
    · rw [if_pos e, if_pos e]; rfl
    · rw [if_neg e, if_neg e, h1 q hq]
  · show (if 6 * a ≤ q ∧ q < 6 * a + j then 0 else c q) = 0
    have := hs q
    have := h2 q hq h6
    omega
  · have := h3 i hi
    have s0 := hs i; have s1 := hs (6 + i); have s2 := hs (12 + i); have s3 := hs (18 + i); have s4 := hs (24 + i)
    exact Nat.le_trans (by show (if 6 * a ≤ i ∧ i < 6 * a + j then 0 else c i) + (if 6 * a ≤ 6 + i ∧ 6 + i < 6 * a + j then 0 else c (6 + i)) + (if 6 * a ≤ 12 + i ∧ 12 + i < 6 * a + j then 0 else c (12 + i)) + (if 6 * a ≤ 18 + i ∧ 18 + i < 6 * a + j then 0 else c (18 + i)) + (if 6 * a ≤ 24 + i ∧ 24 + i < 6 * a + j then 0 else c (24 + i)) ≤ c i + c (6 + i) + c (12 + i) + c (18 + i) + c (24 + i); omega) this
theorem op_audit {n : Nat} {G J V T M : Nat → Nat → Int32} {g t k : Nat → Int32} (h : SIM n G g J V T t M k) (p0 : Int32) :
    (∃ r G' g' T' M' k', fX5_audit G g p0 = some (.inr (r, G', g')) ∧ fX7_audit T M k p0 = some (r, T', M', k') ∧ k' 0 = 0 ∧ SIM (n + 1) G' g' J V T' t M' k') ∨
    ∃ s c b k', (s = IX ∧ c = 1) ∧ fX5_audit G g p0 = some (.inl s) ∧ fX7_audit T M k p0 = some (b, T, M, k') ∧ k' 0 = c ∧ SIM (n + 1) G g J V T t M k' := by
  unfold fX5_audit fX7_audit
  rw [lt_B (uS k 0 0), isLay]
  rcases wi p0 0 4 (by decide) (by decide) with ⟨c, c'⟩ | ⟨a, u1, u2, rfl, c, c'⟩
  · right
    exact ⟨IX, 1, 0, _, ⟨rfl, rfl⟩, if_pos c, by rw [if_pos (show fX7_isIn p0 0 4 = 0 from c'), no_, b2_S], uS_s, SIM_no h⟩
  rw [if_neg (show ¬ fX5_within (nI a) 0 4 = 0 from c), if_neg (show ¬ fX7_isIn (nI a) 0 4 = 0 from c')]
  obtain ⟨L, N, B, d, hW, hR, hZ, hJ, hV, hB, hd⟩ := id h
  obtain ⟨⟨a1, a2, a3⟩, ⟨w1, w2, w3⟩, wt, ww, wp⟩ := id hW
  obtain ⟨⟨r1, r2, r3, r4⟩, ⟨b1, b2, b3, b4, b5, b6, b7, b8⟩, ⟨c1, c2, c3⟩, ⟨d1, d2, d3, d4⟩⟩ := id hR
  have ha : a < 5 := by omega
  have hcoin := coinsIn_in (G := G) ha
  have hval := valueIn_in (G := G) (g := g) a1 w1 (fun j h1 h2 => w3 j h1) ha
  have mcoin := m_coins (T := T) ha
  have mval := m_worth (T := T) (M := M) ha
  left
  refine ⟨sm (fun j => G 11 (6 * a + j)) 6, uG (uG G 11 (Pz (G 11) a 6)) 4 (Az (G 11) (G 4) a 6), uS g 3 (g 3 + vI (G 11) (G 1) a), uG T 0 (Pz (G 11) a 6), uG M 3 (Az (G 11) (G 4) a 6), uS (uS k 0 0) 3 (uS k 0 0 3 + vI (G 11) (G 1) a), ?_, ?_, ?_, L, N, B, d, ⟨⟨?_, ?_, ?_⟩, ?_, ?_, ?_, ?_⟩, ?_, ?_, hJ, hV, by omega, by omega⟩
  · have e : fX3_auditLayer G g (nI a) = some (sm (fun j => G 11 (6 * a + j)) 6, uG (uG G 11 (Pz (G 11) a 6)) 4 (Az (G 11) (G 4) a 6), uS g 3 (g 3 + vI (G 11) (G 1) a)) := by
      unfold fX3_auditLayer
      rw [hcoin, bd_S, hval, bd_S, lt_B, ← Pz_L wp ha w1, ← Az_L wp ha w1]
      refine b2_lp (lp_for (fun i => (nI i, uG (uG G 11 (Pz (G 11) a i)) 4 (Az (G 11) (G 4) a i))) L (nI L, uG (uG G 11 (Pz (G 11) a L)) 4 (Az (G 11) (G 4) a L)) ?_ (by omega) (fun i hi => ?_) ?_) rfl
      · show (0, G) = (nI 0, uG (uG G 11 (Pz (G 11) a 0)) 4 (Az (G 11) (G 4) a 0))
        rw [Pz_0, Az_0, uG_id, uG_id]; rfl
      · show fX3_auditLayer_B25 (nI a) _ (nI i) (uG (uG G 11 (Pz (G 11) a i)) 4 (Az (G 11) (G 4) a i)) = _
        unfold fX3_auditLayer_B25
        rw [uS_n (by decide), a1, if_neg (nI_ge hi (by omega)), lt_B, at_in ha (by omega), add_in ha (by omega), bd_S, lt_B, rAdd_in (by omega) (by decide), nI_up]
        rw [uG_n (show (11 : Nat) ≠ 4 by decide), uG_s, uG_n (show (4 : Nat) ≠ 11 by decide), uG_s, Pz_at, Az_at, Int32.add_right_neg, Pz_s, Az_s]
        have e : ∀ (f f' : Nat → Int32), uG (uG (uG (uG G 11 f) 4 f') 11 (Pz (G 11) a (i + 1))) 4 (Az (G 11) (G 4) a (i + 1)) = uG (uG G 11 (Pz (G 11) a (i + 1))) 4 (Az (G 11) (G 4) a (i + 1)) := fun f f' => by
          funext q
          by_cases q4 : q = 4
          · subst q4; rw [uG_s, uG_s]
          · rw [uG_n q4, uG_n q4]
            by_cases q11 : q = 11
            · subst q11; rw [uG_s, uG_s]
            · rw [uG_n q11, uG_n q11, uG_n q4, uG_n q11]
        rw [e]
      · show fX3_auditLayer_B25 (nI a) _ (nI L) _ = _
        unfold fX3_auditLayer_B25
        rw [uS_n (by decide), a1, if_pos (Int32.le_refl _)]
    rw [e, b3_S]
  · rw [mcoin, bd_S, mval, bd_S, lt_B, r1, b1]
    refine b3_lp (lp_for (fun i => (nI i, uG T 0 (Pz (G 11) a i), uG M 3 (Az (G 11) (G 4) a i))) 6 (nI 6, uG T 0 (Pz (G 11) a 6), uG M 3 (Az (G 11) (G 4) a 6)) ?_ (by omega) (fun i hi => ?_) ?_) rfl
    · show (0, T, M) = (nI 0, uG T 0 (Pz (G 11) a 0), uG M 3 (Az (G 11) (G 4) a 0))
      rw [Pz_0, Az_0, ← r1, ← b4, uG_id, uG_id]; rfl
    · show fX7_audit_B46 (nI a) (nI i) (uG T 0 (Pz (G 11) a i)) (uG M 3 (Az (G 11) (G 4) a i)) = _
      unfold fX7_audit_B46
      rw [if_neg (show ¬ (6 : Int32) ≤ nI i from nI_ge (b := 6) hi (by decide)), six, gd_in (by omega) (by decide), gd_in (by omega) (by decide), gd_in (by omega) (by decide), lt_B, gd_in (by omega) (by decide), lt_B, cl_n (by omega), cl_n (by omega), uG_s, uG_s, uG_uG, uG_uG, Pz_at, Az_at, Pz_s, Az_s, nI_up]
    · show fX7_audit_B46 (nI a) (nI 6) _ _ = _
      unfold fX7_audit_B46
      rw [if_pos (by decide)]
  · rw [uS_n (by decide), uS_s]
  · rw [uS_n (by decide)]; exact a1
  · rw [uS_n (by decide)]; exact a2
  · rw [uS_n (by decide)]; exact a3
  · rw [uG_n (by decide), uG_n (by decide)]; exact ⟨w1, w2, w3⟩
  · rw [uG_n (by decide), uG_n (by decide)]; exact wt
  · rw [uG_n (by decide), uG_n (by decide), uG_n (by decide), uG_n (by decide)]; exact ww
  · rw [uG_n (by decide), uG_s]; exact WFp_Pz wp 6
  · refine ⟨⟨?_, ?_, ?_, ?_⟩, ⟨?_, ?_, ?_, ?_, ?_, ?_, ?_, ?_⟩, ⟨?_, ?_, ?_⟩, ⟨?_, ?_, ?_, ?_⟩⟩ <;> simp [uG, uS, *]
  · refine ZG_uG (ZG_uG hZ (fun j hj => ?_)) (fun j hj => ?_)
    · unfold Pz
      split
      · rfl
      · exact hZ 11 (by decide) j hj
    · have : 6 ≤ j := hj
      unfold Az
      rw [if_neg (by omega)]
      exact hZ 4 (by decide) j hj
