/-! a wish -/
def tellG (G : Nat → Nat → Int32) (N : Nat) (x y z : Int32) : Nat → Nat → Int32 := uG (uG (uG (uG (uG G 6 (upd (G 6) N x)) 7 (upd (G 7) N y)) 8 (upd (G 8) N z)) 9 (upd (G 9) N 0)) 10 (upd (G 10) N (-1))
theorem tell_in {G : Nat → Nat → Int32} {g : Nat → Int32} {N : Nat} {x y z : Int32} (h6 : g 6 = nI N) (hN : N < 24) : fX4_tell G g x y z = some (nI N, tellG G N x y z, uS g 6 (nI N + 1)) := by
  unfold fX4_tell
  rw [lt_B, lt_B, lt_B, lt_B, lt_B, lt_B, lt_B, h6, rPut_in hN (by decide), rPut_in hN (by decide), rPut_in hN (by decide), rPut_in hN (by decide), rPut_in hN (by decide)]
  rw [uG_n (show (7 : Nat) ≠ 6 by decide), uG_n (show (8 : Nat) ≠ 7 by decide), uG_n (show (8 : Nat) ≠ 6 by decide), uG_n (show (9 : Nat) ≠ 8 by decide), uG_n (show (9 : Nat) ≠ 7 by decide), uG_n (show (9 : Nat) ≠ 6 by decide), uG_n (show (10 : Nat) ≠ 9 by decide), uG_n (show (10 : Nat) ≠ 8 by decide), uG_n (show (10 : Nat) ≠ 7 by decide), uG_n (show (10 : Nat) ≠ 6 by decide)]
  rfl
theorem WF_tell {L N B d l : Nat} {G : Nat → Nat → Int32} {g : Nat → Int32} {x z : Int32} (h : WF L N B d G g) (hl : l < L) (hN : N < 24) : WF L (N + 1) B d (tellG G N x (nI l) z) (uS g 6 (nI N + 1)) := by
  obtain ⟨⟨a1, a2, a3⟩, b, c, ⟨e1, e2, e3, e4⟩, q⟩ := h
  have e9 : tellG G N x (nI l) z 9 = upd (G 9) N (nI 0) := by simp [tellG, uG]; rfl
  have e7 : tellG G N x (nI l) z 7 = upd (G 7) N (nI l) := by simp [tellG, uG]
  refine ⟨⟨?_, ?_, ?_⟩, ?_, ?_, ?_, ?_⟩
  · rw [uS_n (by decide)]; exact a1
  · rw [uS_s, nI_1]
  · rw [uS_n (by decide)]; exact a3
  · simpa [tellG, uG] using b
  · simpa [tellG, uG] using c
  · rw [e7, e9]
    refine ⟨by omega, fun w hw => ?_, fun w hw => ?_, fun w hw => ?_⟩
    · by_cases c : w = N
      · subst c; exact ⟨l, hl, pk_us⟩
      · rw [pk_un c]; exact e2 w (by omega)
    · by_cases c : w = N
      · subst c; exact ⟨0, by decide, pk_us⟩
      · rw [pk_un c]; exact e3 w (by omega)
    · rw [pk_un (by omega)]; exact e4 w (by omega)
  · simpa [tellG, uG] using q
theorem ZG_tell {G : Nat → Nat → Int32} {N : Nat} {x y z : Int32} (h : ZG G) (hN : N < 24) : ZG (tellG G N x y z) := by
  unfold tellG
  exact ZG_uG (ZG_uG (ZG_uG (ZG_uG (ZG_uG h (zb_upd (h 6 (by decide)) hN)) (zb_upd (h 7 (by decide)) hN)) (zb_upd (h 8 (by decide)) hN)) (zb_upd (h 9 (by decide)) hN)) (zb_upd (h 10 (by decide)) hN)
theorem upd_id {f : Nat → Int32} {i : Nat} {x : Int32} (h : f i = x) : upd f i x = f := by
  funext j
  by_cases c : j = i
  · subst c; rw [pk_us, h]
  · rw [pk_un c]
theorem op_wish {n : Nat} {G J V T M : Nat → Nat → Int32} {g t k : Nat → Int32} (h : SIM n G g J V T t M k) (p0 p1 : Int32) :
    (∃ r G' g' T' t' M' k', fX5_wish G g p0 p1 = some (.inr (r, G', g')) ∧ fX7_wish T t M k p0 p1 = some (r, T', t', M', k') ∧ k' 0 = 0 ∧ SIM (n + 1) G' g' J V T' t' M' k') ∨
    ∃ s c b k', ((s = IX ∧ c = 1) ∨ (s = IA ∧ c = 2) ∨ (s = IS ∧ c = 3)) ∧ fX5_wish G g p0 p1 = some (.inl s) ∧ fX7_wish T t M k p0 p1 = some (b, T, t, M, k') ∧ k' 0 = c ∧ SIM (n + 1) G g J V T t M k' := by
  unfold fX5_wish fX7_wish
  rw [lt_B (uS k 0 0)]
  obtain ⟨L, N, B, d, hW, hR, hZ, hJ, hV, hB, hd⟩ := id h
  obtain ⟨⟨a1, a2, a3⟩, ⟨w1, w2, w3⟩, wt, ⟨ww1, ww2, ww3, ww4⟩, wp⟩ := id hW
  obtain ⟨⟨r1, r2, r3, r4⟩, ⟨b1, b2, b3, b4, b5, b6, b7, b8⟩, ⟨c1, c2, c3⟩, ⟨d1, d2, d3, d4⟩⟩ := id hR
  have ek : uS k 0 0 1 = nI L := by rw [uS_n (by decide), d1, a1]
  have ek2 : uS k 0 0 2 = nI N := by rw [uS_n (by decide), d2, a2]
  rcases isL p0 a1 ek (by omega) with ⟨c, c'⟩ | ⟨l, hl, rfl, c, c'⟩
  · right
    exact ⟨IX, 1, 0, _, Or.inl ⟨rfl, rfl⟩, if_pos c, by rw [if_pos c', no_, b2_S], uS_s, SIM_no h⟩
  rw [if_neg c, if_neg c']
  rcases wi p1 0 3 (by decide) (by decide) with ⟨c, c'⟩ | ⟨v, v1, v2, rfl, c, c'⟩
  · right
    exact ⟨IA, 2, 0, _, Or.inr (Or.inl ⟨rfl, rfl⟩), if_pos c, by rw [if_pos (show fX7_isIn p1 0 3 = 0 from c'), no_, b2_S], uS_s, SIM_no h⟩
  rw [if_neg (show ¬ fX5_within (nI v) 0 3 = 0 from c), if_neg (show ¬ fX7_isIn (nI v) 0 3 = 0 from c'), ek2]
  by_cases hN : N < 24
  · left
    have hg1 : tcg g (G 1 l) 6 = nI N := by rw [tcg_n (by decide), a2]
    have hg0 : tcg g (G 1 l) 0 = g 0 := tcg_n (by decide)
    have e9 : upd (G 9) N 0 = G 9 := upd_id (ww4 N (Nat.le_refl N))
    refine ⟨nI N, tellG (tcG G l) N (nI v) (nI l) (g 0), uS (tcg g (G 1 l)) 6 (nI N + 1), tcT (uG T 3 (upd (T 3) N (-1))) l, tcg t (M 0 l), uG (uG (uG M 5 (upd (M 5) N (nI v))) 6 (upd (M 6) N (nI l))) 7 (upd (M 7) N (t 0)), uS (uS k 0 0) 2 (nI N + 1), ?_, ?_, ?_, L, N + 1, B + 1, d, WF_tell (WF_tc hW hl) hl hN, ?_, ZG_tell (ZG_tc hZ (by omega)) hN, hJ, hV, by omega, by omega⟩
    · rw [a2, if_pos (show nI N < 24 from nI_lt (b := 24) hN (by decide)), throw_in (by omega), b2_S, hg0, tell_in hg1 hN, b3_S]
    · rw [if_neg (show ¬ nI N = 24 from fun q => absurd ((nI_eq (b := 24) (by omega) (by decide)).mp q) (by omega)), gd_in hN (by decide), lt_B, gd_in hN (by decide), lt_B, gd_in hN (by decide), lt_B, gd_in hN (by decide), lt_B, cl_n (by omega), drop_in (by omega), b2_S, lt_B, uS_s, Int32.add_sub_cancel]
      simp only [uG_n (show (6 : Nat) ≠ 5 by decide), uG_n (show (7 : Nat) ≠ 6 by decide), uG_n (show (7 : Nat) ≠ 5 by decide), uG_n (show (0 : Nat) ≠ 5 by decide), uG_n (show (0 : Nat) ≠ 6 by decide), uG_n (show (0 : Nat) ≠ 7 by decide)]
    · rw [uS_n (by decide), uS_s]
    · refine ⟨⟨?_, ?_, ?_, ?_⟩, ⟨?_, ?_, ?_, ?_, ?_, ?_, ?_, ?_⟩, ⟨?_, ?_, ?_⟩, ⟨?_, ?_, ?_, ?_⟩⟩ <;> simp [tellG, tcG, tcT, tcg, uG, uS, *]
  · right
    have : N = 24 := by omega
    subst this
    refine ⟨IS, 3, 0, uS (uS k 0 0) 0 3, Or.inr (Or.inr ⟨rfl, rfl⟩), ?_, ?_, uS_s, SIM_no h⟩
    · rw [a2, if_neg (by decide)]
    · rw [if_pos (show nI 24 = 24 from rfl), no_, b2_S]
/-! taking back -/
theorem upper_in {L B l : Nat} {G : Nat → Nat → Int32} (h : WFp L B (G 11)) (hB : B < 2 ^ 30) (hl : l < 6) : (∃ r, r < 5 ∧ fX1_uppermostOf G (nI l) = some (nI r) ∧ (∃ c, G 11 (6 * r + l) = nI (c + 1) ∧ c + 1 ≤ B) ∧ ∀ a, a < r → G 11 (6 * a + l) = 0) ∨ (fX1_uppermostOf G (nI l) = some (-1) ∧ ∀ a, a < 5 → G 11 (6 * a + l) = 0) := by
  obtain ⟨c, h1, h2, h3⟩ := h
  have hb := h3 l hl
  have hc : ∀ a, a < 5 → c (6 * a + l) ≤ B := fun a ha => by
    rcases (show a = 0 ∨ a = 1 ∨ a = 2 ∨ a = 3 ∨ a = 4 by omega) with e | e | e | e | e <;> subst e <;> simp only [Nat.mul_zero, Nat.zero_add, Nat.mul_one, show 6 * 2 = 12 from rfl, show 6 * 3 = 18 from rfl, show 6 * 4 = 24 from rfl] <;> omega
  have stp : ∀ a, a < 5 → c (6 * a + l) = 0 → fX1_uppermostOf_B2 G (nI l) (nI a) = some (.inl (nI (a + 1))) := fun a ha e => by
    unfold fX1_uppermostOf_B2
    rw [if_neg (show ¬ (5 : Int32) ≤ nI a from nI_ge (b := 5) ha (by decide)), at_in ha hl, h1 _ (by omega), e, if_pos (by decide), nI_up]
  by_cases hx : ∃ r, r < 5 ∧ c (6 * r + l) ≠ 0
  · left
    obtain ⟨r, ⟨hr, hr0⟩, hmin⟩ := pk_least (fun r => r < 5 ∧ c (6 * r + l) ≠ 0) hx
    have hz : ∀ a, a < r → c (6 * a + l) = 0 := fun a ha => by
      have := hmin a ha
      exact Classical.byContradiction fun q => this ⟨by omega, q⟩
    refine ⟨r, hr, ?_, ⟨c (6 * r + l) - 1, by rw [h1 _ (by omega)]; congr 1; omega, by have := hc r hr; omega⟩, fun a ha => by rw [h1 _ (by omega), hz a ha]; rfl⟩
    unfold fX1_uppermostOf
    refine b1_lp (lp_for (fun i => nI i) r (.inr (nI r)) rfl (by omega) (fun i hi => stp i (by omega) (hz i hi)) ?_) rfl
    show fX1_uppermostOf_B2 G (nI l) (nI r) = _
    unfold fX1_uppermostOf_B2
    rw [if_neg (show ¬ (5 : Int32) ≤ nI r from nI_ge (b := 5) hr (by decide)), at_in hr hl, h1 _ (by omega), if_neg (nI_nle (by omega) (by have := hc r hr; omega))]
  · right
    have hz : ∀ a, a < 5 → c (6 * a + l) = 0 := fun a ha => Classical.byContradiction fun q => hx ⟨a, ha, q⟩
    refine ⟨?_, fun a ha => by rw [h1 _ (by omega), hz a ha]; rfl⟩
    unfold fX1_uppermostOf
    refine b1_lp (lp_for (fun i => nI i) 5 (.inl (nI 5)) rfl (by omega) (fun i hi => stp i hi (hz i hi)) ?_) rfl
    show fX1_uppermostOf_B2 G (nI l) (nI 5) = _
    unfold fX1_uppermostOf_B2
    rw [if_pos (by decide)]
theorem WFp_dec {L B p c0 : Nat} {P : Nat → Int32} (h : WFp L B P) (hB : B < 2 ^ 30) (hp : p < 30) (hc : P p = nI (c0 + 1)) (hc0 : c0 < 2 ^ 30) : WFp L B (upd P p (nI c0)) := by
  obtain ⟨c, h1, h2, h3⟩ := h
  have hle : c p ≤ B := by
    have := h3 (p % 6) (Nat.mod_lt _ (by decide))
    rcases (show p = p % 6 ∨ p = 6 + p % 6 ∨ p = 12 + p % 6 ∨ p = 18 + p % 6 ∨ p = 24 + p % 6 by omega) with e | e | e | e | e
    · rw [e]; omega
    · have : c p = c (6 + p % 6) := by rw [← e]
      omega
    · have : c p = c (12 + p % 6) := by rw [← e]
      omega
    · have : c p = c (18 + p % 6) := by rw [← e]
      omega
    · have : c p = c (24 + p % 6) := by rw [← e]
      omega
  have ec : c p = c0 + 1 := (nI_eq (by omega) (by omega)).mp ((h1 p hp).symm.trans hc)
  have hs : ∀ q, (if q = p then c0 else c q) ≤ c q := fun q => by
    by_cases e : q = p
    · rw [if_pos e, e]; omega
    · rw [if_neg e]; exact Nat.le_refl _
  refine ⟨fun q => if q = p then c0 else c q, fun q hq => ?_, fun q hq h6 => ?_, fun j hj => ?_⟩
  · show upd P p (nI c0) q = nI (if q = p then c0 else c q)
    by_cases e : q = p
    · subst e; rw [pk_us, if_pos rfl]
    · rw [pk_un e, if_neg e, h1 q hq]
  · show (if q = p then c0 else c q) = 0
    have := hs q
    have := h2 q hq h6
    omega
  · have := h3 j hj
    have s0 := hs j; have s1 := hs (6 + j); have s2 := hs (12 + j); have s3 := hs (18 + j); have s4 := hs (24 + j)
    show (if j = p then c0 else c j) + (if 6 + j = p then c0 else c (6 + j)) + (if 12 + j = p then c0 else c (12 + j)) + (if 18 + j = p then c0 else c (18 + j)) + (if 24 + j = p then c0 else c (24 + j)) ≤ B
    omega
theorem six (a j : Nat) : (6 : Int32) * nI a + nI j = nI (6 * a + j) := by rw [show (6 : Int32) = nI 6 from rfl, pk_mul, nI_add]
theorem ng (a : Nat) : nI (a + 1) + -1 = nI a := pk_m1 a
theorem op_withdraw {n : Nat} {G J V T M : Nat → Nat → Int32} {g t k : Nat → Int32} (h : SIM n G g J V T t M k) (hn : n ≤ 1000) (p0 : Int32) :
    (∃ r G' g' T' t' M' k', fX5_withdraw G g p0 = some (.inr (r, G', g')) ∧ fX7_withdraw T t M k p0 = some (r, T', t', M', k') ∧ k' 0 = 0 ∧ SIM (n + 1) G' g' J V T' t' M' k') ∨
    ∃ s c b k', ((s = IX ∧ c = 1) ∨ (s = IS ∧ c = 2)) ∧ fX5_withdraw G g p0 = some (.inl s) ∧ fX7_withdraw T t M k p0 = some (b, T, t, M, k') ∧ k' 0 = c ∧ SIM (n + 1) G g J V T t M k' := by
  unfold fX5_withdraw fX7_withdraw
  rw [lt_B (uS k 0 0)]
  obtain ⟨L, N, B, d, hW, hR, hZ, hJ, hV, hB, hd⟩ := id h
  obtain ⟨⟨a1, a2, a3⟩, ⟨w1, w2, w3⟩, wt, ww, wp⟩ := id hW
  obtain ⟨ww1, ww2, ww3, ww4⟩ := id ww
  obtain ⟨⟨r1, r2, r3, r4⟩, ⟨b1, b2, b3, b4, b5, b6, b7, b8⟩, ⟨c1, c2, c3⟩, ⟨d1, d2, d3, d4⟩⟩ := id hR
  have ek2 : uS k 0 0 2 = nI N := by rw [uS_n (by decide), d2, a2]
  rcases isW p0 a2 ek2 (by omega) with ⟨c, c'⟩ | ⟨i, hi, rfl, c, c'⟩
  · right
    exact ⟨IX, 1, 0, _, Or.inl ⟨rfl, rfl⟩, if_pos c, by rw [if_pos c', no_, b2_S], uS_s, SIM_no h⟩
  rw [if_neg c, if_neg c', gd_in (by omega) (by decide), rAt_in (by omega) (by decide), cl_n (by omega), r3]
  by_cases hf : G 9 i = 0
  · left
    obtain ⟨l, hl, el⟩ := ww2 i hi
    rw [if_pos hf, if_pos hf, gd_in (by omega) (by decide), lt_B (uG T 2 (upd (G 9) i 2)), lt_B (uS t 1 (if 0 < (t 1 - 5) then t 1 - 5 else 0))]
    unfold fX3_withdrawWish
    rw [rAt_in (by omega) (by decide), el, lt_B (nI l)]
    have ww' : WFw L N (G 7) (upd (G 9) i 2) := WFw_upd ww (x := 2) (by decide) hi
    have z9 := zb_upd (x := 2) (hZ 9 (by decide)) (show i < 24 by omega)
    have B30 : B < 2 ^ 30 := by omega
    rcases upper_in wp B30 (show l < 6 by omega) with ⟨r, hr, e1, ⟨q0, e2, hq0⟩, e3⟩ | ⟨e1, e3⟩
    · refine ⟨nI r, uG (uG (uG G 11 (upd (G 11) (6 * r + l) (nI q0))) 5 (upd (G 5) l (G 5 l + 1))) 9 (upd (G 9) i 2), uS g 1 (if 0 < (g 1 - 5) then g 1 - 5 else 0), uG (uG T 2 (upd (G 9) i 2)) 0 (upd (T 0) (6 * r + l) (nI q0)), uS t 1 (if 0 < (t 1 - 5) then t 1 - 5 else 0), uG M 4 (upd (M 4) l (M 4 l + 1)), uS k 0 0, ?_, ?_, uS_s, L, N, B, d, ⟨⟨?_, ?_, ?_⟩, ?_, ?_, ?_, ?_⟩, ?_, ?_, hJ, hV, by omega, by omega⟩
      · rw [e1, bd_S, if_neg (eo_ne (by omega)), add_in hr (by omega), bd_S, lt_B, lt_B, lt_B, rAdd_in (by omega) (by decide), rPut_in (by omega) (by decide), e2, ng, b3_S]
        rw [uG_n (show (9 : Nat) ≠ 5 by decide), uG_n (show (9 : Nat) ≠ 11 by decide), uG_n (show (5 : Nat) ≠ 11 by decide)]
      · refine b1_lp (lp_for (fun a => nI a) r (.inr (nI r, _, _, _, _)) rfl (by omega) (fun a ha => ?_) ?_) rfl
        · show fX7_withdraw_B69 M (nI i) _ _ _ (nI a) = _
          unfold fX7_withdraw_B69
          rw [if_neg (show ¬ (5 : Int32) ≤ nI a from nI_ge (b := 5) (by omega) (by decide)), gd_in (by omega) (by decide), cl_n (by omega), b7, el, six, lt_B, gd_in (by omega) (by decide), cl_n (by omega), uG_n (show (0 : Nat) ≠ 2 by decide), r1, e3 a ha, if_pos rfl, nI_up]
        · show fX7_withdraw_B69 M (nI i) _ _ _ (nI r) = _
          unfold fX7_withdraw_B69
          rw [if_neg (show ¬ (5 : Int32) ≤ nI r from nI_ge (b := 5) (by omega) (by decide)), gd_in (by omega) (by decide), cl_n (by omega), b7, el, six, lt_B, gd_in (by omega) (by decide), cl_n (by omega), uG_n (show (0 : Nat) ≠ 2 by decide), r1, e2, if_neg (nI_ne0 (by omega) (by omega)), gd_in (by omega) (by decide), gd_in (by omega) (by decide), lt_B, gd_in (by omega) (by decide), gd_in (by omega) (by decide), gd_in (by omega) (by decide), lt_B, cl_n (by omega), nI_pred]
      · rw [uS_n (by decide)]; exact a1
      · rw [uS_n (by decide)]; exact a2
      · rw [uS_n (by decide)]; exact a3
      · rw [uG_n (by decide), uG_n (by decide), uG_n (by decide)]; exact ⟨w1, w2, w3⟩
      · rw [uG_n (by decide), uG_n (by decide), uG_n (by decide)]; exact wt
      · rw [uG_n (by decide), uG_n (by decide), uG_n (by decide), uG_s]; exact ww'
      · rw [uG_n (by decide), uG_n (by decide), uG_s]
        exact WFp_dec wp B30 (by omega) e2 (by omega)
      · refine ⟨⟨?_, ?_, ?_, ?_⟩, ⟨?_, ?_, ?_, ?_, ?_, ?_, ?_, ?_⟩, ⟨?_, ?_, ?_⟩, ⟨?_, ?_, ?_, ?_⟩⟩ <;> simp [uG, uS, *]
      · refine ZG_uG (ZG_uG (ZG_uG hZ (zb_upd (hZ 11 (by decide)) (show 6 * r + l < 30 by omega))) (zb_upd (hZ 5 (by decide)) (show l < 6 by omega))) z9
    · refine ⟨-1, uG G 9 (upd (G 9) i 2), uS g 1 (if 0 < (g 1 - 5) then g 1 - 5 else 0), uG T 2 (upd (G 9) i 2), uS t 1 (if 0 < (t 1 - 5) then t 1 - 5 else 0), M, uS k 0 0, ?_, ?_, uS_s, L, N, B, d, ⟨⟨?_, ?_, ?_⟩, ?_, ?_, ?_, ?_⟩, ?_, ?_, hJ, hV, by omega, by omega⟩
      · rw [e1, bd_S, if_pos rfl, lt_B, lt_B, rPut_in (by omega) (by decide), b3_S]
      · refine b1_lp (lp_for (fun a => nI a) 5 (.inl (nI 5)) rfl (by omega) (fun a ha => ?_) ?_) rfl
        · show fX7_withdraw_B69 M (nI i) _ _ _ (nI a) = _
          unfold fX7_withdraw_B69
          rw [if_neg (show ¬ (5 : Int32) ≤ nI a from nI_ge (b := 5) (by omega) (by decide)), gd_in (by omega) (by decide), cl_n (by omega), b7, el, six, lt_B, gd_in (by omega) (by decide), cl_n (by omega), uG_n (show (0 : Nat) ≠ 2 by decide), r1, e3 a ha, if_pos rfl, nI_up]
        · show fX7_withdraw_B69 M (nI i) _ _ _ (nI 5) = _
          unfold fX7_withdraw_B69
          rw [if_pos (by decide)]
      · rw [uS_n (by decide)]; exact a1
      · rw [uS_n (by decide)]; exact a2
      · rw [uS_n (by decide)]; exact a3
      · rw [uG_n (by decide)]; exact ⟨w1, w2, w3⟩
      · rw [uG_n (by decide)]; exact wt
      · rw [uG_n (by decide), uG_s]; exact ww'
      · rw [uG_n (by decide)]; exact wp
      · refine ⟨⟨?_, ?_, ?_, ?_⟩, ⟨?_, ?_, ?_, ?_, ?_, ?_, ?_, ?_⟩, ⟨?_, ?_, ?_⟩, ⟨?_, ?_, ?_, ?_⟩⟩ <;> simp [uG, uS, *]
      · exact ZG_uG hZ z9
  · right
    refine ⟨IS, 2, 0, uS (uS k 0 0) 0 2, Or.inr ⟨rfl, rfl⟩, ?_, ?_, uS_s, SIM_no h⟩
    · rw [if_neg hf]
    · rw [if_neg hf, no_, b2_S]
