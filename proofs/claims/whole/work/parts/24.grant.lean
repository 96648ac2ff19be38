/-! a day, both sides -/
theorem WF_mono {L N B B' d : Nat} {G : Nat → Nat → Int32} {g : Nat → Int32} (h : WF L N B d G g) (hB : B ≤ B') : WF L N B' d G g := by
  obtain ⟨a, b, c, e, ⟨q, q1, q2, q3⟩⟩ := h
  exact ⟨a, b, c, e, q, q1, q2, fun j hj => Nat.le_trans (q3 j hj) hB⟩
def idle (g : Nat → Int32) : Nat → Int32 := uS g 1 (if g 1 + 2 < 500 then g 1 + 2 else 500)
def dend (g : Nat → Int32) : Nat → Int32 := uS (uS g 2 ((g 2 + 1) - (g 2 + 1) / 4 * 4)) 0 (uS g 2 ((g 2 + 1) - (g 2 + 1) / 4 * 4) 0 + 1)
def gG (G : Nat → Nat → Int32) (w : Nat) (x : Int32) : Nat → Nat → Int32 := uG (uG G 9 (upd (G 9) w 1)) 10 (upd (G 10) w x)
def gT (T : Nat → Nat → Int32) (w : Nat) (x : Int32) : Nat → Nat → Int32 := uG (uG T 2 (upd (T 2) w 1)) 3 (upd (T 3) w x)
def pay (g : Nat → Int32) (v : Int32) : Nat → Int32 := uS g 1 (g 1 - (10 + v))
theorem WF_dend {L N B d : Nat} {G : Nat → Nat → Int32} {g : Nat → Int32} (h : WF L N B d G g) : WF L N B (d + 1) G (dend g) := by
  obtain ⟨⟨a1, a2, a3⟩, b⟩ := h
  refine ⟨⟨?_, ?_, ?_⟩, b⟩
  · simp [dend, uS, a1]
  · simp [dend, uS, a2]
  · simp [dend, uS, a3, nI_1]
theorem WF_g1 {L N B d : Nat} {G : Nat → Nat → Int32} {g : Nat → Int32} {x : Int32} (h : WF L N B d G g) : WF L N B d G (uS g 1 x) := by
  obtain ⟨⟨a1, a2, a3⟩, b⟩ := h
  refine ⟨⟨?_, ?_, ?_⟩, b⟩
  · simp [uS, a1]
  · simp [uS, a2]
  · simp [uS, a3]
theorem RW_g1 {G T M : Nat → Nat → Int32} {g t k : Nat → Int32} {x : Int32} (h : RW G g T t M k) : RW G (uS g 1 x) T (uS t 1 x) M k := by
  obtain ⟨a, b, ⟨c1, c2, c3⟩, ⟨d1, d2, d3, d4⟩⟩ := h
  refine ⟨a, b, ⟨?_, ?_, ?_⟩, ⟨?_, ?_, ?_, ?_⟩⟩ <;> simp [uS, *]
theorem RW_dend {G T M : Nat → Nat → Int32} {g t k : Nat → Int32} (h : RW G g T t M k) : RW G (dend g) T (dend t) M k := by
  obtain ⟨a, b, ⟨c1, c2, c3⟩, ⟨d1, d2, d3, d4⟩⟩ := h
  refine ⟨a, b, ⟨?_, ?_, ?_⟩, ⟨?_, ?_, ?_, ?_⟩⟩ <;> simp [dend, uS, *]
theorem RW_gG {G T M : Nat → Nat → Int32} {g t k : Nat → Int32} {w : Nat} {x : Int32} (h : RW G g T t M k) : RW (gG G w x) g (gT T w x) t M k := by
  obtain ⟨⟨a1, a2, a3, a4⟩, ⟨b1, b2, b3, b4, b5, b6, b7, b8⟩, c, d⟩ := h
  refine ⟨⟨?_, ?_, ?_, ?_⟩, ⟨?_, ?_, ?_, ?_, ?_, ?_, ?_, ?_⟩, c, d⟩ <;> simp [gG, gT, uG, *]
theorem WFw_upd {L N w : Nat} {O F : Nat → Int32} {x : Nat} (h : WFw L N O F) (hx : x < 3) (hw : w < N) : WFw L N O (upd F w (nI x)) := by
  obtain ⟨a, b, c, d⟩ := h
  refine ⟨a, b, fun j hj => ?_, fun j hj => ?_⟩
  · by_cases e : j = w
    · subst e; exact ⟨x, hx, pk_us⟩
    · rw [pk_un e]; exact c j hj
  · rw [pk_un (by omega)]; exact d j hj
theorem WF_gG {L N B d w : Nat} {G : Nat → Nat → Int32} {g : Nat → Int32} {x : Int32} (h : WF L N B d G g) (hw : w < N) : WF L N B d (gG G w x) g := by
  obtain ⟨a, b, c, e, q⟩ := h
  refine ⟨a, ?_, ?_, ?_, ?_⟩
  · simpa [gG, uG] using b
  · simpa [gG, uG] using c
  · have e9 : gG G w x 9 = upd (G 9) w (nI 1) := by simp [gG, uG]; rfl
    have e7 : gG G w x 7 = G 7 := by simp [gG, uG]
    rw [e9, e7]
    exact WFw_upd e (by decide) hw
  · simpa [gG, uG] using q
theorem ZG_gG {G : Nat → Nat → Int32} {w : Nat} {x : Int32} (h : ZG G) (hw : w < 24) : ZG (gG G w x) := by
  unfold gG
  exact ZG_uG (ZG_uG h (zb_upd (h 9 (by decide)) hw)) (zb_upd (h 10 (by decide)) hw)
theorem liveDay_idle {G G1 G2 : Nat → Nat → Int32} {g g1 : Nat → Int32} (h1 : fX3_receiveVisitors G g = some (G1, g1)) (h2 : fX3_sinkCoins G1 g1 = some G2) (h3 : fX3_grantNext G2 g1 = some (0, G2, g1)) : fX3_liveDay G g = some (0, G2, dend (idle g1)) := by
  unfold fX3_liveDay
  rw [h1, b2_S, h2, bd_S, h3, b3_S, if_pos rfl]
  unfold fX3_raiseFavour
  rw [lt_B, bd_S, lt_B, lt_B, gd_T nar0]
  rfl
theorem liveDay_yes {G G1 G2 G3 : Nat → Nat → Int32} {g g1 g3 : Nat → Int32} (h1 : fX3_receiveVisitors G g = some (G1, g1)) (h2 : fX3_sinkCoins G1 g1 = some G2) (h3 : fX3_grantNext G2 g1 = some (1, G3, g3)) : fX3_liveDay G g = some (1, G3, dend g3) := by
  unfold fX3_liveDay
  rw [h1, b2_S, h2, bd_S, h3, b3_S, if_neg (by decide), lt_B, lt_B, gd_T nar1]
  rfl
theorem sim_grant {L N B d : Nat} {G G1 G2 T T1 T2 M : Nat → Nat → Int32} {g g1 t t1 k : Nat → Int32} {z z2 : Int32} (hW : WF L N B d G2 g1) (hR : RW G2 g1 T2 t1 M k) (hZ : ZG G2) (h1 : fX3_receiveVisitors G g = some (G1, g1)) (h2 : fX3_sinkCoins G1 g1 = some G2)
    (m1 : lp (fun s => fX6_pass_B2 M k s.1 s.2.1 s.2.2) 10 (0, T, t) = some (z, T1, t1)) (m2 : lp (fun s => fX6_pass_B58 M s.1 s.2) 25 (23, T1) = some (z2, T2)) :
    ∃ r G' g' T' t', fX3_liveDay G g = some (r, G', g') ∧ fX6_pass T t M k = some (r, T', t') ∧ (r = 0 ∨ r = 1) ∧ WF L N B (d + 1) G' g' ∧ RW G' g' T' t' M k ∧ ZG G' ∧ ∀ w, G' 9 w = G2 9 w ∨ G' 9 w = 1 := by
  obtain ⟨⟨a1, a2, a3⟩, ⟨hL6, hV, -⟩, -, ⟨hN, hO, hF⟩, -⟩ := id hW
  obtain ⟨⟨r1, r2, r3, r4⟩, ⟨b1, b2, b3, b4, b5, b6, b7, b8⟩, ⟨c1, c2, c3⟩, ⟨d1, d2, d3, d4⟩⟩ := id hR
  obtain ⟨s, hs⟩ : ∃ s, s = bsel (cWish (G2 9) (G2 6) (g1 2)) (cvX (G2 1) (G2 7)) N := ⟨_, rfl⟩
  have n1 : fX3_nextWish G2 g1 (g1 2) = some (eo s) := by rw [hs]; exact nextWish_in a2 hN hO hL6 hV
  have n2 : fX6_next T2 M k (t1 2) = some (eo s) := by
    rw [hs, m_next (N := N) (L := L) (by rw [d2, a2]) hN (by rw [b7]; exact hO) hL6, r3, b6, c3, b1, b7]
  have idl : fX3_grantNext G2 g1 = some (0, G2, g1) → fX6_pass T t M k = some (0, T2, dend (idle t1)) → ∃ r G' g' T' t', fX3_liveDay G g = some (r, G', g') ∧ fX6_pass T t M k = some (r, T', t') ∧ (r = 0 ∨ r = 1) ∧ WF L N B (d + 1) G' g' ∧ RW G' g' T' t' M k ∧ ZG G' ∧ ∀ w, G' 9 w = G2 9 w ∨ G' 9 w = 1 := by
    intro q1 q2
    refine ⟨0, G2, dend (idle g1), T2, dend (idle t1), liveDay_idle h1 h2 q1, q2, Or.inl rfl, WF_dend (WF_g1 hW), RW_dend ?_, hZ, fun w => Or.inl rfl⟩
    unfold idle
    rw [c2]
    exact RW_g1 hR
  have hpass : ∀ X, (Option.bind (fX6_next T2 M k (t1 2)) X : Option (Int32 × (Nat → Nat → Int32) × (Nat → Int32))) = X (eo s) := fun X => by rw [n2, bd_S]
  cases hs0 : s with
  | none =>
    refine idl ?_ ?_
    · unfold fX3_grantNext
      rw [n1, bd_S, hs0, eo_0, if_pos rfl]
    · unfold fX6_pass
      rw [m1, b3_S, m2, b2_S, hpass, hs0, eo_0, if_pos rfl, lt_B, lt_B, lt_B]
      rfl
  | some w =>
    have hw : w < N := (bsel_lt (hs.symm.trans hs0)).1
    obtain ⟨x, hx, ex⟩ := hO w hw
    have hw31 : w < 2 ^ 31 := by omega
    have cv : fX3_coinValue G2 (nI w) = G2 1 x := by
      unfold fX3_coinValue
      rw [rAt_in (by omega) (by decide), ex, rAt_in (by omega) (by decide)]
    have mv : M 0 (Int32.toNatClampNeg (M 6 (Int32.toNatClampNeg (nI w)))) = G2 1 x := by
      rw [cl_n hw31, b7, ex, cl_n (by omega), b1]
    have g0 : ∀ {α : Type} (X : Option α), gd (vp_in (nI w) 24) X = X := fun X => gd_in (by omega) (by decide)
    have g6 : ∀ {α : Type} (X : Option α), gd (vp_in (M 6 (Int32.toNatClampNeg (nI w))) 6) X = X := fun X => by rw [cl_n hw31, b7, ex]; exact gd_in (by omega) (by decide)
    by_cases cp : 10 + G2 1 x ≤ g1 1
    · refine ⟨1, gG G2 w (pay g1 (G2 1 x) 0), dend (pay g1 (G2 1 x)), gT T2 w (pay t1 (G2 1 x) 0), dend (pay t1 (G2 1 x)), ?_, ?_, Or.inr rfl, WF_dend ?_, RW_dend ?_, ZG_gG hZ (by omega), fun w' => ?_⟩
      · refine liveDay_yes h1 h2 ?_
        unfold fX3_grantNext
        rw [n1, bd_S, hs0, eo_1, if_neg (eo_ne hw31), lt_B, cv, if_pos cp, lt_B, lt_B, lt_B, rPut_in (by omega) (by decide), rPut_in (by omega) (by decide), uG_n (show (10 : Nat) ≠ 9 by decide)]
        rfl
      · unfold fX6_pass
        rw [m1, b3_S, m2, b2_S, hpass, hs0, eo_1, if_neg (eo_ne hw31)]
        simp only [g0, g6, mv]
        rw [if_neg (by rw [c2]; exact Int32.not_lt.mpr cp), lt_B, lt_B, lt_B, lt_B, lt_B, cl_n hw31, uG_n (show (3 : Nat) ≠ 2 by decide)]
        rfl
      · unfold pay; exact WF_g1 (WF_gG hW hw)
      · have e0 : pay t1 (G2 1 x) 0 = pay g1 (G2 1 x) 0 := by simp [pay, uS, c1]
        rw [e0]
        unfold pay
        rw [c2]
        exact RW_g1 (RW_gG hR)
      · have e9 : gG G2 w (pay g1 (G2 1 x) 0) 9 = upd (G2 9) w 1 := by simp [gG, uG]
        rw [e9]
        by_cases cw : w' = w
        · right; rw [cw, pk_us]
        · left; rw [pk_un cw]
    · refine idl ?_ ?_
      · unfold fX3_grantNext
        rw [n1, bd_S, hs0, eo_1, if_neg (eo_ne hw31), lt_B, cv, if_neg cp]
      · unfold fX6_pass
        rw [m1, b3_S, m2, b2_S, hpass, hs0, eo_1, if_neg (eo_ne hw31)]
        simp only [g0, g6, mv]
        rw [if_pos (by rw [c2]; exact Int32.not_le.mp cp), lt_B, lt_B, lt_B]
        rfl
theorem sim_day {L N B d : Nat} {G T M : Nat → Nat → Int32} {g t k : Nat → Int32} (hW : WF L N B d G g) (hR : RW G g T t M k) (hZ : ZG G) (hB : B + 9 < 2 ^ 30) (hd : d < 2 ^ 30) :
    ∃ r G' g' T' t', fX3_liveDay G g = some (r, G', g') ∧ fX6_pass T t M k = some (r, T', t') ∧ (r = 0 ∨ r = 1) ∧ WF L N (B + 9) (d + 1) G' g' ∧ RW G' g' T' t' M k ∧ ZG G' ∧ ∀ w, G' 9 w = G 9 w ∨ G' 9 w = 1 := by
  obtain ⟨v, hv, ev⟩ := hW.2.2.1 (d % 7) (Nat.mod_lt _ (by decide))
  have hL6 := hW.2.1.1
  have step : ∃ G1 g1 T1 t1 z, fX3_receiveVisitors G g = some (G1, g1) ∧ lp (fun s => fX6_pass_B2 M k s.1 s.2.1 s.2.2) 10 (0, T, t) = some (z, T1, t1) ∧ WF L N (B + 9) d G1 g1 ∧ RW G1 g1 T1 t1 M k ∧ ZG G1 ∧ G1 9 = G 9 := by
    have ek : k 1 = nI L := by rw [hR.2.2.2.1]; exact hW.1.1
    have et : t 0 = nI d := by rw [hR.2.2.1.1]; exact hW.1.2.2
    have em : M 2 (d % 7) = nI v := by rw [hR.2.1.2.2.1]; exact ev
    by_cases hL : 0 < L
    · obtain ⟨q1, q2, q3⟩ := sim_vs hW hR hZ hL v
      exact ⟨_, _, _, _, _, receive_in hW hL hd hv ev, m_receive ek et hL hL6 hd hv em, WF_mono q1 (by omega), q2, q3, vs_G (by decide) (by decide) v⟩
    · have hL : L = 0 := by omega
      subst hL
      exact ⟨_, _, _, _, _, receive_0 hW, m_receive0 ek et hd em, WF_mono hW (by omega), hR, hZ, rfl⟩
  obtain ⟨G1, g1, T1, t1, z, q1, q2, q3, q4, q5, q6⟩ := step
  obtain ⟨z2, m2⟩ := m_sink (T := T1) (M := M)
  have s2 := sink_in (G := G1) q3.1.1 hL6
  have e11 : T1 0 = G1 11 := q4.1.1
  have e2 : M 1 = G1 2 := q4.2.1.2.1
  rw [sink_eq q3.2.2.2.2] at s2
  rw [e11, e2] at m2
  have fin := fun a b c => sim_grant (L := L) (N := N) (B := B + 9) (d := d) a b c q1 s2 q2 m2
  rw [uG_n (show (9 : Nat) ≠ 11 by decide), q6] at fin
  refine fin ?_ ?_ ?_
  · obtain ⟨a, b, c, e, q⟩ := q3
    refine ⟨a, ?_, ?_, ?_, ?_⟩
    · rw [uG_n (by decide)]; exact b
    · rw [uG_n (by decide)]; exact c
    · rw [uG_n (by decide), uG_n (by decide)]; exact e
    · rw [uG_s]; exact WFp_sink q (by omega)
  · obtain ⟨⟨a1, a2, a3, a4⟩, ⟨b1, b2, b3, b4, b5, b6, b7, b8⟩, c, d'⟩ := q4
    refine ⟨⟨?_, ?_, ?_, ?_⟩, ⟨?_, ?_, ?_, ?_, ?_, ?_, ?_, ?_⟩, c, d'⟩ <;> simp [uG, *]
  · exact ZG_uG q5 (zb_sink (q5 11 (by decide)))
/-- many days -/
theorem sim_days {L N : Nat} {M : Nat → Nat → Int32} {k : Nat → Int32} (n : Nat) : ∀ {B d : Nat} {G T : Nat → Nat → Int32} {g t : Nat → Int32}, WF L N B d G g → RW G g T t M k → ZG G → B + 9 * n < 2 ^ 30 → d + n < 2 ^ 30 →
    ∃ (X : Nat → Int32 × (Nat → Nat → Int32) × (Nat → Int32)) (Y : Nat → (Nat → Nat → Int32) × (Nat → Int32)), X 0 = (0, G, g) ∧ Y 0 = (T, t) ∧
      (∀ i, i < n → ∃ r, fX3_liveDay (X i).2.1 (X i).2.2 = some (r, (X (i + 1)).2) ∧ fX6_pass (Y i).1 (Y i).2 M k = some (r, Y (i + 1)) ∧ ((r = 0 ∧ (X (i + 1)).1 = (X i).1) ∨ (r = 1 ∧ (X (i + 1)).1 = (X i).1 + 1)) ∧ ∀ w, (X (i + 1)).2.1 9 w = (X i).2.1 9 w ∨ (X (i + 1)).2.1 9 w = 1) ∧
      ∀ i, i ≤ n → WF L N (B + 9 * i) (d + i) (X i).2.1 (X i).2.2 ∧ RW (X i).2.1 (X i).2.2 (Y i).1 (Y i).2 M k ∧ ZG (X i).2.1 := by
  induction n with
  | zero =>
    intro B d G T g t hW hR hZ _ _
    exact ⟨fun _ => (0, G, g), fun _ => (T, t), rfl, rfl, fun i hi => absurd hi (Nat.not_lt_zero i), fun i hi => by
      have : i = 0 := by omega
      subst this
      exact ⟨hW, hR, hZ⟩⟩
  | succ n ih =>
    intro B d G T g t hW hR hZ hB hd
    obtain ⟨X, Y, x0, y0, hst, hall⟩ := ih hW hR hZ (by omega) (by omega)
    obtain ⟨w1, w2, w3⟩ := hall n (Nat.le_refl n)
    obtain ⟨r, G', g', T', t', p1, p2, p3, p4, p5, p6, p7⟩ := sim_day w1 w2 w3 (by omega) (by omega)
    refine ⟨fun i => if i ≤ n then X i else ((if r = 0 then (X n).1 else (X n).1 + 1), G', g'), fun i => if i ≤ n then Y i else (T', t'), ?_, ?_, fun i hi => ?_, fun i hi => ?_⟩
    · show (if 0 ≤ n then X 0 else _) = _
      rw [if_pos (Nat.zero_le n), x0]
    · show (if 0 ≤ n then Y 0 else _) = _
      rw [if_pos (Nat.zero_le n), y0]
    · by_cases c : i < n
      · obtain ⟨r', k1, k2, k3, k4⟩ := hst i c
        refine ⟨r', ?_⟩
        simp only [if_pos (show i ≤ n by omega), if_pos (show i + 1 ≤ n by omega)]
        exact ⟨k1, k2, k3, k4⟩
      · have hi' : i = n := by omega
        subst hi'
        refine ⟨r, ?_⟩
        simp only [if_pos (Nat.le_refl i), if_neg (show ¬ i + 1 ≤ i by omega)]
        refine ⟨p1, p2, ?_, p7⟩
        rcases p3 with e | e
        · left; exact ⟨e, by rw [if_pos e]⟩
        · right; exact ⟨e, by rw [if_neg (by rw [e]; decide)]⟩
    · by_cases c : i ≤ n
      · simp only [if_pos c]
        exact hall i c
      · have hi' : i = n + 1 := by omega
        subst hi'
        simp only [if_neg c]
        exact ⟨by have := p4; rwa [show B + 9 * n + 9 = B + 9 * (n + 1) by omega] at this, p5, p6⟩
