/-! a look ahead: on the trial, on the reference's second state -/
theorem rCp_eq {n : Nat} {f f' : Nat → Int32} (h : zb n f) (h' : zb n f') : rCp n f f' = f := by
  funext j
  unfold rCp
  by_cases c : j < n
  · rw [pk_cpy_in (Nat.zero_le j) (by omega), Nat.zero_add, Nat.sub_zero]
  · rw [pk_cpy_out (Or.inr (by omega)), h' j (by omega), h j (by omega)]
theorem takeOver_in {G J : Nat → Nat → Int32} {g j : Nat → Int32} (hG : ZG G) (hJ : ZG J) : ∃ J' j', fX3_takeOver G g J j = some (J', j') ∧ (∀ k, k < 12 → J' k = G k) ∧ ∀ i, i < 7 → j' i = g i := by
  have r : ∀ k, k < 12 → rCp (ln_ k) (G k) (J k) = G k := fun k hk => rCp_eq (hG k hk) (hJ k hk)
  have r0 : rCp 7 (G 0) (J 0) = G 0 := r 0 (by decide)
  have r1 : rCp 6 (G 1) (J 1) = G 1 := r 1 (by decide)
  have r2 : rCp 6 (G 2) (J 2) = G 2 := r 2 (by decide)
  have r3 : rCp 6 (G 3) (J 3) = G 3 := r 3 (by decide)
  have r4 : rCp 6 (G 4) (J 4) = G 4 := r 4 (by decide)
  have r5 : rCp 6 (G 5) (J 5) = G 5 := r 5 (by decide)
  have r6 : rCp 24 (G 6) (J 6) = G 6 := r 6 (by decide)
  have r7 : rCp 24 (G 7) (J 7) = G 7 := r 7 (by decide)
  have r8 : rCp 24 (G 8) (J 8) = G 8 := r 8 (by decide)
  have r9 : rCp 24 (G 9) (J 9) = G 9 := r 9 (by decide)
  have r10 : rCp 24 (G 10) (J 10) = G 10 := r 10 (by decide)
  have r11 : rCp 30 (G 11) (J 11) = G 11 := r 11 (by decide)
  unfold fX3_takeOver fX0_takeOver fX4_takeOver fX1_takeOver
  simp only [lt_B, b2_S, bd_S]
  refine ⟨_, _, rfl, fun k hk => ?_, fun i hi => ?_⟩
  · rcases (show k = 0 ∨ k = 1 ∨ k = 2 ∨ k = 3 ∨ k = 4 ∨ k = 5 ∨ k = 6 ∨ k = 7 ∨ k = 8 ∨ k = 9 ∨ k = 10 ∨ k = 11 by omega) with e | e | e | e | e | e | e | e | e | e | e | e <;> subst e <;> simp [uG, *]
  · rcases (show i = 0 ∨ i = 1 ∨ i = 2 ∨ i = 3 ∨ i = 4 ∨ i = 5 ∨ i = 6 by omega) with e | e | e | e | e | e | e <;> subst e <;> simp [uS]
theorem become_in {T V : Nat → Nat → Int32} {t v : Nat → Int32} (hT : ZV T) (hV : ZV V) : ∃ V' v', fX6_become V v T t = some (V', v') ∧ (V' 0 = T 0 ∧ V' 1 = T 1 ∧ V' 2 = T 2 ∧ V' 3 = T 3) ∧ (v' 0 = t 0 ∧ v' 1 = t 1 ∧ v' 2 = t 2) := by
  obtain ⟨a0, a1, a2, a3⟩ := hT
  obtain ⟨b0, b1, b2, b3⟩ := hV
  have r0 := rCp_eq a0 b0
  have r1 := rCp_eq a1 b1
  have r2 := rCp_eq a2 b2
  have r3 := rCp_eq a3 b3
  unfold fX6_become
  simp only [lt_B]
  refine ⟨_, _, rfl, ⟨?_, ?_, ?_, ?_⟩, ?_, ?_, ?_⟩ <;> simp [uG, uS, *]
theorem ZV_of {G g T t M k} (h : RW G g T t M k) (hG : ZG G) : ZV T := by
  obtain ⟨⟨r1, r2, r3, r4⟩, -⟩ := h
  unfold ZV
  rw [r1, r2, r3, r4]
  exact ⟨hG 11 (by decide), hG 3 (by decide), hG 9 (by decide), hG 10 (by decide)⟩
/-- the states of a look ahead agree as those they are taken from -/
theorem ahead {L N B d : Nat} {G J T V M : Nat → Nat → Int32} {g j t v k : Nat → Int32} (hW : WF L N B d G g) (hR : RW G g T t M k) (hG : ZG G) (hJ : ZG J) (hV : ZV V) :
    ∃ J' j' V' v', fX3_takeOver G g J j = some (J', j') ∧ fX6_become V v T t = some (V', v') ∧ WF L N B d J' j' ∧ RW J' j' V' v' M k ∧ ZG J' ∧ J' 9 = G 9 := by
  obtain ⟨J', j', e1, e2, e3⟩ := takeOver_in (g := g) (j := j) hG hJ
  obtain ⟨V', v', f1, ⟨f2, f3, f4, f5⟩, f6, f7, f8⟩ := become_in (t := t) (v := v) (ZV_of hR hG) hV
  obtain ⟨⟨a1, a2, a3⟩, w, wt, ww, wp⟩ := hW
  obtain ⟨⟨r1, r2, r3, r4⟩, ⟨b1, b2, b3, b4, b5, b6, b7, b8⟩, ⟨c1, c2, c3⟩, ⟨d1, d2, d3, d4⟩⟩ := hR
  refine ⟨J', j', V', v', e1, f1, ⟨⟨?_, ?_, ?_⟩, ?_, ?_, ?_, ?_⟩, ⟨⟨?_, ?_, ?_, ?_⟩, ⟨?_, ?_, ?_, ?_, ?_, ?_, ?_, ?_⟩, ⟨?_, ?_, ?_⟩, ⟨?_, ?_, ?_, ?_⟩⟩, ?_, e2 9 (by decide)⟩
  · rw [e3 5 (by decide), a1]
  · rw [e3 6 (by decide), a2]
  · rw [e3 0 (by decide), a3]
  · rw [e2 1 (by decide)]; exact w
  · rw [e2 0 (by decide)]; exact wt
  · rw [e2 7 (by decide), e2 9 (by decide)]; exact ww
  · rw [e2 11 (by decide)]; exact wp
  · rw [f2, r1, e2 11 (by decide)]
  · rw [f3, r2, e2 3 (by decide)]
  · rw [f4, r3, e2 9 (by decide)]
  · rw [f5, r4, e2 10 (by decide)]
  · rw [b1, e2 1 (by decide)]
  · rw [b2, e2 2 (by decide)]
  · rw [b3, e2 0 (by decide)]
  · rw [b4, e2 4 (by decide)]
  · rw [b5, e2 5 (by decide)]
  · rw [b6, e2 6 (by decide)]
  · rw [b7, e2 7 (by decide)]
  · rw [b8, e2 8 (by decide)]
  · rw [f6, c1, e3 0 (by decide)]
  · rw [f7, c2, e3 1 (by decide)]
  · rw [f8, c3, e3 2 (by decide)]
  · rw [d1, e3 5 (by decide)]
  · rw [d2, e3 6 (by decide)]
  · rw [d3, e3 3 (by decide)]
  · rw [d4, e3 4 (by decide)]
  · intro i hi
    rw [e2 i hi]; exact hG i hi
theorem op_waits {n : Nat} {G J V T M : Nat → Nat → Int32} {g j v t k : Nat → Int32} (h : SIM n G g J V T t M k) (hn : n ≤ 1000) (p0 : Int32) :
    (∃ r J' j' k' V' v', fX5_waits G g J j p0 = some (.inr (r, J', j')) ∧ fX7_waits T t M k V v p0 = some (r, k', V', v') ∧ k' 0 = 0 ∧ SIM (n + 1) G g J' V' T t M k') ∨
    ∃ s c b k', (s = IX ∧ c = 1) ∧ fX5_waits G g J j p0 = some (.inl s) ∧ fX7_waits T t M k V v p0 = some (b, k', V, v) ∧ k' 0 = c ∧ SIM (n + 1) G g J V T t M k' := by
  unfold fX5_waits fX7_waits
  rw [lt_B (uS k 0 0)]
  obtain ⟨L, N, B, d, hW, hR, hZ, hJ, hV, hB, hd⟩ := id h
  have hN := hW.2.2.2.1.1
  rcases isW p0 hW.1.2.1 (show uS k 0 0 2 = nI N by rw [uS_n (by decide), hR.2.2.2.2.1]; exact hW.1.2.1) (by omega) with ⟨c, c'⟩ | ⟨i, hi, rfl, c, c'⟩
  · right
    exact ⟨IX, 1, 0, _, ⟨rfl, rfl⟩, if_pos c, by rw [if_pos c', no_, b2_S], uS_s, SIM_no h⟩
  rw [if_neg c, if_neg c', rAt_in (by omega) (by decide), lt_B]
  left
  obtain ⟨J', j', V', v', e1, e2, hW', hR', hZ', e9⟩ := ahead (j := j) (v := v) hW (RW_k0 (x := 0) hR) hZ hJ hV
  rw [e2, b2_S]
  have hV' := ZV_of hR' hZ'
  have eV : V' 2 i = G 9 i := by rw [hR'.1.2.2.1, e9]
  have stop0 : ¬ G 9 i = 0 → lp (fun s => fX7_waits_B32 M (nI i) (uS k 0 0) s.1 s.2.1 s.2.2) 201 (0, V', v') = some (0, V', v') := fun q => lp_inr (by
    show fX7_waits_B32 M (nI i) (uS k 0 0) 0 V' v' = _
    unfold fX7_waits_B32
    rw [gd_in (by omega) (by decide), cl_n (by omega), eV, if_neg q])
  by_cases c1 : G 9 i = 1
  · refine ⟨0, J, j, uS k 0 0, V', v', by rw [if_pos c1], ?_, uS_s, L, N, B, d, hW, RW_k0 hR, hZ, hJ, hV', by omega, by omega⟩
    refine b3_lp (stop0 (by rw [c1]; decide)) ?_
    rw [gd_in (by omega) (by decide), cl_n (by omega), eV, if_pos c1]
  by_cases c2 : G 9 i = 2
  · refine ⟨-1, J, j, uS k 0 0, V', v', by rw [if_neg c1, if_pos c2], ?_, uS_s, L, N, B, d, hW, RW_k0 hR, hZ, hJ, hV', by omega, by omega⟩
    refine b3_lp (stop0 (by rw [c2]; decide)) ?_
    rw [gd_in (by omega) (by decide), cl_n (by omega), eV, if_neg c1]
  have c0 : G 9 i = 0 := by
    obtain ⟨x, hx, ex⟩ := hW.2.2.2.1.2.2.1 i hi
    rcases (show x = 0 ∨ x = 1 ∨ x = 2 by omega) with e | e | e
    · rw [ex, e]; rfl
    · exact absurd (by rw [ex, e]; rfl) c1
    · exact absurd (by rw [ex, e]; rfl) c2
  rw [if_neg c1, if_neg c2]
  obtain ⟨X, Y, x0, y0, hst, hall⟩ := sim_days 200 hW' hR' hZ' (by omega) (by omega)
  have eY : ∀ s, s ≤ 200 → (Y s).1 2 i = (X s).2.1 9 i := fun s hs => by rw [(hall s hs).2.1.1.2.2.1]
  have z : ∀ s, s ≤ 200 → (∀ q, q < s + 1 → ¬ (X q).2.1 9 i = 1) → (X s).2.1 9 i = 0 := by
    intro s
    induction s with
    | zero => intro _ _; rw [x0]; show J' 9 i = 0; rw [e9, c0]
    | succ s ih =>
      intro hs hq
      obtain ⟨r, -, -, -, s4⟩ := hst s (by omega)
      rcases s4 i with e | e
      · rw [e]; exact ih (by omega) (fun q hq' => hq q (by omega))
      · exact absurd e (hq (s + 1) (by omega))
  have mstep : ∀ s, s < 200 → (X s).2.1 9 i = 0 → fX7_waits_B32 M (nI i) (uS k 0 0) (nI s) (Y s).1 (Y s).2 = some (.inl (nI (s + 1), (Y (s + 1)).1, (Y (s + 1)).2)) := fun s hs e => by
    unfold fX7_waits_B32
    obtain ⟨r, s1, s2, -⟩ := hst s hs
    rw [gd_in (by omega) (by decide), cl_n (by omega), eY s (by omega), if_pos e, if_neg (show ¬ (200 : Int32) ≤ nI s from nI_ge (b := 200) hs (by decide)), s2, nI_up]
    rfl
  have cstep : ∀ s, s < 200 → ¬ (X (s + 1)).2.1 9 i = 1 → fX5_daysTillGranted_B13 (nI i) (nI (s + 1)) (X s).2.1 (X s).2.2 = some (.inl (nI (s + 1 + 1), (X (s + 1)).2.1, (X (s + 1)).2.2)) := fun s hs e => by
    unfold fX5_daysTillGranted_B13
    obtain ⟨r, s1, s2, -⟩ := hst s hs
    rw [if_neg (show ¬ (200 : Int32) < nI (s + 1) from nI_nlt (a := 200) (by omega) (by decide)), s1]
    show (if rAt 24 ((X (s + 1)).2.1 9) (nI i) = 1 then _ else _) = _
    rw [rAt_in (by omega) (by decide), if_neg e, nI_up]
  by_cases hx : ∃ s, s ≤ 200 ∧ (X s).2.1 9 i = 1
  · obtain ⟨s, ⟨hs, es⟩, hmin⟩ := pk_least (fun s => s ≤ 200 ∧ (X s).2.1 9 i = 1) hx
    have hz : ∀ q, q < s → (X q).2.1 9 i = 0 := fun q hq => z q (by omega) (fun q' h' e => hmin q' (by omega) ⟨by omega, e⟩)
    obtain ⟨m, rfl⟩ : ∃ m, s = m + 1 := ⟨s - 1, by
      have : s ≠ 0 := fun q => by
        rw [q, x0] at es
        exact c1 (by rw [← e9]; exact es)
      omega⟩
    obtain ⟨w1, w2, w3⟩ := hall (m + 1) hs
    refine ⟨nI (m + 1), (X (m + 1)).2.1, (X (m + 1)).2.2, uS k 0 0, (Y (m + 1)).1, (Y (m + 1)).2, ?_, ?_, uS_s, L, N, B, d, hW, RW_k0 hR, hZ, w3, ZV_of w2 w3, by omega, by omega⟩
    · have e : fX5_daysTillGranted G g J j (nI i) = some (nI (m + 1), (X (m + 1)).2.1, (X (m + 1)).2.2) := by
        unfold fX5_daysTillGranted
        rw [e1, b2_S]
        refine b1_lp (lp_for (fun s => (nI (s + 1), (X s).2.1, (X s).2.2)) m (.inr (nI (m + 1), (X (m + 1)).2.1, (X (m + 1)).2.2)) ?_ (by omega) (fun s hs' => cstep s (by omega) (by rw [hz (s + 1) (by omega)]; decide)) ?_) rfl
        · show (1, J', j') = (nI 1, (X 0).2.1, (X 0).2.2)
          rw [x0]; rfl
        · show fX5_daysTillGranted_B13 (nI i) (nI (m + 1)) (X m).2.1 (X m).2.2 = _
          unfold fX5_daysTillGranted_B13
          obtain ⟨r, s1, s2, -⟩ := hst m (by omega)
          rw [if_neg (show ¬ (200 : Int32) < nI (m + 1) from nI_nlt (a := 200) (by omega) (by decide)), s1]
          show (if rAt 24 ((X (m + 1)).2.1 9) (nI i) = 1 then _ else _) = _
          rw [rAt_in (by omega) (by decide), if_pos es]
      rw [e, b3_S]
    · refine b3_lp (lp_for (fun s => (nI s, (Y s).1, (Y s).2)) (m + 1) (nI (m + 1), (Y (m + 1)).1, (Y (m + 1)).2) ?_ (by omega) (fun s hs' => mstep s (by omega) (hz s hs')) ?_) ?_
      · show (0, V', v') = (nI 0, (Y 0).1, (Y 0).2)
        rw [y0]; rfl
      · show fX7_waits_B32 M (nI i) (uS k 0 0) (nI (m + 1)) (Y (m + 1)).1 (Y (m + 1)).2 = _
        unfold fX7_waits_B32
        rw [gd_in (by omega) (by decide), cl_n (by omega), eY _ hs, es, if_neg (by decide)]
      · rw [gd_in (by omega) (by decide), cl_n (by omega), eY _ hs, if_pos es]
  · have hz : ∀ q, q ≤ 200 → (X q).2.1 9 i = 0 := fun q hq => z q hq (fun q' h' e => hx ⟨q', by omega, e⟩)
    obtain ⟨w1, w2, w3⟩ := hall 200 (Nat.le_refl _)
    refine ⟨-1, (X 200).2.1, (X 200).2.2, uS k 0 0, (Y 200).1, (Y 200).2, ?_, ?_, uS_s, L, N, B, d, hW, RW_k0 hR, hZ, w3, ZV_of w2 w3, by omega, by omega⟩
    · have e : fX5_daysTillGranted G g J j (nI i) = some (-1, (X 200).2.1, (X 200).2.2) := by
        unfold fX5_daysTillGranted
        rw [e1, b2_S]
        refine b1_lp (lp_for (fun s => (nI (s + 1), (X s).2.1, (X s).2.2)) 200 (.inl (nI 201, (X 200).2.1, (X 200).2.2)) ?_ (by omega) (fun s hs' => cstep s (by omega) (by rw [hz (s + 1) (by omega)]; decide)) ?_) rfl
        · show (1, J', j') = (nI 1, (X 0).2.1, (X 0).2.2)
          rw [x0]; rfl
        · show fX5_daysTillGranted_B13 (nI i) (nI 201) (X 200).2.1 (X 200).2.2 = _
          unfold fX5_daysTillGranted_B13
          rw [if_pos (by decide)]
      rw [e, b3_S]
    · refine b3_lp (lp_for (fun s => (nI s, (Y s).1, (Y s).2)) 200 (nI 200, (Y 200).1, (Y 200).2) ?_ (by omega) (fun s hs' => mstep s (by omega) (hz s (by omega))) ?_) ?_
      · show (0, V', v') = (nI 0, (Y 0).1, (Y 0).2)
        rw [y0]; rfl
      · show fX7_waits_B32 M (nI i) (uS k 0 0) (nI 200) (Y 200).1 (Y 200).2 = _
        unfold fX7_waits_B32
        rw [gd_in (by omega) (by decide), cl_n (by omega), eY _ (Nat.le_refl _), if_pos (hz 200 (Nat.le_refl _)), if_pos (by decide)]
      · rw [gd_in (by omega) (by decide), cl_n (by omega), eY _ (Nat.le_refl _), if_neg (by rw [hz 200 (Nat.le_refl _)]; decide)]
theorem op_foresee {n : Nat} {G J V T M : Nat → Nat → Int32} {g j v t k : Nat → Int32} (h : SIM n G g J V T t M k) (hn : n ≤ 1000) (p0 p1 : Int32) :
    (∃ r J' j' k' V' v', fX5_foresee G g J j p0 p1 = some (.inr (r, J', j')) ∧ fX7_foresee T t M k V v p0 p1 = some (r, k', V', v') ∧ k' 0 = 0 ∧ SIM (n + 1) G g J' V' T t M k') ∨
    ∃ s c b k', ((s = IA ∧ c = 1) ∨ (s = IX ∧ c = 2)) ∧ fX5_foresee G g J j p0 p1 = some (.inl s) ∧ fX7_foresee T t M k V v p0 p1 = some (b, k', V, v) ∧ k' 0 = c ∧ SIM (n + 1) G g J V T t M k' := by
  unfold fX5_foresee fX7_foresee
  rw [lt_B (uS k 0 0)]
  obtain ⟨L, N, B, d, hW, hR, hZ, hJ, hV, hB, hd⟩ := id h
  rcases wi p0 1 100 (by decide) (by decide) with ⟨c, c'⟩ | ⟨u, u1, u2, rfl, c, c'⟩
  · right
    exact ⟨IA, 1, 0, _, Or.inl ⟨rfl, rfl⟩, if_pos c, by rw [if_pos (show fX7_isIn p0 1 100 = 0 from c'), no_, b2_S], uS_s, SIM_no h⟩
  rw [if_neg (show ¬ fX5_within (nI u) 1 100 = 0 from c), if_neg (show ¬ fX7_isIn (nI u) 1 100 = 0 from c')]
  rcases wi p1 0 2 (by decide) (by decide) with ⟨c, c'⟩ | ⟨w, ww1, ww2, rfl, c, c'⟩
  · right
    exact ⟨IX, 2, 0, _, Or.inr ⟨rfl, rfl⟩, if_pos c, by rw [if_pos (show fX7_isIn p1 0 2 = 0 from c'), no_, b2_S], uS_s, SIM_no h⟩
  rw [if_neg (show ¬ fX5_within (nI w) 0 2 = 0 from c), if_neg (show ¬ fX7_isIn (nI w) 0 2 = 0 from c')]
  left
  obtain ⟨J', j', V', v', e1, e2, hW', hR', hZ', e9⟩ := ahead (j := j) (v := v) hW (RW_k0 (x := 0) hR) hZ hJ hV
  rw [e1, e2, b2_S, b2_S]
  obtain ⟨X, Y, x0, y0, hst, hall⟩ := sim_days u hW' hR' hZ' (by omega) (by omega)
  obtain ⟨f1, f2, f3⟩ := hall u (Nat.le_refl u)
  have e : fX3_liveDays J' j' (nI u) = some ((X u).1, (X u).2.1, (X u).2.2) := by
    unfold fX3_liveDays
    refine b4_lp (lp_for (fun i => ((X i).1, nI i, (X i).2.1, (X i).2.2)) u ((X u).1, nI u, (X u).2.1, (X u).2.2) ?_ (by omega) (fun i hi => ?_) ?_) rfl
    · show (0, 0, J', j') = ((X 0).1, nI 0, (X 0).2.1, (X 0).2.2)
      rw [x0]; rfl
    · show fX3_liveDays_B4 (nI u) (X i).1 (nI i) (X i).2.1 (X i).2.2 = _
      unfold fX3_liveDays_B4
      obtain ⟨r, s1, s2, s3, -⟩ := hst i hi
      rw [if_neg (nI_ge hi (by omega)), s1]
      show (if r = 0 then _ else _) = _
      rw [nI_up]
      rcases s3 with ⟨e1, e2⟩ | ⟨e1, e2⟩
      · rw [if_pos e1, e2]
      · rw [if_neg (by rw [e1]; decide), e2]
    · show fX3_liveDays_B4 (nI u) (X u).1 (nI u) (X u).2.1 (X u).2.2 = _
      unfold fX3_liveDays_B4
      rw [if_pos (Int32.le_refl _)]
  have em : lp (fun s => fX7_foresee_B49 M (nI u) (uS k 0 0) s.1 s.2.1 s.2.2) 101 (0, V', v') = some (nI u, (Y u).1, (Y u).2) := by
    refine lp_for (fun i => (nI i, (Y i).1, (Y i).2)) u (nI u, (Y u).1, (Y u).2) ?_ (by omega) (fun i hi => ?_) ?_
    · show (0, V', v') = (nI 0, (Y 0).1, (Y 0).2)
      rw [y0]; rfl
    · show fX7_foresee_B49 M (nI u) (uS k 0 0) (nI i) (Y i).1 (Y i).2 = _
      unfold fX7_foresee_B49
      obtain ⟨r, s1, s2, s3, -⟩ := hst i hi
      rw [if_neg (nI_ge hi (by omega)), s2, nI_up]
      rfl
    · show fX7_foresee_B49 M (nI u) (uS k 0 0) (nI u) (Y u).1 (Y u).2 = _
      unfold fX7_foresee_B49
      rw [if_pos (Int32.le_refl _)]
  rw [e, b3_S, em, b3_S, show (4 : Int32) = nI 4 from rfl, coinsIn_in (by decide), m_coins (by decide), valueOfAll_in f1.1.1 f1.2.1.1 (fun j h1 h2 => f1.2.1.2.2 j h1), m_allWorth, bd_S, bd_S, bd_S, bd_S, f2.1.1, f2.2.1.1, f2.2.2.1.2.1]
  have fin : SIM (n + 1) G g (X u).2.1 (Y u).1 T t M (uS k 0 0) := ⟨L, N, B, d, hW, RW_k0 hR, hZ, f3, ZV_of f2 f3, by omega, by omega⟩
  by_cases q0 : nI w = 0
  · rw [if_pos q0, if_pos q0]
    exact ⟨_, _, _, _, _, _, rfl, rfl, uS_s, fin⟩
  rw [if_neg q0, if_neg q0]
  by_cases q1 : nI w = 1
  · rw [if_pos q1, if_pos q1]
    exact ⟨_, _, _, _, _, _, rfl, rfl, uS_s, fin⟩
  rw [if_neg q1, if_neg q1]
  exact ⟨_, _, _, _, _, _, rfl, rfl, uS_s, fin⟩
