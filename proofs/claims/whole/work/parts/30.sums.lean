/-! the mean wait, the digest -/
theorem nb_div (a : Int32) {b : Int32} (hb : b ≠ 0) : vf_n64 (FP.ddiv (FP.i2d a) (FP.i2d b)) := Jvm.Free.Fl.ddiv_out (Jvm.Free.Fl.noNaN64_no.mpr (Jvm.FP.Core.i2d_fin a).notNaN) (Jvm.Free.Fl.i2d_fin b) (Jvm.Free.Fl.i2d_nz hb)
theorem same_mean {n : Nat} {G J V T M : Nat → Nat → Int32} {g t k : Nat → Int32} (h : SIM n G g J V T t M k) : ∃ r, vf_n64 r ∧ fX5_mean G g = some r ∧ fX7_mean T M k = some (r, uS k 0 0) ∧ SIM (n + 1) G g J V T t M (uS k 0 0) := by
  obtain ⟨L, N, B, d, hW, hR, -⟩ := id h
  obtain ⟨⟨a1, a2, a3⟩, ⟨w1, w2, w3⟩, wt, ⟨ww1, ww2, ww3, ww4⟩, wp⟩ := hW
  obtain ⟨⟨r1, r2, r3, r4⟩, ⟨b1, b2, b3, b4, b5, b6, b7, b8⟩, ⟨c1, c2, c3⟩, ⟨d1, d2, d3, d4⟩⟩ := hR
  obtain ⟨S, hS⟩ : ∃ S : Nat → Int32 × Int32, S 0 = (0, 0) ∧ ∀ i, S (i + 1) = if G 9 i = 1 then ((S i).1 + 1, (S i).2 + (G 10 i - G 8 i)) else S i :=
    ⟨fun i => Nat.rec (0, 0) (fun i s => if G 9 i = 1 then (s.1 + 1, s.2 + (G 10 i - G 8 i)) else s) i, rfl, fun _ => rfl⟩
  have l1 : lp (fun s => fX4_meanWait_B6 G g s.1 s.2.1 s.2.2) 25 (0, 0, 0) = some ((S N).1, (S N).2, nI N) := by
    refine lp_for (fun i => ((S i).1, (S i).2, nI i)) N ((S N).1, (S N).2, nI N) ?_ (by omega) (fun i hi => ?_) ?_
    · show ((0 : Int32), (0 : Int32), (0 : Int32)) = ((S 0).1, (S 0).2, nI 0)
      rw [hS.1]; rfl
    · show fX4_meanWait_B6 G g (S i).1 (S i).2 (nI i) = _
      unfold fX4_meanWait_B6
      rw [a2, if_neg (nI_ge hi (by omega)), rAt_in (by omega) (by decide), rAt_in (by omega) (by decide), rAt_in (by omega) (by decide), lt_B, nI_up, hS.2]
      by_cases c : G 9 i = 1
      · rw [if_pos c, if_pos c]
      · rw [if_neg c, if_neg c]
    · show fX4_meanWait_B6 G g (S N).1 (S N).2 (nI N) = _
      unfold fX4_meanWait_B6
      rw [a2, if_pos (Int32.le_refl _)]
  have l2 : lp (fun s => fX7_mean_B11 T M (uS k 0 0) s.1 s.2.1 s.2.2) 25 (0, 0, 0) = some ((S N).2, (S N).1, nI N) := by
    refine lp_for (fun i => ((S i).2, (S i).1, nI i)) N ((S N).2, (S N).1, nI N) ?_ (by omega) (fun i hi => ?_) ?_
    · show ((0 : Int32), (0 : Int32), (0 : Int32)) = ((S 0).2, (S 0).1, nI 0)
      rw [hS.1]; rfl
    · show fX7_mean_B11 T M (uS k 0 0) (S i).2 (S i).1 (nI i) = _
      unfold fX7_mean_B11
      rw [uS_n (by decide), d2, a2, if_neg (nI_ge hi (by omega)), gd_in (by omega) (by decide), gd_in (by omega) (by decide), gd_in (by omega) (by decide), cl_n (by omega), lt_B, nI_up, hS.2, r3, r4, b8]
      by_cases c : G 9 i = 1
      · rw [if_pos c, if_pos c]
      · rw [if_neg c, if_neg c]
    · show fX7_mean_B11 T M (uS k 0 0) (S N).2 (S N).1 (nI N) = _
      unfold fX7_mean_B11
      rw [uS_n (by decide), d2, a2, if_pos (Int32.le_refl _)]
  by_cases c : (S N).1 = 0
  · refine ⟨0, by unfold vf_n64; decide, ?_, ?_, SIM_k0 h⟩
    · unfold fX5_mean fX4_meanWait
      rw [l1, b3_S, if_pos c, bd_S]
    · unfold fX7_mean
      rw [lt_B, l2, b3_S, if_pos c]
  · have nb := nb_div (S N).2 c
    refine ⟨_, nb, ?_, ?_, SIM_k0 h⟩
    · unfold fX5_mean fX4_meanWait
      rw [l1, b3_S, if_neg c, gd_T nb, bd_S]
    · unfold fX7_mean
      rw [lt_B, l2, b3_S, if_neg c, gd_T nb]
def fd (F : Nat → Int32) (x : Int64) : Nat → Int64
  | 0 => x
  | n + 1 => fd F x n * 31 + (F n).toInt64
def gl (G : Nat → Nat → Int32) (x : Int64) : Nat → Int64
  | 0 => x
  | l + 1 => fd (LF G l) (gl G x l) 5 * 31 + (MS G l).toInt64
def gy (P : Nat → Int32) (L : Nat) (x : Int64) : Nat → Int64
  | 0 => x
  | a + 1 => fd (fun j => P (6 * a + j)) (gy P L x a) L
def gw (G : Nat → Nat → Int32) (x : Int64) : Nat → Int64
  | 0 => x
  | w + 1 => fd (TF G w) (gw G x w) 5
theorem same_digest {n : Nat} {G J V T M : Nat → Nat → Int32} {g t k : Nat → Int32} (h : SIM n G g J V T t M k) : ∃ r, fX5_digest G g = some r ∧ fX7_digest T t M k = some (r, uS k 0 0) ∧ SIM (n + 1) G g J V T t M (uS k 0 0) := by
  obtain ⟨L, N, B, d, hW, hR, -⟩ := id h
  obtain ⟨⟨a1, a2, a3⟩, ⟨w1, w2, w3⟩, wt, ⟨ww1, ww2, ww3, ww4⟩, wp⟩ := id hW
  obtain ⟨⟨r1, r2, r3, r4⟩, ⟨b1, b2, b3, b4, b5, b6, b7, b8⟩, ⟨c1, c2, c3⟩, ⟨d1, d2, d3, d4⟩⟩ := id hR
  have hR0 := RW_k0 (x := 0) hR
  have ek : uS k 0 0 1 = nI L := by rw [uS_n (by decide), d1, a1]
  have ek2 : uS k 0 0 2 = nI N := by rw [uS_n (by decide), d2, a2]
  obtain ⟨D1, hD1⟩ : ∃ D, D = fd (CF G g N) 821 11 := ⟨_, rfl⟩
  obtain ⟨D2, hD2⟩ : ∃ D, D = fd (G 0) D1 7 := ⟨_, rfl⟩
  obtain ⟨D3, hD3⟩ : ∃ D, D = gl G D2 L := ⟨_, rfl⟩
  obtain ⟨D4, hD4⟩ : ∃ D, D = gy (G 11) L D3 5 := ⟨_, rfl⟩
  have A1 : lp (fun s => fX5_digest_B6 G g s.1 s.2) 12 (821, 0) = some (D1, nI 11) := by
    rw [hD1]
    refine lp_for (fun i => (fd (CF G g N) 821 i, nI i)) 11 (fd (CF G g N) 821 11, nI 11) rfl (by omega) (fun i hi => ?_) ?_
    · show fX5_digest_B6 G g (fd (CF G g N) 821 i) (nI i) = _
      unfold fX5_digest_B6
      rw [if_neg (show ¬ (10 : Int32) < nI i from nI_nlt (a := 10) (by omega) (by decide)), figure_in hW hi, bd_S, lt_B, nI_up]
      rfl
    · show fX5_digest_B6 G g (fd (CF G g N) 821 11) (nI 11) = _
      unfold fX5_digest_B6
      rw [if_pos (by decide)]
  have B1 : lp (fun s => fX7_digest_B11 T t M (uS k 0 0) s.1 s.2) 12 (821, 0) = some (D1, nI 11) := by
    rw [hD1]
    refine lp_for (fun i => (fd (CF G g N) 821 i, nI i)) 11 (fd (CF G g N) 821 11, nI 11) rfl (by omega) (fun i hi => ?_) ?_
    · show fX7_digest_B11 T t M (uS k 0 0) (fd (CF G g N) 821 i) (nI i) = _
      unfold fX7_digest_B11
      rw [if_neg (show ¬ (10 : Int32) < nI i from nI_nlt (a := 10) (by omega) (by decide)), counted_in hW hR0 hi, bd_S, lt_B, nI_up]
      rfl
    · show fX7_digest_B11 T t M (uS k 0 0) (fd (CF G g N) 821 11) (nI 11) = _
      unfold fX7_digest_B11
      rw [if_pos (by decide)]
  have A2 : lp (fun s => fX5_digest_B36 G s.1 s.2) 8 (D1, 0) = some (D2, nI 7) := by
    rw [hD2]
    refine lp_for (fun i => (fd (G 0) D1 i, nI i)) 7 (fd (G 0) D1 7, nI 7) rfl (by omega) (fun i hi => ?_) ?_
    · show fX5_digest_B36 G (fd (G 0) D1 i) (nI i) = _
      unfold fX5_digest_B36
      rw [if_neg (show ¬ (7 : Int32) ≤ nI i from nI_ge (b := 7) hi (by decide)), rAt_in hi (by decide), lt_B, nI_up]
      rfl
    · show fX5_digest_B36 G (fd (G 0) D1 7) (nI 7) = _
      unfold fX5_digest_B36
      rw [if_pos (by decide)]
  have B2 : lp (fun s => fX7_digest_B38 M s.1 s.2) 8 (D1, 0) = some (D2, nI 7) := by
    rw [hD2]
    refine lp_for (fun i => (fd (G 0) D1 i, nI i)) 7 (fd (G 0) D1 7, nI 7) rfl (by omega) (fun i hi => ?_) ?_
    · show fX7_digest_B38 M (fd (G 0) D1 i) (nI i) = _
      unfold fX7_digest_B38
      rw [if_neg (show ¬ (7 : Int32) ≤ nI i from nI_ge (b := 7) hi (by decide)), gd_in hi (by decide), cl_n (by omega), lt_B, nI_up, b3]
      rfl
    · show fX7_digest_B38 M (fd (G 0) D1 7) (nI 7) = _
      unfold fX7_digest_B38
      rw [if_pos (by decide)]
  have A3 : fX5_digestLands G g D2 = some D3 := by
    rw [hD3]
    unfold fX5_digestLands
    refine b2_lp (lp_for (fun l => (gl G D2 l, nI l)) L (gl G D2 L, nI L) rfl (by omega) (fun l hl => ?_) ?_) rfl
    · show fX5_digestLands_B5 G g (gl G D2 l) (nI l) = _
      unfold fX5_digestLands_B5
      rw [a1, if_neg (nI_ge hl (by omega))]
      refine b2_lp (lp_for (fun i => (fd (LF G l) (gl G D2 l) i, nI i)) 5 (fd (LF G l) (gl G D2 l) 5, nI 5) rfl (by omega) (fun i hi => ?_) ?_) ?_
      · show fX5_digestLands_B23 G (nI l) (fd (LF G l) (gl G D2 l) i) (nI i) = _
        unfold fX5_digestLands_B23
        rw [if_neg (show ¬ (4 : Int32) < nI i from nI_nlt (a := 4) (by omega) (by decide)), landFig_in (by omega) hi, bd_S, lt_B, nI_up]
        rfl
      · show fX5_digestLands_B23 G (nI l) (fd (LF G l) (gl G D2 l) 5) (nI 5) = _
        unfold fX5_digestLands_B23
        rw [if_pos (by decide)]
      · rw [missing_in (by omega), bd_S, lt_B, nI_up]
        rfl
    · show fX5_digestLands_B5 G g (gl G D2 L) (nI L) = _
      unfold fX5_digestLands_B5
      rw [a1, if_pos (Int32.le_refl _)]
  have B3 : lp (fun s => fX7_digest_B66 T M (uS k 0 0) s.1 s.2) 7 (D2, 0) = some (D3, nI L) := by
    rw [hD3]
    refine lp_for (fun l => (gl G D2 l, nI l)) L (gl G D2 L, nI L) rfl (by omega) (fun l hl => ?_) ?_
    · show fX7_digest_B66 T M (uS k 0 0) (gl G D2 l) (nI l) = _
      unfold fX7_digest_B66
      rw [ek, if_neg (nI_ge hl (by omega))]
      refine b2_lp (lp_for (fun i => (fd (LF G l) (gl G D2 l) i, nI i)) 5 (fd (LF G l) (gl G D2 l) 5, nI 5) rfl (by omega) (fun i hi => ?_) ?_) ?_
      · show fX7_digest_B77 T M (nI l) (fd (LF G l) (gl G D2 l) i) (nI i) = _
        unfold fX7_digest_B77
        rw [if_neg (show ¬ (4 : Int32) < nI i from nI_nlt (a := 4) (by omega) (by decide)), landTold_in hR (by omega) hi, bd_S, lt_B, nI_up]
        rfl
      · show fX7_digest_B77 T M (nI l) (fd (LF G l) (gl G D2 l) 5) (nI 5) = _
        unfold fX7_digest_B77
        rw [if_pos (by decide)]
      · rw [missed_in hR (by omega), bd_S, lt_B, nI_up]
        rfl
    · show fX7_digest_B66 T M (uS k 0 0) (gl G D2 L) (nI L) = _
      unfold fX7_digest_B66
      rw [ek, if_pos (Int32.le_refl _)]
  have A4 : fX5_digestLayers G g D3 = some D4 := by
    rw [hD4]
    unfold fX5_digestLayers
    refine b2_lp (lp_for (fun a => (gy (G 11) L D3 a, nI a)) 5 (gy (G 11) L D3 5, nI 5) rfl (by omega) (fun a ha => ?_) ?_) rfl
    · show fX5_digestLayers_B5 G g (gy (G 11) L D3 a) (nI a) = _
      unfold fX5_digestLayers_B5
      rw [if_neg (show ¬ (5 : Int32) ≤ nI a from nI_ge (b := 5) ha (by decide))]
      refine b2_lp (lp_for (fun j => (fd (fun j => G 11 (6 * a + j)) (gy (G 11) L D3 a) j, nI j)) L (fd (fun j => G 11 (6 * a + j)) (gy (G 11) L D3 a) L, nI L) rfl (by omega) (fun j hj => ?_) ?_) ?_
      · show fX5_digestLayers_B14 G g (nI a) (fd (fun j => G 11 (6 * a + j)) (gy (G 11) L D3 a) j) (nI j) = _
        unfold fX5_digestLayers_B14
        rw [a1, if_neg (nI_ge hj (by omega)), at_in ha (by omega), lt_B, nI_up]
        rfl
      · show fX5_digestLayers_B14 G g (nI a) (fd (fun j => G 11 (6 * a + j)) (gy (G 11) L D3 a) L) (nI L) = _
        unfold fX5_digestLayers_B14
        rw [a1, if_pos (Int32.le_refl _)]
      · rw [nI_up]
        rfl
    · show fX5_digestLayers_B5 G g (gy (G 11) L D3 5) (nI 5) = _
      unfold fX5_digestLayers_B5
      rw [if_pos (by decide)]
  have B4 : lp (fun s => fX7_digest_B125 T (uS k 0 0) s.1 s.2) 6 (D3, 0) = some (D4, nI 5) := by
    rw [hD4]
    refine lp_for (fun a => (gy (G 11) L D3 a, nI a)) 5 (gy (G 11) L D3 5, nI 5) rfl (by omega) (fun a ha => ?_) ?_
    · show fX7_digest_B125 T (uS k 0 0) (gy (G 11) L D3 a) (nI a) = _
      unfold fX7_digest_B125
      rw [if_neg (show ¬ (5 : Int32) ≤ nI a from nI_ge (b := 5) ha (by decide))]
      refine b2_lp (lp_for (fun j => (fd (fun j => G 11 (6 * a + j)) (gy (G 11) L D3 a) j, nI j)) L (fd (fun j => G 11 (6 * a + j)) (gy (G 11) L D3 a) L, nI L) rfl (by omega) (fun j hj => ?_) ?_) ?_
      · show fX7_digest_B133 T (nI a) (uS k 0 0) (fd (fun j => G 11 (6 * a + j)) (gy (G 11) L D3 a) j) (nI j) = _
        unfold fX7_digest_B133
        rw [ek, if_neg (nI_ge hj (by omega)), six, gd_in (by omega) (by decide), cl_n (by omega), lt_B, nI_up, r1]
        rfl
      · show fX7_digest_B133 T (nI a) (uS k 0 0) (fd (fun j => G 11 (6 * a + j)) (gy (G 11) L D3 a) L) (nI L) = _
        unfold fX7_digest_B133
        rw [ek, if_pos (Int32.le_refl _)]
      · rw [nI_up]
        rfl
    · show fX7_digest_B125 T (uS k 0 0) (gy (G 11) L D3 5) (nI 5) = _
      unfold fX7_digest_B125
      rw [if_pos (by decide)]
  have A5 : fX5_digestWishes G g D4 = some (gw G D4 N) := by
    unfold fX5_digestWishes
    refine b2_lp (lp_for (fun l => (gw G D4 l, nI l)) N (gw G D4 N, nI N) rfl (by omega) (fun l hl => ?_) ?_) rfl
    · show fX5_digestWishes_B5 G g (gw G D4 l) (nI l) = _
      unfold fX5_digestWishes_B5
      rw [a2, if_neg (nI_ge hl (by omega))]
      refine b2_lp (lp_for (fun i => (fd (TF G l) (gw G D4 l) i, nI i)) 5 (fd (TF G l) (gw G D4 l) 5, nI 5) rfl (by omega) (fun i hi => ?_) ?_) ?_
      · show fX5_digestWishes_B23 G (nI l) (fd (TF G l) (gw G D4 l) i) (nI i) = _
        unfold fX5_digestWishes_B23
        rw [if_neg (show ¬ (4 : Int32) < nI i from nI_nlt (a := 4) (by omega) (by decide)), wishFig_in (by omega) hi, lt_B, nI_up]
        rfl
      · show fX5_digestWishes_B23 G (nI l) (fd (TF G l) (gw G D4 l) 5) (nI 5) = _
        unfold fX5_digestWishes_B23
        rw [if_pos (by decide)]
      · rw [nI_up]
        rfl
    · show fX5_digestWishes_B5 G g (gw G D4 N) (nI N) = _
      unfold fX5_digestWishes_B5
      rw [a2, if_pos (Int32.le_refl _)]
  have B5 : lp (fun s => fX7_digest_B179 T M (uS k 0 0) s.1 s.2) 25 (D4, 0) = some (gw G D4 N, nI N) := by
    refine lp_for (fun l => (gw G D4 l, nI l)) N (gw G D4 N, nI N) rfl (by omega) (fun l hl => ?_) ?_
    · show fX7_digest_B179 T M (uS k 0 0) (gw G D4 l) (nI l) = _
      unfold fX7_digest_B179
      rw [ek2, if_neg (nI_ge hl (by omega))]
      refine b2_lp (lp_for (fun i => (fd (TF G l) (gw G D4 l) i, nI i)) 5 (fd (TF G l) (gw G D4 l) 5, nI 5) rfl (by omega) (fun i hi => ?_) ?_) ?_
      · show fX7_digest_B190 T M (nI l) (fd (TF G l) (gw G D4 l) i) (nI i) = _
        unfold fX7_digest_B190
        rw [if_neg (show ¬ (4 : Int32) < nI i from nI_nlt (a := 4) (by omega) (by decide)), wishTold_in hR (by omega) hi, bd_S, lt_B, nI_up]
        rfl
      · show fX7_digest_B190 T M (nI l) (fd (TF G l) (gw G D4 l) 5) (nI 5) = _
        unfold fX7_digest_B190
        rw [if_pos (by decide)]
      · rw [nI_up]
        rfl
    · show fX7_digest_B179 T M (uS k 0 0) (gw G D4 N) (nI N) = _
      unfold fX7_digest_B179
      rw [ek2, if_pos (Int32.le_refl _)]
  refine ⟨gw G D4 N, ?_, ?_, SIM_k0 h⟩
  · unfold fX5_digest
    rw [A1, b2_S, A2, b2_S, A3, bd_S, A4, bd_S, A5, bd_S]
  · unfold fX7_digest
    rw [lt_B, B1, b2_S, B2, b2_S, B3, b2_S, B4, b2_S, B5, b2_S]
