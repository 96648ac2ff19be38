/-! what is told -/
def LF (G : Nat → Nat → Int32) (l : Nat) (w : Nat) : Int32 := if w = 0 then G 1 l else if w = 1 then G 2 l else if w = 2 then G 3 l else if w = 3 then sm (fun a => G 11 (6 * a + l)) 5 else G 4 l
theorem landFig_in {G : Nat → Nat → Int32} {l w : Nat} (hl : l < 6) (hw : w < 5) : fX3_landFigure G (nI l) (nI w) = some (LF G l w) := by
  unfold fX3_landFigure
  rw [coinsOf_in hl, rAt_in hl (by decide), rAt_in hl (by decide), rAt_in hl (by decide), rAt_in hl (by decide)]
  rcases (show w = 0 ∨ w = 1 ∨ w = 2 ∨ w = 3 ∨ w = 4 by omega) with e | e | e | e | e <;> subst e <;> rfl
theorem landTold_in {T M : Nat → Nat → Int32} {G : Nat → Nat → Int32} {g t k : Nat → Int32} (hR : RW G g T t M k) {l w : Nat} (hl : l < 6) (hw : w < 5) : fX7_landTold T M (nI l) (nI w) = some (LF G l w) := by
  obtain ⟨⟨r1, r2, r3, r4⟩, ⟨b1, b2, b3, b4, b5, b6, b7, b8⟩, -, -⟩ := hR
  have g5 : ∀ {α : Type} (i : Nat) (hi : i < 5) (x : Option α), gd (vp_in (nI i) 5) x = x := fun i hi x => gd_in hi (by decide)
  unfold fX7_landTold
  rw [m_all hl]
  simp only [gd_in hl (show (6 : Nat) < 2 ^ 31 by decide), lt_B, bd_S, cl_n (show l < 2 ^ 31 by omega), r1, r2, b1, b2, b4]
  rw [show (0 : Int32) = nI 0 from rfl, show (1 : Int32) = nI 1 from rfl, show (2 : Int32) = nI 2 from rfl, show (3 : Int32) = nI 3 from rfl, show (4 : Int32) = nI 4 from rfl]
  rw [g5 0 (by decide), g5 1 (by decide), g5 2 (by decide), g5 3 (by decide), g5 4 (by decide), g5 w hw, cl_n (by decide), cl_n (by decide), cl_n (by decide), cl_n (by decide), cl_n (by decide), cl_n (show w < 2 ^ 31 by omega)]
  rcases (show w = 0 ∨ w = 1 ∨ w = 2 ∨ w = 3 ∨ w = 4 by omega) with e | e | e | e | e <;> subst e <;> rfl
def TF (G : Nat → Nat → Int32) (l : Nat) (w : Nat) : Int32 := if w = 0 then G 6 l else if w = 1 then G 7 l else if w = 2 then G 8 l else if w = 3 then G 9 l else G 10 l
theorem wishFig_in {G : Nat → Nat → Int32} {l w : Nat} (hl : l < 24) (hw : w < 5) : fX4_figure G (nI l) (nI w) = TF G l w := by
  unfold fX4_figure
  rw [rAt_in hl (by decide), rAt_in hl (by decide), rAt_in hl (by decide), rAt_in hl (by decide), rAt_in hl (by decide)]
  rcases (show w = 0 ∨ w = 1 ∨ w = 2 ∨ w = 3 ∨ w = 4 by omega) with e | e | e | e | e <;> subst e <;> rfl
theorem wishTold_in {T M : Nat → Nat → Int32} {G : Nat → Nat → Int32} {g t k : Nat → Int32} (hR : RW G g T t M k) {l w : Nat} (hl : l < 24) (hw : w < 5) : fX7_wishTold T M (nI l) (nI w) = some (TF G l w) := by
  obtain ⟨⟨r1, r2, r3, r4⟩, ⟨b1, b2, b3, b4, b5, b6, b7, b8⟩, -, -⟩ := hR
  have g5 : ∀ {α : Type} (i : Nat) (hi : i < 5) (x : Option α), gd (vp_in (nI i) 5) x = x := fun i hi x => gd_in hi (by decide)
  unfold fX7_wishTold
  simp only [gd_in hl (show (24 : Nat) < 2 ^ 31 by decide), lt_B, bd_S, cl_n (show l < 2 ^ 31 by omega), r3, r4, b6, b7, b8]
  rw [show (0 : Int32) = nI 0 from rfl, show (1 : Int32) = nI 1 from rfl, show (2 : Int32) = nI 2 from rfl, show (3 : Int32) = nI 3 from rfl, show (4 : Int32) = nI 4 from rfl]
  rw [g5 0 (by decide), g5 1 (by decide), g5 2 (by decide), g5 3 (by decide), g5 4 (by decide), g5 w hw, cl_n (by decide), cl_n (by decide), cl_n (by decide), cl_n (by decide), cl_n (by decide), cl_n (show w < 2 ^ 31 by omega)]
  rcases (show w = 0 ∨ w = 1 ∨ w = 2 ∨ w = 3 ∨ w = 4 by omega) with e | e | e | e | e <;> subst e <;> rfl
def MS (G : Nat → Nat → Int32) (l : Nat) : Int32 := ((G 3 l - sm (fun a => G 11 (6 * a + l)) 5) - G 4 l) - G 5 l
theorem missing_in {G : Nat → Nat → Int32} {l : Nat} (hl : l < 6) : fX3_missingCoins G (nI l) = some (MS G l) := by
  unfold fX3_missingCoins
  rw [coinsOf_in hl, bd_S, rAt_in hl (by decide), rAt_in hl (by decide), rAt_in hl (by decide)]
  rfl
theorem missed_in {T M : Nat → Nat → Int32} {G : Nat → Nat → Int32} {g t k : Nat → Int32} (hR : RW G g T t M k) {l : Nat} (hl : l < 6) : fX7_missed T M (nI l) = some (MS G l) := by
  obtain ⟨⟨r1, r2, r3, r4⟩, ⟨b1, b2, b3, b4, b5, b6, b7, b8⟩, -, -⟩ := hR
  unfold fX7_missed
  rw [gd_in hl (by decide), m_all hl, bd_S, gd_in hl (by decide), gd_in hl (by decide), cl_n (by omega), r1, r2, b4, b5]
  rfl
def CF (G : Nat → Nat → Int32) (g : Nat → Int32) (N : Nat) (w : Nat) : Int32 := if w = 0 then g 0 else if w = 1 then g 5 else if w = 2 then g 6 else if w = 3 then hm (G 9) 0 N else if w = 4 then hm (G 9) 1 N else if w = 5 then g 1 else if w = 6 then g 2 else if w = 7 then sm (cI_ (G 11)) 5 else if w = 8 then sm (vI (G 11) (G 1)) 5 else if w = 9 then g 3 else g 4
theorem figure_in {L N B d : Nat} {G : Nat → Nat → Int32} {g : Nat → Int32} (hW : WF L N B d G g) {w : Nat} (hw : w < 11) : fX3_figure G g (nI w) = some (CF G g N w) := by
  obtain ⟨⟨a1, a2, a3⟩, ⟨w1, w2, w3⟩, wt, ⟨ww1, ww2, ww3⟩, wp⟩ := hW
  unfold fX3_figure
  rw [howMany_in a2 ww1, howMany_in a2 ww1, coinsInAll_in, valueOfAll_in a1 w1 (fun j h1 h2 => w3 j h1)]
  rcases (show w = 0 ∨ w = 1 ∨ w = 2 ∨ w = 3 ∨ w = 4 ∨ w = 5 ∨ w = 6 ∨ w = 7 ∨ w = 8 ∨ w = 9 ∨ w = 10 by omega) with e | e | e | e | e | e | e | e | e | e | e <;> subst e <;> rfl
theorem counted_in {L N B d : Nat} {T M : Nat → Nat → Int32} {G : Nat → Nat → Int32} {g t k : Nat → Int32} (hW : WF L N B d G g) (hR : RW G g T t M k) {w : Nat} (hw : w < 11) : fX7_counted T t M k (nI w) = some (CF G g N w) := by
  obtain ⟨⟨a1, a2, a3⟩, ⟨w1, w2, w3⟩, wt, ⟨ww1, ww2, ww3, ww4⟩, wp⟩ := hW
  obtain ⟨⟨r1, r2, r3, r4⟩, ⟨b1, b2, b3, b4, b5, b6, b7, b8⟩, ⟨c1, c2, c3⟩, ⟨d1, d2, d3, d4⟩⟩ := hR
  have g5 : ∀ {α : Type} (i : Nat) (hi : i < 11) (x : Option α), gd (vp_in (nI i) 11) x = x := fun i hi x => gd_in hi (by decide)
  have g3 : ∀ {α : Type} (i : Nat) (hi : i < 3) (x : Option α), gd (vp_in (nI i) 3) x = x := fun i hi x => gd_in hi (by decide)
  have hh := m_how (T := T) (k := k) (N := N) (by rw [d2, a2]) ww1 (by rw [r3]; exact ww3)
  have h0 : Hf (T 2) N 0 = hm (G 9) 0 N := by unfold Hf; rw [if_pos (by decide), r3]; rfl
  have h1 : Hf (T 2) N 1 = hm (G 9) 1 N := by unfold Hf; rw [if_pos (by decide), r3]; rfl
  unfold fX7_counted
  rw [lt_B, hh, b2_S, m_countCoins, b2_S]
  rw [m_allWorth]
  simp only [lt_B, bd_S]
  rw [show (0 : Int32) = nI 0 from rfl, show (1 : Int32) = nI 1 from rfl, show (2 : Int32) = nI 2 from rfl, show (3 : Int32) = nI 3 from rfl, show (4 : Int32) = nI 4 from rfl, show (5 : Int32) = nI 5 from rfl, show (6 : Int32) = nI 6 from rfl, show (7 : Int32) = nI 7 from rfl, show (8 : Int32) = nI 8 from rfl, show (9 : Int32) = nI 9 from rfl, show (10 : Int32) = nI 10 from rfl]
  rw [g5 0 (by decide), g5 1 (by decide), g5 2 (by decide), g3 0 (by decide), g5 3 (by decide), g3 1 (by decide), g5 4 (by decide), g5 5 (by decide), g5 6 (by decide), g5 7 (by decide), g5 8 (by decide), g5 9 (by decide), g5 10 (by decide), g5 w hw]
  rw [cl_n (show 0 < 2 ^ 31 by decide), cl_n (show 1 < 2 ^ 31 by decide), cl_n (show 2 < 2 ^ 31 by decide), cl_n (show 3 < 2 ^ 31 by decide), cl_n (show 4 < 2 ^ 31 by decide), cl_n (show 5 < 2 ^ 31 by decide), cl_n (show 6 < 2 ^ 31 by decide), cl_n (show 7 < 2 ^ 31 by decide), cl_n (show 8 < 2 ^ 31 by decide), cl_n (show 9 < 2 ^ 31 by decide), cl_n (show 10 < 2 ^ 31 by decide), cl_n (show w < 2 ^ 31 by omega), h0, h1, c1, c2, c3, d1, d2, d3, d4, r1, b1]
  rcases (show w = 0 ∨ w = 1 ∨ w = 2 ∨ w = 3 ∨ w = 4 ∨ w = 5 ∨ w = 6 ∨ w = 7 ∨ w = 8 ∨ w = 9 ∨ w = 10 by omega) with e | e | e | e | e | e | e | e | e | e | e <;> subst e <;> rfl
theorem op_missing {n : Nat} {G J V T M : Nat → Nat → Int32} {g t k : Nat → Int32} (h : SIM n G g J V T t M k) (p0 : Int32) :
    (∃ r k', fX5_missing G g p0 = some (.inr r) ∧ fX7_missing T M k p0 = some (r, k') ∧ k' 0 = 0 ∧ SIM (n + 1) G g J V T t M k') ∨
    ∃ s c b k', (s = IX ∧ c = 1) ∧ fX5_missing G g p0 = some (.inl s) ∧ fX7_missing T M k p0 = some (b, k') ∧ k' 0 = c ∧ SIM (n + 1) G g J V T t M k' := by
  unfold fX5_missing fX7_missing
  rw [lt_B (uS k 0 0)]
  obtain ⟨L, N, B, d, hW, hR, -⟩ := id h
  have hL6 := hW.2.1.1
  rcases isL p0 hW.1.1 (show uS k 0 0 1 = nI L by rw [uS_n (by decide), hR.2.2.2.1]; exact hW.1.1) (by omega) with ⟨c, c'⟩ | ⟨l, hl, rfl, c, c'⟩
  · right
    exact ⟨IX, 1, 0, _, ⟨rfl, rfl⟩, if_pos c, by rw [if_pos c', no_, b2_S], uS_s, SIM_no h⟩
  rw [if_neg c, if_neg c']
  left
  exact ⟨MS G l, uS k 0 0, by rw [missing_in (by omega), bd_S], by rw [missed_in hR (by omega), bd_S], uS_s, SIM_k0 h⟩
theorem op_land {n : Nat} {G J V T M : Nat → Nat → Int32} {g t k : Nat → Int32} (h : SIM n G g J V T t M k) (p0 p1 : Int32) :
    (∃ r k', fX5_land G g p0 p1 = some (.inr r) ∧ fX7_land T M k p0 p1 = some (r, k') ∧ k' 0 = 0 ∧ SIM (n + 1) G g J V T t M k') ∨
    ∃ s c b k', (s = IX ∧ c = 1) ∧ fX5_land G g p0 p1 = some (.inl s) ∧ fX7_land T M k p0 p1 = some (b, k') ∧ k' 0 = c ∧ SIM (n + 1) G g J V T t M k' := by
  unfold fX5_land fX7_land
  rw [lt_B (uS k 0 0)]
  obtain ⟨L, N, B, d, hW, hR, -⟩ := id h
  have hL6 := hW.2.1.1
  rcases isL p0 hW.1.1 (show uS k 0 0 1 = nI L by rw [uS_n (by decide), hR.2.2.2.1]; exact hW.1.1) (by omega) with ⟨c, c'⟩ | ⟨l, hl, rfl, c, c'⟩
  · right
    exact ⟨IX, 1, 0, _, ⟨rfl, rfl⟩, if_pos c, by rw [if_pos c', no_, b2_S], uS_s, SIM_no h⟩
  rw [if_neg c, if_neg c']
  rcases wi p1 0 4 (by decide) (by decide) with ⟨c, c'⟩ | ⟨v, v1, v2, rfl, c, c'⟩
  · right
    exact ⟨IX, 1, 0, _, ⟨rfl, rfl⟩, if_pos c, by rw [if_pos (show fX7_isIn p1 0 4 = 0 from c'), no_, b2_S], uS_s, SIM_no h⟩
  rw [if_neg (show ¬ fX5_within (nI v) 0 4 = 0 from c), if_neg (show ¬ fX7_isIn (nI v) 0 4 = 0 from c')]
  left
  exact ⟨LF G l v, uS k 0 0, by rw [landFig_in (by omega) (by omega), bd_S], by rw [landTold_in hR (by omega) (by omega), bd_S], uS_s, SIM_k0 h⟩
theorem op_coins {n : Nat} {G J V T M : Nat → Nat → Int32} {g t k : Nat → Int32} (h : SIM n G g J V T t M k) (p0 p1 : Int32) :
    (∃ r k', fX5_coins G g p0 p1 = some (.inr r) ∧ fX7_coins T k p0 p1 = some (r, k') ∧ k' 0 = 0 ∧ SIM (n + 1) G g J V T t M k') ∨
    ∃ s c b k', (s = IX ∧ c = 1) ∧ fX5_coins G g p0 p1 = some (.inl s) ∧ fX7_coins T k p0 p1 = some (b, k') ∧ k' 0 = c ∧ SIM (n + 1) G g J V T t M k' := by
  unfold fX5_coins fX7_coins
  rw [lt_B (uS k 0 0), isLay]
  obtain ⟨L, N, B, d, hW, hR, -⟩ := id h
  have hL6 := hW.2.1.1
  rcases wi p0 0 4 (by decide) (by decide) with ⟨c, c'⟩ | ⟨v, v1, v2, rfl, c, c'⟩
  · right
    exact ⟨IX, 1, 0, _, ⟨rfl, rfl⟩, if_pos c, by rw [if_pos (show fX7_isIn p0 0 4 = 0 from c'), no_, b2_S], uS_s, SIM_no h⟩
  rw [if_neg (show ¬ fX5_within (nI v) 0 4 = 0 from c), if_neg (show ¬ fX7_isIn (nI v) 0 4 = 0 from c')]
  rcases isL p1 hW.1.1 (show uS k 0 0 1 = nI L by rw [uS_n (by decide), hR.2.2.2.1]; exact hW.1.1) (by omega) with ⟨c, c'⟩ | ⟨l, hl, rfl, c, c'⟩
  · right
    exact ⟨IX, 1, 0, _, ⟨rfl, rfl⟩, if_pos c, by rw [if_pos c', no_, b2_S], uS_s, SIM_no h⟩
  rw [if_neg c, if_neg c']
  left
  exact ⟨G 11 (6 * v + l), uS k 0 0, by rw [at_in (by omega) (by omega)], by rw [six, gd_in (by omega) (by decide), cl_n (by omega), hR.1.1], uS_s, SIM_k0 h⟩
theorem op_told {n : Nat} {G J V T M : Nat → Nat → Int32} {g t k : Nat → Int32} (h : SIM n G g J V T t M k) (p0 p1 : Int32) :
    (∃ r k', fX5_told G g p0 p1 = some (.inr r) ∧ fX7_told T M k p0 p1 = some (r, k') ∧ k' 0 = 0 ∧ SIM (n + 1) G g J V T t M k') ∨
    ∃ s c b k', (s = IX ∧ c = 1) ∧ fX5_told G g p0 p1 = some (.inl s) ∧ fX7_told T M k p0 p1 = some (b, k') ∧ k' 0 = c ∧ SIM (n + 1) G g J V T t M k' := by
  unfold fX5_told fX7_told
  rw [lt_B (uS k 0 0)]
  obtain ⟨L, N, B, d, hW, hR, -⟩ := id h
  have hN := hW.2.2.2.1.1
  rcases isW p0 hW.1.2.1 (show uS k 0 0 2 = nI N by rw [uS_n (by decide), hR.2.2.2.2.1]; exact hW.1.2.1) (by omega) with ⟨c, c'⟩ | ⟨l, hl, rfl, c, c'⟩
  · right
    exact ⟨IX, 1, 0, _, ⟨rfl, rfl⟩, if_pos c, by rw [if_pos c', no_, b2_S], uS_s, SIM_no h⟩
  rw [if_neg c, if_neg c']
  rcases wi p1 0 4 (by decide) (by decide) with ⟨c, c'⟩ | ⟨v, v1, v2, rfl, c, c'⟩
  · right
    exact ⟨IX, 1, 0, _, ⟨rfl, rfl⟩, if_pos c, by rw [if_pos (show fX7_isIn p1 0 4 = 0 from c'), no_, b2_S], uS_s, SIM_no h⟩
  rw [if_neg (show ¬ fX5_within (nI v) 0 4 = 0 from c), if_neg (show ¬ fX7_isIn (nI v) 0 4 = 0 from c')]
  left
  exact ⟨TF G l v, uS k 0 0, by rw [wishFig_in (by omega) (by omega)], by rw [wishTold_in hR (by omega) (by omega), bd_S], uS_s, SIM_k0 h⟩
theorem op_count {n : Nat} {G J V T M : Nat → Nat → Int32} {g t k : Nat → Int32} (h : SIM n G g J V T t M k) (p0 : Int32) :
    (∃ r k', fX5_count G g p0 = some (.inr r) ∧ fX7_count T t M k p0 = some (r, k') ∧ k' 0 = 0 ∧ SIM (n + 1) G g J V T t M k') ∨
    ∃ s c b k', (s = IX ∧ c = 1) ∧ fX5_count G g p0 = some (.inl s) ∧ fX7_count T t M k p0 = some (b, k') ∧ k' 0 = c ∧ SIM (n + 1) G g J V T t M k' := by
  unfold fX5_count fX7_count
  rw [lt_B (uS k 0 0)]
  obtain ⟨L, N, B, d, hW, hR, -⟩ := id h
  rcases wi p0 0 10 (by decide) (by decide) with ⟨c, c'⟩ | ⟨v, v1, v2, rfl, c, c'⟩
  · right
    exact ⟨IX, 1, 0, _, ⟨rfl, rfl⟩, if_pos c, by rw [if_pos (show fX7_isIn p0 0 10 = 0 from c'), no_, b2_S], uS_s, SIM_no h⟩
  rw [if_neg (show ¬ fX5_within (nI v) 0 10 = 0 from c), if_neg (show ¬ fX7_isIn (nI v) 0 10 = 0 from c')]
  left
  exact ⟨CF G g N v, uS k 0 0, by rw [figure_in hW (by omega), bd_S], by rw [counted_in hW (RW_k0 hR) (by omega), bd_S], uS_s, SIM_k0 h⟩
theorem op_next {n : Nat} {G J V T M : Nat → Nat → Int32} {g t k : Nat → Int32} (h : SIM n G g J V T t M k) (p0 : Int32) :
    (∃ r k', fX5_next G g p0 = some (.inr r) ∧ fX7_next T M k p0 = some (r, k') ∧ k' 0 = 0 ∧ SIM (n + 1) G g J V T t M k') ∨
    ∃ s c b k', (s = IX ∧ c = 1) ∧ fX5_next G g p0 = some (.inl s) ∧ fX7_next T M k p0 = some (b, k') ∧ k' 0 = c ∧ SIM (n + 1) G g J V T t M k' := by
  unfold fX5_next fX7_next
  rw [lt_B (uS k 0 0)]
  obtain ⟨L, N, B, d, hW, hR, -⟩ := id h
  obtain ⟨⟨a1, a2, a3⟩, ⟨w1, w2, w3⟩, wt, ⟨ww1, ww2, ww3, ww4⟩, wp⟩ := hW
  obtain ⟨⟨r1, r2, r3, r4⟩, ⟨b1, b2, b3, b4, b5, b6, b7, b8⟩, ⟨c1, c2, c3⟩, ⟨d1, d2, d3, d4⟩⟩ := hR
  by_cases c : fX5_within p0 0 3 = 0
  · right
    exact ⟨IX, 1, 0, _, ⟨rfl, rfl⟩, if_pos c, by rw [if_pos (show fX7_isIn p0 0 3 = 0 from c), no_, b2_S], uS_s, SIM_no h⟩
  · left
    refine ⟨eo (bsel (cWish (G 9) (G 6) p0) (cvX (G 1) (G 7)) N), uS k 0 0, ?_, ?_, uS_s, SIM_k0 h⟩
    · rw [if_neg c, nextWish_in a2 ww1 ww2 w1 w2, bd_S]
    · rw [if_neg (show ¬ fX7_isIn p0 0 3 = 0 from c), m_next (N := N) (L := L) (by rw [uS_n (by decide), d2, a2]) ww1 (by rw [b7]; exact ww2) w1, bd_S, r3, b6, b1, b7]
theorem op_pass {n : Nat} {G J V T M : Nat → Nat → Int32} {g t k : Nat → Int32} (h : SIM n G g J V T t M k) (hn : n ≤ 1000) (p0 : Int32) :
    (∃ r G' g' T' t' k', fX5_pass G g p0 = some (.inr (r, G', g')) ∧ fX7_pass T t M k p0 = some (r, T', t', k') ∧ k' 0 = 0 ∧ SIM (n + 1) G' g' J V T' t' M k') ∨
    ∃ s c b k', (s = IA ∧ c = 1) ∧ fX5_pass G g p0 = some (.inl s) ∧ fX7_pass T t M k p0 = some (b, T, t, k') ∧ k' 0 = c ∧ SIM (n + 1) G g J V T t M k' := by
  unfold fX5_pass fX7_pass
  rw [lt_B (uS k 0 0)]
  obtain ⟨L, N, B, d, hW, hR, hZ, hJ, hV, hB, hd⟩ := id h
  rcases wi p0 1 100 (by decide) (by decide) with ⟨c, c'⟩ | ⟨v, v1, v2, rfl, c, c'⟩
  · right
    exact ⟨IA, 1, 0, _, ⟨rfl, rfl⟩, if_pos c, by rw [if_pos (show fX7_isIn p0 1 100 = 0 from c'), no_, b2_S], uS_s, SIM_no h⟩
  rw [if_neg (show ¬ fX5_within (nI v) 1 100 = 0 from c), if_neg (show ¬ fX7_isIn (nI v) 1 100 = 0 from c')]
  left
  obtain ⟨X, Y, x0, y0, hst, hall⟩ := sim_days v hW (RW_k0 (x := 0) hR) hZ (by omega) (by omega)
  obtain ⟨f1, f2, f3⟩ := hall v (Nat.le_refl v)
  refine ⟨(X v).1, (X v).2.1, (X v).2.2, (Y v).1, (Y v).2, uS k 0 0, ?_, ?_, uS_s, L, N, _, _, f1, f2, f3, hJ, hV, by omega, by omega⟩
  · have e : fX3_liveDays G g (nI v) = some ((X v).1, (X v).2.1, (X v).2.2) := by
      unfold fX3_liveDays
      refine b4_lp (lp_for (fun i => ((X i).1, nI i, (X i).2.1, (X i).2.2)) v ((X v).1, nI v, (X v).2.1, (X v).2.2) ?_ (by omega) (fun i hi => ?_) ?_) rfl
      · show (0, 0, G, g) = ((X 0).1, nI 0, (X 0).2.1, (X 0).2.2)
        rw [x0]; rfl
      · show fX3_liveDays_B4 (nI v) (X i).1 (nI i) (X i).2.1 (X i).2.2 = _
        unfold fX3_liveDays_B4
        obtain ⟨r, s1, s2, s3, -⟩ := hst i hi
        rw [if_neg (nI_ge hi (by omega)), s1]
        show (if r = 0 then _ else _) = _
        rw [nI_up]
        rcases s3 with ⟨e1, e2⟩ | ⟨e1, e2⟩
        · rw [if_pos e1, e2]
        · rw [if_neg (by rw [e1]; decide), e2]
      · show fX3_liveDays_B4 (nI v) (X v).1 (nI v) (X v).2.1 (X v).2.2 = _
        unfold fX3_liveDays_B4
        rw [if_pos (Int32.le_refl _)]
    rw [e, b3_S]
  · refine b4_lp (lp_for (fun i => ((X i).1, nI i, (Y i).1, (Y i).2)) v ((X v).1, nI v, (Y v).1, (Y v).2) ?_ (by omega) (fun i hi => ?_) ?_) rfl
    · show (0, 0, T, t) = ((X 0).1, nI 0, (Y 0).1, (Y 0).2)
      rw [x0, y0]; rfl
    · show fX7_pass_B25 M (nI v) (uS k 0 0) (X i).1 (nI i) (Y i).1 (Y i).2 = _
      unfold fX7_pass_B25
      obtain ⟨r, s1, s2, s3, -⟩ := hst i hi
      rw [if_neg (nI_ge hi (by omega)), s2]
      show (if r = 0 then _ else _) = _
      rw [nI_up]
      rcases s3 with ⟨e1, e2⟩ | ⟨e1, e2⟩
      · rw [if_pos e1, e2, lt_B, Int32.add_zero]
      · rw [if_neg (by rw [e1]; decide), e2, lt_B]
    · show fX7_pass_B25 M (nI v) (uS k 0 0) (X v).1 (nI v) (Y v).1 (Y v).2 = _
      unfold fX7_pass_B25
      rw [if_pos (Int32.le_refl _)]
theorem same_richest {n : Nat} {G J V T M : Nat → Nat → Int32} {g t k : Nat → Int32} (h : SIM n G g J V T t M k) : ∃ r, fX5_richest G g = some r ∧ fX7_richest T M k = some (r, uS k 0 0) ∧ SIM (n + 1) G g J V T t M (uS k 0 0) := by
  obtain ⟨L, N, B, d, hW, hR, -⟩ := id h
  obtain ⟨⟨a1, a2, a3⟩, ⟨w1, w2, w3⟩, wt, ⟨ww1, ww2, ww3, ww4⟩, wp⟩ := hW
  obtain ⟨S, hS⟩ : ∃ S : Nat → Int32 × Int32, S 0 = (-1, 0) ∧ ∀ i, S (i + 1) = if vI (G 11) (G 1) i ≤ (S i).2 then S i else (nI i, vI (G 11) (G 1) i) :=
    ⟨fun i => Nat.rec (-1, 0) (fun i s => if vI (G 11) (G 1) i ≤ s.2 then s else (nI i, vI (G 11) (G 1) i)) i, rfl, fun _ => rfl⟩
  refine ⟨(S 5).1, ?_, ?_, SIM_k0 h⟩
  · unfold fX5_richest
    refine b3_lp (lp_for (fun i => ((S i).1, (S i).2, nI i)) 5 ((S 5).1, (S 5).2, nI 5) ?_ (by omega) (fun i hi => ?_) ?_) rfl
    · show ((-1 : Int32), (0 : Int32), (0 : Int32)) = ((S 0).1, (S 0).2, nI 0)
      rw [hS.1]; rfl
    · show fX5_richest_B6 G g (S i).1 (S i).2 (nI i) = _
      unfold fX5_richest_B6
      rw [if_neg (show ¬ (5 : Int32) ≤ nI i from nI_ge (b := 5) hi (by decide)), valueIn_in a1 w1 (fun j h1 h2 => w3 j h1) hi, bd_S, nI_up, hS.2]
      split
      · rfl
      · rfl
    · show fX5_richest_B6 G g (S 5).1 (S 5).2 (nI 5) = _
      unfold fX5_richest_B6
      rw [if_pos (by decide)]
  · unfold fX7_richest
    rw [lt_B]
    refine b3_lp (lp_for (fun i => ((S i).1, (S i).2, nI i)) 5 ((S 5).1, (S 5).2, nI 5) ?_ (by omega) (fun i hi => ?_) ?_) rfl
    · show ((-1 : Int32), (0 : Int32), (0 : Int32)) = ((S 0).1, (S 0).2, nI 0)
      rw [hS.1]; rfl
    · show fX7_richest_B11 T M (S i).1 (S i).2 (nI i) = _
      unfold fX7_richest_B11
      rw [if_neg (show ¬ (5 : Int32) ≤ nI i from nI_ge (b := 5) hi (by decide)), m_worth hi, bd_S, bd_S, nI_up, hS.2, hR.1.1, hR.2.1.1]
      by_cases c : vI (G 11) (G 1) i ≤ (S i).2
      · rw [if_pos c, if_neg (Int32.not_lt.mpr c)]
      · rw [if_neg c, if_pos (Int32.not_le.mp c)]
    · show fX7_richest_B11 T M (S 5).1 (S 5).2 (nI 5) = _
      unfold fX7_richest_B11
      rw [if_pos (by decide)]
