/-! the reference's way -/
def eqN (a : Nat) (F : Nat → Int32) (D : Nat → Nat) : Prop := ∀ s, s ≤ a → F s = nI (D s)
theorem dOk_lt {a : Nat} {D : Nat → Nat} (ha : a ≤ 300) (hD : dOk a D) {s : Nat} (hs : s ≤ a) : D s ≤ 999 := by
  have := hD s hs
  omega
theorem m70_in {M : Nat → Nat → Int32} {a s v l C : Nat} {f : Nat → Int32} {D E : Nat → Nat} (ha : a ≤ 300) (hs : s ≤ a) (hs1 : 1 ≤ s) (hl : l < 6) (hv : 1 ≤ v) (hv5 : v ≤ 50) (ev : M 0 l = nI v) (hC : C < 2 ^ 30) (hD : dOk a D) (hE : E = mnv D v C) (hf : ∀ q, q ≤ a → f q = nI (if s < q then E q else D q)) :
    ∃ r, lp (fun z : Int32 × (Nat → Int32) => fX7_change_B70 M (nI a) (nI l) (nI s) (nI C) z.1 z.2) 302 (1, f) = some r ∧ ∀ q, q ≤ a → r.2 q = nI (if s - 1 < q then E q else D q) := by
  obtain ⟨n, hn⟩ : ∃ n, n = min (s / v) C := ⟨_, rfl⟩
  have hns : n ≤ s := by rw [hn]; exact Nat.le_trans (Nat.min_le_left _ _) (Nat.div_le_self _ _)
  have hDE : mnv D v n s = E s := by rw [hn, hE, mn_cap hv (Nat.le_refl s)]
  refine lp_rel (fun (i : Nat) (z : Int32 × (Nat → Int32)) => z.1 = nI (i + 1) ∧ ∀ q, q ≤ a → z.2 q = nI (if q = s then mnv D v i s else if s < q then E q else D q)) (fun (r : Int32 × (Nat → Int32)) => ∀ q, q ≤ a → r.2 q = nI (if s - 1 < q then E q else D q)) n ⟨rfl, fun q hq => ?_⟩ (by omega) ?_ ?_
  · show f q = _
    rw [hf q hq]
    by_cases c : q = s
    · subst c; rw [if_neg (by omega), if_pos rfl]; rfl
    · rw [if_neg c]
  · rintro i ⟨x, y⟩ hi ⟨h1, h2⟩
    dsimp only at h1 h2 ⊢
    have hn1 : n ≤ s / v := by rw [hn]; exact Nat.min_le_left _ _
    have hn2 : n ≤ C := by rw [hn]; exact Nat.min_le_right _ _
    have hiv : (i + 1) * v ≤ s := (Nat.le_div_iff_mul_le (by omega)).mp (by omega)
    have hiC : i + 1 ≤ C := by omega
    obtain ⟨w, hw⟩ : ∃ w, w = (i + 1) * v := ⟨_, rfl⟩
    have hw1 : 1 ≤ w := by rw [hw]; exact Nat.mul_pos (by omega) hv
    rw [← hw] at hiv
    have ea : nI a + 1 = nI (a + 1) := nI_1 a
    have es : y s = nI (mnv D v i s) := by rw [h2 s hs, if_pos rfl]
    have ew : y (s - w) = nI (D (s - w)) := by rw [h2 (s - w) (by omega), if_neg (by omega), if_neg (by omega)]
    have b1 := dOk_lt ha hD (show s - w ≤ a by omega)
    have b2 := dOk_lt ha (mn_ok (t := i) hv ha hD) hs
    have emin : (if nI (D (s - w)) + nI (i + 1) < nI (mnv D v i s) then nI (D (s - w)) + nI (i + 1) else nI (mnv D v i s)) = nI (mnv D v (i + 1) s) := by
      have : mnv D v (i + 1) s = min (mnv D v i s) (D (s - w) + (i + 1)) := by
        rw [hw]; show (if (i + 1) * v ≤ s then _ else _) = _
        rw [if_pos (by omega)]
      rw [nI_add, this]
      by_cases c : D (s - w) + (i + 1) < mnv D v i s
      · rw [if_pos (nI_lt c (by omega)), Nat.min_eq_right (by omega)]
      · rw [if_neg (nI_nlt (by omega) (by omega)), Nat.min_eq_left (by omega)]
    unfold fX7_change_B70
    rw [h1, if_neg (nI_nlt (by omega) (by omega)), gd_in hl (by decide), cl_n (show l < 2 ^ 31 by omega), ev, pk_mul, ← hw, if_neg (nI_nlt (by omega) (by omega)), ea, cl_n (show a + 1 < 2 ^ 31 by omega), gd_in (by omega) (by omega), gd_in hl (by decide), pk_sub (by omega), gd_in (by omega) (by omega), gd_in (by omega) (by omega), cl_n (show s < 2 ^ 31 by omega), cl_n (show s - w < 2 ^ 31 by omega), es, ew, emin, lt_B, nI_up]
    refine ⟨_, rfl, rfl, fun q hq => ?_⟩
    show upd y s (nI (mnv D v (i + 1) s)) q = _
    by_cases c : q = s
    · subst c; rw [pk_us, if_pos rfl]
    · rw [pk_un c, h2 q hq, if_neg c, if_neg c]
  · rintro ⟨x, y⟩ ⟨h1, h2⟩
    dsimp only at h1 h2 ⊢
    refine ⟨(x, y), ?_, fun q hq => ?_⟩
    · unfold fX7_change_B70
      rw [h1]
      by_cases c : C < n + 1
      · rw [if_pos (nI_lt c (by omega))]
      · have hlt : s < (n + 1) * v := by
          have hq : n = s / v := by
            rw [hn] at c ⊢
            rcases Nat.le_total (s / v) C with q | q
            · rw [Nat.min_eq_left q]
            · rw [Nat.min_eq_right q] at c; omega
          rw [hq, Nat.add_mul, Nat.one_mul]
          have := Nat.div_add_mod s v
          have := Nat.mod_lt s (show v > 0 by omega)
          have hc : s / v * v = v * (s / v) := Nat.mul_comm _ _
          omega
        have hlt2 : (n + 1) * v < 2 ^ 31 := by
          have : (n + 1) * v ≤ 301 * 50 := Nat.mul_le_mul (by omega) hv5
          omega
        rw [if_neg (nI_nlt (by omega) (by omega)), gd_in hl (by decide), cl_n (show l < 2 ^ 31 by omega), ev, pk_mul, if_pos (nI_lt hlt hlt2)]
    · show y q = _
      rw [h2 q hq]
      by_cases c : q = s
      · subst c; rw [if_pos rfl, if_pos (by omega), hDE]
      · rw [if_neg c]
        by_cases c2 : s < q
        · rw [if_pos c2, if_pos (by omega)]
        · rw [if_neg c2, if_neg (by omega)]
theorem m62_in {M : Nat → Nat → Int32} {a v l C : Nat} {f : Nat → Int32} {D : Nat → Nat} (ha : a ≤ 300) (hl : l < 6) (hv : 1 ≤ v) (hv5 : v ≤ 50) (ev : M 0 l = nI v) (hC : C < 2 ^ 30) (hD : dOk a D) (hf : eqN a f D) :
    ∃ r, lp (fun z : Int32 × (Nat → Int32) => fX7_change_B62 M (nI a) (nI l) (nI C) z.1 z.2) 302 (nI a, f) = some r ∧ eqN a r.2 (mnv D v C) := by
  refine lp_rel (fun (i : Nat) (z : Int32 × (Nat → Int32)) => z.1 = nI (a - i) ∧ ∀ q, q ≤ a → z.2 q = nI (if a - i < q then mnv D v C q else D q)) (fun (r : Int32 × (Nat → Int32)) => eqN a r.2 (mnv D v C)) a ⟨by rw [Nat.sub_zero], fun q hq => ?_⟩ (by omega) ?_ ?_
  · show f q = _
    rw [hf q hq, if_neg (by omega)]
  · rintro i ⟨x, y⟩ hi ⟨h1, h2⟩
    dsimp only at h1 h2 ⊢
    obtain ⟨r, e, hr⟩ := m70_in ha (show a - i ≤ a by omega) (by omega) hl hv hv5 ev hC hD rfl h2
    unfold fX7_change_B62
    rw [h1, if_neg (nI_nle (by omega) (by omega))]
    have e' : lp (fun z : Int32 × (Nat → Int32) => fX7_change_B70 M (nI a) (nI l) (nI (a - i)) (nI C) z.1 z.2) 302 (1, y) = some (r.1, r.2) := by rw [e]
    refine ⟨_, b2_lp e' rfl, ?_, ?_⟩
    · show nI (a - i) + -1 = nI (a - (i + 1))
      obtain ⟨m, hm⟩ : ∃ m, a - i = m + 1 := ⟨a - i - 1, by omega⟩
      rw [hm, show a - (i + 1) = m by omega]
      exact pk_m1 m
    · intro q hq
      show r.2 q = _
      rw [hr q hq, show a - i - 1 = a - (i + 1) by omega]
  · rintro ⟨x, y⟩ ⟨h1, h2⟩
    dsimp only at h1 h2 ⊢
    refine ⟨(x, y), ?_, fun q hq => ?_⟩
    · unfold fX7_change_B62
      rw [h1, if_pos (by rw [Nat.sub_self]; decide)]
    · show y q = _
      rw [h2 q hq]
      by_cases c : a - a < q
      · rw [if_pos c]
      · have : q = 0 := by omega
        subst this
        rw [if_neg c]
        obtain ⟨k, h1, h2, h3⟩ := mn_ex (D := D) (v := v) (t := C) (s := 0)
        have hk : k ≤ k * v := Nat.le_mul_of_pos_right k (by omega)
        have : k = 0 := by omega
        subst this
        rw [h3, Nat.zero_mul]; rfl
theorem op_change {n : Nat} {G J V T M : Nat → Nat → Int32} {g t k : Nat → Int32} (F : Nat → Int32) (h : SIM n G g J V T t M k) (hn : n ≤ 1000) (p0 : Int32) :
    (∃ r F' k', fX5_change G g F p0 = some (.inr (r, F')) ∧ fX7_change T M k p0 = some (r, k') ∧ k' 0 = 0 ∧ SIM (n + 1) G g J V T t M k') ∨
    ∃ s c b k', (s = IA ∧ c = 1) ∧ fX5_change G g F p0 = some (.inl s) ∧ fX7_change T M k p0 = some (b, k') ∧ k' 0 = c ∧ SIM (n + 1) G g J V T t M k' := by
  obtain ⟨L, N, B, d, hW, hR, hZ, hJ, hV, hB, hd⟩ := id h
  obtain ⟨⟨a1, a2, a3⟩, ⟨w1, w2, w3⟩, wt, ww, wp⟩ := id hW
  obtain ⟨⟨r1, r2, r3, r4⟩, ⟨b1, b2', b3', b4', b5', b6, b7, b8⟩, ⟨c1, c2, c3⟩, ⟨d1, d2, d3, d4⟩⟩ := id hR
  rcases wi p0 1 300 (by decide) (by decide) with ⟨c, c'⟩ | ⟨a, u1, u2, rfl, c, c'⟩
  · right
    refine ⟨IA, 1, 0, uS (uS k 0 0) 0 1, ⟨rfl, rfl⟩, if_pos c, ?_, uS_s, SIM_no h⟩
    unfold fX7_change
    rw [lt_B (uS k 0 0), if_pos (show fX7_isIn p0 1 300 = 0 from c'), no_, b2_S]
  left
  obtain ⟨v, hv⟩ : ∃ v : Nat → Nat, ∀ l, l < L → 1 ≤ v l ∧ v l ≤ 50 ∧ G 1 l = nI (v l) := by
    refine ⟨fun l => (G 1 l).toNatClampNeg, fun l hl => ?_⟩
    obtain ⟨x, h1, h2, h3⟩ := w2 l hl
    have : (G 1 l).toNatClampNeg = x := by rw [h3, cl_n (by omega)]
    show 1 ≤ (G 1 l).toNatClampNeg ∧ (G 1 l).toNatClampNeg ≤ 50 ∧ G 1 l = nI ((G 1 l).toNatClampNeg)
    rw [this]
    exact ⟨h1, h2, h3⟩
  obtain ⟨cc, hc⟩ : ∃ cc : Nat → Nat, ∀ l, l < L → cc l < 2 ^ 30 ∧ sm (fun y => G 11 (6 * y + l)) 5 = nI (cc l) := by
    refine ⟨fun l => (sm (fun y => G 11 (6 * y + l)) 5).toNatClampNeg, fun l hl => ?_⟩
    obtain ⟨C, h1, h2⟩ := coins_nat wp (show l < 6 by omega)
    have : (sm (fun y => G 11 (6 * y + l)) 5).toNatClampNeg = C := by rw [h2, cl_n (by omega)]
    show (sm (fun y => G 11 (6 * y + l)) 5).toNatClampNeg < 2 ^ 30 ∧ sm (fun y => G 11 (6 * y + l)) 5 = nI ((sm (fun y => G 11 (6 * y + l)) 5).toNatClampNeg)
    rw [this]
    exact ⟨by omega, h2⟩
  obtain ⟨F', e1⟩ := change_in (F := F) a1 w1 u2 hv hc c
  refine ⟨en (Dl v cc L a), F', uS k 0 0, e1, ?_, uS_s, SIM_k0 h⟩
  have ea : nI a + 1 = nI (a + 1) := nI_1 a
  have ek : uS k 0 0 1 = nI L := by rw [uS_n (by decide), d1, a1]
  have f0 : eqN a (flF (fun _ => 0) 1 (nI (a + 1)) 999) D0 := fun q hq => by
    unfold flF D0
    rw [cl_n (by omega), show Int32.toNatClampNeg 1 = 1 from rfl]
    by_cases e : q = 0
    · subst e; rw [if_neg (by omega), if_pos rfl]; rfl
    · rw [if_pos (by omega), if_neg e]; rfl
  unfold fX7_change
  rw [lt_B (uS k 0 0), if_neg (show ¬ fX7_isIn (nI a) 1 300 = 0 from c'), ea, cl_n (show a + 1 < 2 ^ 31 by omega), gd_T ⟨nI_pos (by omega), by omega⟩, lt_B (fun _ => 0 : Nat → Int32), gd_T ⟨by decide, nI_le (a := 1) (by omega) (by omega), Int32.le_refl _, by omega⟩, lt_B (flF (fun _ => 0) 1 (nI (a + 1)) 999)]
  obtain ⟨r, e, hr⟩ := lp_rel (f := fun s : Int32 × (Nat → Int32) => fX7_change_B41 T M (nI a) (uS k 0 0) s.1 s.2) (fun i s => s.1 = nI i ∧ eqN a s.2 (Dl v cc i)) (fun r => eqN a r.2 (Dl v cc L)) L (s0 := (0, flF (fun _ => 0) 1 (nI (a + 1)) 999)) (N := 7) ⟨rfl, f0⟩ (by omega) (by
    rintro i ⟨x, f⟩ hi ⟨h1, h2⟩
    dsimp only at h1 h2 ⊢
    obtain ⟨v1, v2, v3⟩ := hv i hi
    obtain ⟨cc1, cc2⟩ := hc i hi
    obtain ⟨r, f1, f2⟩ := m62_in (M := M) u2 (show i < 6 by omega) v1 v2 (by rw [b1]; exact v3) cc1 (Dl_ok u2 (fun l hl => (hv l hl).1) i (by omega)) h2
    have f1' : lp (fun z : Int32 × (Nat → Int32) => fX7_change_B62 M (nI a) (nI i) (nI (cc i)) z.1 z.2) 302 (nI a, f) = some (r.1, r.2) := by rw [f1]
    unfold fX7_change_B41
    rw [ek, h1, if_neg (nI_ge hi (by omega)), m_all (by omega), bd_S, r1, cc2, nI_up]
    exact ⟨_, b2_lp f1' rfl, rfl, f2⟩) (by
    rintro ⟨x, f⟩ ⟨h1, h2⟩
    dsimp only at h1 h2 ⊢
    refine ⟨(x, f), ?_, h2⟩
    unfold fX7_change_B41
    rw [ek, h1, if_pos (Int32.le_refl _)])
  rw [show b2 (lp (fun s : Int32 × (Nat → Int32) => fX7_change_B41 T M (nI a) (uS k 0 0) s.1 s.2) 7 (0, flF (fun _ => 0) 1 (nI (a + 1)) 999)) = b2 (some (r.1, r.2)) by rw [e], b2_S, gd_in (by omega) (by omega), cl_n (by omega), hr a (Nat.le_refl a)]
  have ok := Dl_ok (c := cc) u2 (fun l hl => (hv l hl).1) L (Nat.le_refl L) a (Nat.le_refl a)
  by_cases c9 : Dl v cc L a = 999
  · rw [c9, if_pos (by decide), en_n rfl]
  · rw [if_neg (show ¬ (999 : Int32) ≤ nI (Dl v cc L a) from nI_ge (b := 999) (by omega) (by decide)), gd_in (by omega) (by omega), en_y c9]
