/-! how the class's state and the reference's belong together (RW), what holds of it (WF), nothing lies beyond the rows (ZG) -/
def RW (G : Nat → Nat → Int32) (g : Nat → Int32) (T : Nat → Nat → Int32) (t : Nat → Int32) (M : Nat → Nat → Int32) (k : Nat → Int32) : Prop :=
  (T 0 = G 11 ∧ T 1 = G 3 ∧ T 2 = G 9 ∧ T 3 = G 10) ∧ (M 0 = G 1 ∧ M 1 = G 2 ∧ M 2 = G 0 ∧ M 3 = G 4 ∧ M 4 = G 5 ∧ M 5 = G 6 ∧ M 6 = G 7 ∧ M 7 = G 8) ∧ (t 0 = g 0 ∧ t 1 = g 1 ∧ t 2 = g 2) ∧ (k 1 = g 5 ∧ k 2 = g 6 ∧ k 3 = g 3 ∧ k 4 = g 4)
def WFl (L : Nat) (V : Nat → Int32) : Prop := L ≤ 6 ∧ (∀ j, j < L → ∃ v, 1 ≤ v ∧ v ≤ 50 ∧ V j = nI v) ∧ ∀ j, L ≤ j → V j = 0
def WFt (Q : Nat → Int32) : Prop := ∀ j, j < 7 → ∃ v, v ≤ 9 ∧ Q j = nI v
def WFw (L N : Nat) (O F : Nat → Int32) : Prop := N ≤ 24 ∧ (∀ w, w < N → ∃ x, x < L ∧ O w = nI x) ∧ (∀ w, w < N → ∃ x, x < 3 ∧ F w = nI x) ∧ ∀ w, N ≤ w → F w = 0
def WFp (L B : Nat) (P : Nat → Int32) : Prop := ∃ c : Nat → Nat, (∀ p, p < 30 → P p = nI (c p)) ∧ (∀ p, p < 30 → L ≤ p % 6 → c p = 0) ∧ ∀ j, j < 6 → c j + c (6 + j) + c (12 + j) + c (18 + j) + c (24 + j) ≤ B
def WF (L N B d : Nat) (G : Nat → Nat → Int32) (g : Nat → Int32) : Prop := (g 5 = nI L ∧ g 6 = nI N ∧ g 0 = nI d) ∧ WFl L (G 1) ∧ WFt (G 0) ∧ WFw L N (G 7) (G 9) ∧ WFp L B (G 11)
def ln_ (k : Nat) : Nat := if k = 0 then 7 else if k ≤ 5 then 6 else if k ≤ 10 then 24 else 30
def zb (n : Nat) (f : Nat → Int32) : Prop := ∀ j, n ≤ j → f j = 0
def ZG (G : Nat → Nat → Int32) : Prop := ∀ k, k < 12 → zb (ln_ k) (G k)
theorem zb_upd {n i : Nat} {f : Nat → Int32} {x : Int32} (h : zb n f) (hi : i < n) : zb n (upd f i x) := fun j hj => by rw [pk_un (by omega)]; exact h j hj
theorem ZG_uG {G : Nat → Nat → Int32} {k : Nat} {f : Nat → Int32} (h : ZG G) (hf : zb (ln_ k) f) : ZG (uG G k f) := by
  intro j hj
  by_cases c : j = k
  · subst c; rw [uG_s]; exact hf
  · rw [uG_n c]; exact h j hj
theorem uG_uG {G : Nat → Nat → Int32} {k : Nat} {f f' : Nat → Int32} : uG (uG G k f) k f' = uG G k f' := by
  funext j; unfold uG; split <;> rfl
theorem uG_id {G : Nat → Nat → Int32} {k : Nat} : uG G k (G k) = G := by
  funext j; unfold uG; split
  · rename_i h; rw [h]
  · rfl
/-! a coin is thrown -/
def tcG (G : Nat → Nat → Int32) (l : Nat) : Nat → Nat → Int32 := uG (uG G 11 (upd (G 11) l (G 11 l + 1))) 3 (upd (G 3) l (G 3 l + 1))
def tcT (T : Nat → Nat → Int32) (l : Nat) : Nat → Nat → Int32 := uG (uG T 0 (upd (T 0) l (T 0 l + 1))) 1 (upd (T 1) l (T 1 l + 1))
def tcg (g : Nat → Int32) (v : Int32) : Nat → Int32 := uS g 1 (if g 1 + v / 10 < 500 then g 1 + v / 10 else 500)
theorem throw_in {G : Nat → Nat → Int32} {g : Nat → Int32} {l : Nat} (hl : l < 6) : fX3_throwCoin G g (nI l) = some (tcG G l, tcg g (G 1 l)) := by
  unfold fX3_throwCoin
  rw [show (0 : Int32) = nI 0 from rfl, add_in (by decide) hl, bd_S, lt_B, Nat.mul_zero, Nat.zero_add]
  unfold fX3_raiseFavour
  rw [lt_B, bd_S]
  simp only [uG_n (show (3 : Nat) ≠ 11 by decide), uG_n (show (1 : Nat) ≠ 3 by decide), uG_n (show (1 : Nat) ≠ 11 by decide)]
  rw [rAdd_in hl (by decide), rAt_in hl (by decide)]
  rfl
theorem drop_in {T M : Nat → Nat → Int32} {t : Nat → Int32} {l : Nat} (hl : l < 6) : fX6_drop T t M (nI l) = some (tcT T l, tcg t (M 0 l)) := by
  unfold fX6_drop
  rw [gd_in (by omega) (by decide), gd_in (by omega) (by decide), lt_B, gd_in hl (by decide), gd_in hl (by decide), lt_B, gd_in hl (by decide), lt_B, cl_n (by omega)]
  simp only [uG_n (show (1 : Nat) ≠ 0 by decide)]
  rfl
theorem RW_tc {G T M : Nat → Nat → Int32} {g t k : Nat → Int32} {l : Nat} (h : RW G g T t M k) : RW (tcG G l) (tcg g (G 1 l)) (tcT T l) (tcg t (M 0 l)) M k := by
  obtain ⟨⟨a1, a2, a3, a4⟩, ⟨b1, b2, b3, b4, b5, b6, b7, b8⟩, ⟨c1, c2, c3⟩, ⟨d1, d2, d3, d4⟩⟩ := h
  refine ⟨⟨?_, ?_, ?_, ?_⟩, ⟨?_, ?_, ?_, ?_, ?_, ?_, ?_, ?_⟩, ⟨?_, ?_, ?_⟩, ⟨?_, ?_, ?_, ?_⟩⟩ <;> simp [tcG, tcT, tcg, uG, uS, *]
theorem WF_tc {L N B d l : Nat} {G : Nat → Nat → Int32} {g : Nat → Int32} {v : Int32} (h : WF L N B d G g) (hl : l < L) : WF L N (B + 1) d (tcG G l) (tcg g v) := by
  obtain ⟨⟨a1, a2, a3⟩, b, c, e, ⟨q, q1, q2, q3⟩⟩ := h
  have hL := b.1
  refine ⟨⟨?_, ?_, ?_⟩, ?_, ?_, ?_, ?_⟩
  · simp [tcg, uS, a1]
  · simp [tcg, uS, a2]
  · simp [tcg, uS, a3]
  · simpa [tcG, uG] using b
  · simpa [tcG, uG] using c
  · simpa [tcG, uG] using e
  · have e11 : tcG G l 11 = upd (G 11) l (G 11 l + 1) := by simp [tcG, uG]
    rw [e11]
    refine ⟨fun p => if p = l then q p + 1 else q p, fun p hp => ?_, fun p hp h6 => ?_, fun j hj => ?_⟩
    · show upd (G 11) l (G 11 l + 1) p = nI (if p = l then q p + 1 else q p)
      by_cases c : p = l
      · subst c; rw [pk_us, if_pos rfl, q1 p hp, nI_1]
      · rw [pk_un c, if_neg c, q1 p hp]
    · show (if p = l then q p + 1 else q p) = 0
      rw [if_neg (by rintro rfl; omega)]
      exact q2 p hp h6
    · have h5 := q3 j hj
      show (if j = l then q j + 1 else q j) + (if 6 + j = l then q (6 + j) + 1 else q (6 + j)) + (if 12 + j = l then q (12 + j) + 1 else q (12 + j)) + (if 18 + j = l then q (18 + j) + 1 else q (18 + j)) + (if 24 + j = l then q (24 + j) + 1 else q (24 + j)) ≤ B + 1
      rw [if_neg (by omega : ¬ 6 + j = l), if_neg (by omega : ¬ 12 + j = l), if_neg (by omega : ¬ 18 + j = l), if_neg (by omega : ¬ 24 + j = l)]
      split <;> omega
theorem ZG_tc {G : Nat → Nat → Int32} {l : Nat} (h : ZG G) (hl : l < 6) : ZG (tcG G l) := by
  unfold tcG
  exact ZG_uG (ZG_uG h (zb_upd (h 11 (by decide)) (show l < 30 by omega))) (zb_upd (h 3 (by decide)) hl)
/-! the visitors of a day -/
def vs (d L : Nat) (G : Nat → Nat → Int32) (g : Nat → Int32) : Nat → (Nat → Nat → Int32) × (Nat → Int32)
  | 0 => (G, g)
  | i + 1 => (tcG (vs d L G g i).1 ((d + i) % L), tcg (vs d L G g i).2 ((vs d L G g i).1 1 ((d + i) % L)))
def vt (d L : Nat) (M T : Nat → Nat → Int32) (t : Nat → Int32) : Nat → (Nat → Nat → Int32) × (Nat → Int32)
  | 0 => (T, t)
  | i + 1 => (tcT (vt d L M T t i).1 ((d + i) % L), tcg (vt d L M T t i).2 (M 0 ((d + i) % L)))
theorem tcg_n {g : Nat → Int32} {v : Int32} {j : Nat} (h : j ≠ 1) : tcg g v j = g j := uS_n h
theorem vs_g {d L : Nat} {G : Nat → Nat → Int32} {g : Nat → Int32} {j : Nat} (h : j ≠ 1) (i : Nat) : (vs d L G g i).2 j = g j := by
  induction i with
  | zero => rfl
  | succ i ih => simp only [vs]; rw [tcg_n h, ih]
theorem vt_t {d L : Nat} {M T : Nat → Nat → Int32} {t : Nat → Int32} {j : Nat} (h : j ≠ 1) (i : Nat) : (vt d L M T t i).2 j = t j := by
  induction i with
  | zero => rfl
  | succ i ih => simp only [vt]; rw [tcg_n h, ih]
theorem vs_G {d L : Nat} {G : Nat → Nat → Int32} {g : Nat → Int32} {j : Nat} (h : j ≠ 11) (h3 : j ≠ 3) (i : Nat) : (vs d L G g i).1 j = G j := by
  induction i with
  | zero => rfl
  | succ i ih => simp only [vs, tcG]; rw [uG_n h3, uG_n h, ih]
theorem sim_vs {L N B d : Nat} {G T M : Nat → Nat → Int32} {g t k : Nat → Int32} (hW : WF L N B d G g) (hR : RW G g T t M k) (hZ : ZG G) (hL : 0 < L) (i : Nat) : WF L N (B + i) d (vs d L G g i).1 (vs d L G g i).2 ∧ RW (vs d L G g i).1 (vs d L G g i).2 (vt d L M T t i).1 (vt d L M T t i).2 M k ∧ ZG (vs d L G g i).1 := by
  induction i with
  | zero => exact ⟨hW, hR, hZ⟩
  | succ i ih =>
    obtain ⟨h1, h2, h3⟩ := ih
    have hl : (d + i) % L < L := Nat.mod_lt _ hL
    have hL6 := hW.2.1.1
    refine ⟨WF_tc h1 hl, RW_tc h2, ZG_tc h3 (by omega)⟩
theorem rem_n {a b : Nat} (ha : a < 2 ^ 31) (h0 : 0 < b) (hb : b < 2 ^ 31) : nI a - nI a / nI b * nI b = nI (a % b) := pk_rem ha h0 hb
theorem receive_in {L N B d v : Nat} {G : Nat → Nat → Int32} {g : Nat → Int32} (hW : WF L N B d G g) (hL : 0 < L) (hd : d < 2 ^ 30) (hv : v ≤ 9) (ev : G 0 (d % 7) = nI v) : fX3_receiveVisitors G g = some (vs d L G g v) := by
  obtain ⟨⟨a1, a2, a3⟩, ⟨hL6, -, -⟩, -⟩ := hW
  unfold fX3_receiveVisitors
  have h7 : g 0 - g 0 / 7 * 7 = nI (d % 7) := by rw [a3, show (7 : Int32) = nI 7 from rfl]; exact rem_n (by omega) (by decide) (by decide)
  rw [if_pos (by rw [a1, show (0 : Int32) = nI 0 from rfl]; exact nI_lt hL (by omega)), lt_B, h7, rAt_in (Nat.mod_lt _ (by decide)) (by decide), ev]
  refine b3_lp (lp_for (fun i => (nI i, (vs d L G g i).1, (vs d L G g i).2)) v (nI v, (vs d L G g v).1, (vs d L G g v).2) rfl (by omega) (fun i hi => ?_) ?_) rfl
  · show fX3_receiveVisitors_B28 (nI v) (nI i) (vs d L G g i).1 (vs d L G g i).2 = _
    unfold fX3_receiveVisitors_B28
    have hl : (d + i) % L < L := Nat.mod_lt _ hL
    rw [if_neg (nI_ge hi (by omega)), vs_g (by decide), vs_g (by decide), a1, a3, gd_T (nI_ne0 hL (by omega)), nI_add, rem_n (by omega) hL (by omega), throw_in (by omega), b2_S, nI_up]
    rfl
  · show fX3_receiveVisitors_B28 (nI v) (nI v) _ _ = _
    unfold fX3_receiveVisitors_B28
    rw [if_pos (Int32.le_refl _)]
theorem receive_0 {N B d : Nat} {G : Nat → Nat → Int32} {g : Nat → Int32} (hW : WF 0 N B d G g) : fX3_receiveVisitors G g = some (G, g) := by
  unfold fX3_receiveVisitors
  rw [if_neg (by rw [hW.1.1]; decide)]
theorem m_receive {L d v : Nat} {T M : Nat → Nat → Int32} {t k : Nat → Int32} (hk : k 1 = nI L) (ht : t 0 = nI d) (hL : 0 < L) (hL6 : L ≤ 6) (hd : d < 2 ^ 30) (hv : v ≤ 9) (ev : M 2 (d % 7) = nI v) : lp (fun s => fX6_pass_B2 M k s.1 s.2.1 s.2.2) 10 (0, T, t) = some (nI v, (vt d L M T t v).1, (vt d L M T t v).2) := by
  have h7 : ∀ i, (vt d L M T t i).2 0 - (vt d L M T t i).2 0 / 7 * 7 = nI (d % 7) := fun i => by rw [vt_t (by decide), ht, show (7 : Int32) = nI 7 from rfl]; exact rem_n (by omega) (by decide) (by decide)
  have hm : d % 7 < 7 := Nat.mod_lt _ (by decide)
  refine lp_for (fun i => (nI i, (vt d L M T t i).1, (vt d L M T t i).2)) v (nI v, (vt d L M T t v).1, (vt d L M T t v).2) rfl (by omega) (fun i hi => ?_) ?_
  · show fX6_pass_B2 M k (nI i) (vt d L M T t i).1 (vt d L M T t i).2 = _
    unfold fX6_pass_B2
    have hl : (d + i) % L < L := Nat.mod_lt _ hL
    rw [h7, gd_in hm (by decide), cl_n (by omega), ev, if_neg (nI_ge hi (by omega)), hk, if_neg (nI_nle hL (by omega)), gd_T (nI_ne0 hL (by omega)), vt_t (by decide), ht, nI_add, rem_n (by omega) hL (by omega), drop_in (by omega), b2_S, nI_up]
    rfl
  · show fX6_pass_B2 M k (nI v) _ _ = _
    unfold fX6_pass_B2
    rw [h7, gd_in hm (by decide), cl_n (by omega), ev, if_pos (Int32.le_refl _)]
theorem m_receive0 {d v : Nat} {T M : Nat → Nat → Int32} {t k : Nat → Int32} (hk : k 1 = nI 0) (ht : t 0 = nI d) (hd : d < 2 ^ 30) (ev : M 2 (d % 7) = nI v) : lp (fun s => fX6_pass_B2 M k s.1 s.2.1 s.2.2) 10 (0, T, t) = some (0, T, t) := by
  have h7 : t 0 - t 0 / 7 * 7 = nI (d % 7) := by rw [ht, show (7 : Int32) = nI 7 from rfl]; exact rem_n (by omega) (by decide) (by decide)
  have hm : d % 7 < 7 := Nat.mod_lt _ (by decide)
  refine lp_inr ?_
  show fX6_pass_B2 M k 0 T t = _
  unfold fX6_pass_B2
  rw [h7, gd_in hm (by decide), hk]
  split
  · rfl
  · rw [if_pos (by decide)]
