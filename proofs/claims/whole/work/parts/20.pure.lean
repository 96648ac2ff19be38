/-! numbers and loops -/
theorem lt_B {α β : Type} (x : α) (k : α → β) : lt_ x k = k x := rfl
theorem bd_S {α β : Type} (x : α) (k : α → Option β) : (some x).bind k = k x := rfl
theorem b2_S {α β δ : Type} (a : α) (b : β) (k : α → β → Option δ) : b2 (some (a, b)) k = k a b := rfl
theorem b3_S {α β γ δ : Type} (a : α) (b : β) (c : γ) (k : α → β → γ → Option δ) : b3 (some (a, b, c)) k = k a b c := rfl
theorem b4_S {α β γ ε δ : Type} (a : α) (b : β) (c : γ) (d : ε) (k : α → β → γ → ε → Option δ) : b4 (some (a, b, c, d)) k = k a b c d := rfl
theorem b5_S {α β γ ε ζ δ : Type} (a : α) (b : β) (c : γ) (d : ε) (e : ζ) (k : α → β → γ → ε → ζ → Option δ) : b5 (some (a, b, c, d, e)) k = k a b c d e := rfl
theorem lp_go {σ ρ : Type} {f : σ → Option (σ ⊕ ρ)} (st : Nat → σ) (n : Nat) (r : ρ) (hs : ∀ i, i < n → f (st i) = some (.inl (st (i + 1)))) (he : f (st n) = some (.inr r)) : ∀ k i, i + k = n → ∀ N, k < N → lp f N (st i) = some r := by
  intro k
  induction k with
  | zero =>
    intro i hi N hN
    have hi : i = n := by omega
    subst hi
    obtain ⟨N', rfl⟩ : ∃ N', N = N' + 1 := ⟨N - 1, by omega⟩
    exact lp_inr he
  | succ k ih =>
    intro i hi N hN
    obtain ⟨N', rfl⟩ : ∃ N', N = N' + 1 := ⟨N - 1, by omega⟩
    rw [lp_inl (hs i (by omega))]
    exact ih (i + 1) (by omega) N' (by omega)
theorem lp_for {σ ρ : Type} {f : σ → Option (σ ⊕ ρ)} (st : Nat → σ) (n : Nat) (r : ρ) {s0 : σ} {N : Nat} (h0 : s0 = st 0) (hN : n < N) (hs : ∀ i, i < n → f (st i) = some (.inl (st (i + 1)))) (he : f (st n) = some (.inr r)) : lp f N s0 = some r := by
  rw [h0]
  exact lp_go st n r hs he n 0 (by omega) N hN
theorem b2_lp {σ α β δ : Type} {f : σ → Option (σ ⊕ (α × β))} {N : Nat} {s0 : σ} {k : α → β → Option δ} {z : Option δ} {a : α} {b : β} (h : lp f N s0 = some (a, b)) (hk : k a b = z) : b2 (lp f N s0) k = z := by rw [h]; exact hk
theorem b3_lp {σ α β γ δ : Type} {f : σ → Option (σ ⊕ (α × β × γ))} {N : Nat} {s0 : σ} {k : α → β → γ → Option δ} {z : Option δ} {a : α} {b : β} {c : γ} (h : lp f N s0 = some (a, b, c)) (hk : k a b c = z) : b3 (lp f N s0) k = z := by rw [h]; exact hk
theorem b4_lp {σ α β γ ε δ : Type} {f : σ → Option (σ ⊕ (α × β × γ × ε))} {N : Nat} {s0 : σ} {k : α → β → γ → ε → Option δ} {z : Option δ} {a : α} {b : β} {c : γ} {d : ε} (h : lp f N s0 = some (a, b, c, d)) (hk : k a b c d = z) : b4 (lp f N s0) k = z := by rw [h]; exact hk
theorem b1_lp {σ α δ : Type} {f : σ → Option (σ ⊕ α)} {N : Nat} {s0 : σ} {k : α → Option δ} {z : Option δ} {a : α} (h : lp f N s0 = some a) (hk : k a = z) : (lp f N s0).bind k = z := by rw [h]; exact hk
def sm (F : Nat → Int32) : Nat → Int32
  | 0 => 0
  | n + 1 => sm F n + F n
theorem sm_congr {F F' : Nat → Int32} {n : Nat} (h : ∀ i, i < n → F i = F' i) : sm F n = sm F' n := by
  induction n with
  | zero => rfl
  | succ n ih => simp only [sm]; rw [ih (fun i hi => h i (by omega)), h n (by omega)]
theorem sm_tail {F : Nat → Int32} {a b : Nat} (hab : a ≤ b) (h : ∀ i, a ≤ i → i < b → F i = 0) : sm F b = sm F a := by
  induction b with
  | zero => have : a = 0 := by omega
            subst this; rfl
  | succ b ih =>
    by_cases c : a = b + 1
    · rw [c]
    · simp only [sm]
      rw [h b (by omega) (by omega), ih (by omega) (fun i h1 h2 => h i h1 (by omega)), Int32.add_zero]
theorem rAt_in {n i : Nat} {f : Nat → Int32} (h : i < n) (hn : n < 2 ^ 31) : rAt n f (nI i) = f i := by
  unfold rAt
  rw [if_neg (nI_pos (by omega)), if_neg (nI_ge h hn), nI_clamp (by omega)]
theorem rPut_in {n i : Nat} {f : Nat → Int32} {x : Int32} (h : i < n) (hn : n < 2 ^ 31) : rPut n f (nI i) x = upd f i x := by
  unfold rPut
  rw [if_neg (nI_pos (by omega)), if_neg (nI_ge h hn), nI_clamp (by omega)]
theorem rAdd_in {n i : Nat} {f : Nat → Int32} {x : Int32} (h : i < n) (hn : n < 2 ^ 31) : rAdd n f (nI i) x = upd f i (f i + x) := by
  unfold rAdd
  rw [if_neg (nI_pos (by omega)), if_neg (nI_ge h hn), nI_clamp (by omega)]
theorem gd_in {α : Type} {i n : Nat} {x : Option α} (h : i < n) (hn : n < 2 ^ 31) : gd (vp_in (nI i) n) x = x := gd_T (vp_in_nI h hn)
theorem cl_n {i : Nat} (h : i < 2 ^ 31) : Int32.toNatClampNeg (nI i) = i := nI_clamp h
theorem uG_s {G : Nat → Nat → Int32} {k : Nat} {f : Nat → Int32} : uG G k f k = f := by unfold uG; rw [if_pos rfl]
theorem uG_n {G : Nat → Nat → Int32} {k j : Nat} {f : Nat → Int32} (h : j ≠ k) : uG G k f j = G j := by unfold uG; rw [if_neg h]
theorem uS_s {g : Nat → Int32} {k : Nat} {v : Int32} : uS g k v k = v := by unfold uS; rw [if_pos rfl]
theorem uS_n {g : Nat → Int32} {k j : Nat} {v : Int32} (h : j ≠ k) : uS g k v j = g j := by unfold uS; rw [if_neg h]
theorem nI_up (i : Nat) : nI i + 1 = nI (i + 1) := nI_1 i
theorem nI_dn (i : Nat) : nI (i + 1) + (-1) = nI i := pk_m1 i
/-! the piles -/
theorem place_in {a j : Nat} (ha : a < 5) (hj : j < 6) : fX1_place (nI a) (nI j) = nI (6 * a + j) := by
  unfold fX1_place
  rw [if_neg (nI_pos (by omega)), if_neg (show ¬ (5 : Int32) ≤ nI a from nI_ge (b := 5) ha (by decide)), if_neg (nI_pos (by omega)), if_neg (show ¬ (6 : Int32) ≤ nI j from nI_ge (b := 6) hj (by decide))]
  rw [show (6 : Int32) = nI 6 from rfl, pk_mul, nI_add, Nat.mul_comm]
theorem at_in {G : Nat → Nat → Int32} {a j : Nat} (ha : a < 5) (hj : j < 6) : fX1_at G (nI a) (nI j) = G 11 (6 * a + j) := by
  unfold fX1_at
  rw [place_in ha hj, rAt_in (by omega) (by decide)]
theorem add_in {G : Nat → Nat → Int32} {a j : Nat} {x : Int32} (ha : a < 5) (hj : j < 6) : fX1_add G (nI a) (nI j) x = some (uG G 11 (upd (G 11) (6 * a + j) (G 11 (6 * a + j) + x))) := by
  unfold fX1_add
  rw [lt_B, place_in ha hj, rAdd_in (by omega) (by decide)]
theorem coinsIn_in {G : Nat → Nat → Int32} {a : Nat} (ha : a < 5) : fX1_coinsIn G (nI a) = some (sm (fun j => G 11 (6 * a + j)) 6) := by
  unfold fX1_coinsIn
  refine b2_lp (lp_for (fun i => (sm (fun j => G 11 (6 * a + j)) i, nI i)) 6 (sm (fun j => G 11 (6 * a + j)) 6, nI 6) rfl (by decide) (fun i hi => ?_) ?_) rfl
  · show fX1_coinsIn_B4 G (nI a) (sm _ i) (nI i) = _
    unfold fX1_coinsIn_B4
    rw [if_neg (show ¬ (6 : Int32) ≤ nI i from nI_ge (b := 6) hi (by decide)), lt_B, at_in ha hi, nI_up]
    rfl
  · show fX1_coinsIn_B4 G (nI a) (sm _ 6) (nI 6) = _
    unfold fX1_coinsIn_B4
    rw [if_pos (show (6 : Int32) ≤ nI 6 by decide)]
theorem coinsOf_in {G : Nat → Nat → Int32} {j : Nat} (hj : j < 6) : fX1_coinsOf G (nI j) = some (sm (fun a => G 11 (6 * a + j)) 5) := by
  unfold fX1_coinsOf
  refine b2_lp (lp_for (fun i => (sm (fun a => G 11 (6 * a + j)) i, nI i)) 5 (sm (fun a => G 11 (6 * a + j)) 5, nI 5) rfl (by decide) (fun i hi => ?_) ?_) rfl
  · show fX1_coinsOf_B4 G (nI j) (sm _ i) (nI i) = _
    unfold fX1_coinsOf_B4
    rw [if_neg (show ¬ (5 : Int32) ≤ nI i from nI_ge (b := 5) hi (by decide)), lt_B, at_in hi hj, nI_up]
    rfl
  · show fX1_coinsOf_B4 G (nI j) (sm _ 5) (nI 5) = _
    unfold fX1_coinsOf_B4
    rw [if_pos (show (5 : Int32) ≤ nI 5 by decide)]
theorem m_coins {T : Nat → Nat → Int32} {a : Nat} (ha : a < 5) : fX6_coins T (nI a) = some (sm (fun j => T 0 (6 * a + j)) 6) := by
  unfold fX6_coins
  rw [lt_B, show (6 : Int32) * nI a = nI (6 * a) from pk_mul 6 a]
  refine b2_lp (lp_for (fun i => (sm (fun j => T 0 (6 * a + j)) i, nI (6 * a + i))) 6 (sm (fun j => T 0 (6 * a + j)) 6, nI (6 * a + 6)) rfl (by decide) (fun i hi => ?_) ?_) rfl
  · show fX6_coins_B7 T (nI a) (sm _ i) (nI (6 * a + i)) = _
    unfold fX6_coins_B7
    rw [show (6 : Int32) * nI a + 6 = nI (6 * a + 6) by rw [show (6 : Int32) = nI 6 from rfl, pk_mul, nI_add]]
    rw [if_neg (nI_ge (by omega) (by omega)), gd_in (by omega) (by decide), lt_B, cl_n (by omega), nI_up]
    rfl
  · show fX6_coins_B7 T (nI a) (sm _ 6) (nI (6 * a + 6)) = _
    unfold fX6_coins_B7
    rw [show (6 : Int32) * nI a + 6 = nI (6 * a + 6) by rw [show (6 : Int32) = nI 6 from rfl, pk_mul, nI_add]]
    rw [if_pos (nI_le (Nat.le_refl _) (by omega))]
theorem m_all {T : Nat → Nat → Int32} {j : Nat} (hj : j < 6) : fX6_all T (nI j) = some (sm (fun a => T 0 (6 * a + j)) 5) := by
  unfold fX6_all
  refine b2_lp (lp_for (fun i => (sm (fun a => T 0 (6 * a + j)) i, nI (6 * i + j))) 5 (sm (fun a => T 0 (6 * a + j)) 5, nI (6 * 5 + j)) (by rw [Nat.mul_zero, Nat.zero_add]; rfl) (by decide) (fun i hi => ?_) ?_) rfl
  · show fX6_all_B4 T (sm _ i) (nI (6 * i + j)) = _
    unfold fX6_all_B4
    rw [if_neg (show ¬ (30 : Int32) ≤ nI (6 * i + j) from nI_ge (b := 30) (by omega) (by decide)), gd_in (by omega) (by decide), lt_B, cl_n (by omega), show nI (6 * i + j) + 6 = nI (6 * (i + 1) + j) by rw [show (6 : Int32) = nI 6 from rfl, nI_add]; congr 1; omega]
    rfl
  · show fX6_all_B4 T (sm _ 5) (nI (6 * 5 + j)) = _
    unfold fX6_all_B4
    rw [if_pos (show (30 : Int32) ≤ nI (6 * 5 + j) from nI_le (a := 30) (by omega) (by omega))]
