/-! laid by wip/whole/gen.py -/
noncomputable def fX1_place (p0 : Int32) (p1 : Int32) : Int32 := if p0 < 0 then ((-1)) else (if 5 ≤ p0 then ((-1)) else (if p1 < 0 then ((-1)) else (if 6 ≤ p1 then ((-1)) else ((p0 * 6) + p1))))
set_option maxHeartbeats 4000000 in
set_option maxRecDepth 100000 in
theorem c_X1_place (l : Launch) (D : va_G) (cI cJ : ClassId) (p0 : Int32) (p1 : Int32) (w : va_W) (r' : Int32) (h : fX1_place p0 p1 = r') : Ci l yX1_place wsX1_place ({ frames := 0, cells := 0, slots := 0, locals := 0 } : Room) D cI cJ ([.int p0, .int p1] : List Value) (w) r' (w) := by
  refine Ci.mk (cc := cX1_place) (maxL := 3) (ret := (some .int)) (by decide) rfl (Nat.le_of_ble_eq_true rfl) ?_
  intro p e s m below meth c A ls B hr hlk hK hN hA hP hD hl
  obtain ⟨hx, hb, hml, hown, hts⟩ := id B
  have hS : va_S A s.heap s.heap [] := va_S.rf
  have hl : lv_has ls 3 [(0, .int p0), (1, .int p1)] := hl
  unfold fX1_place at h
  refine lv_iload_n hx hb dX1_place_0 rfl (lv_at hl 0 rfl) ?_
  refine lv_if_lt (tgt := 23) hx hb dX1_place_1 (by decide) (fun c_1 => ?_) (fun c_1 => ?_)
  · have h := ip_ h c_1
    refine lv_iconst (v := 0) hx hb dX1_place_23 (by decide) ?_
    refine lv_istore_n (lv' := [(2, .int 0), (0, .int p0), (1, .int p1)]) hx hb dX1_place_24 rfl hl (by decide) rfl (fun ls hl => ?_)
    refine lv_iload_n hx hb dX1_place_25 rfl (lv_at hl 0 rfl) ?_
    refine lv_if_eq (tgt := 38) hx hb dX1_place_26 (by decide) (fun _ => ?_) (fun c_2 => absurd (by decide) c_2)
    refine lv_iconst (v := (-1)) hx hb dX1_place_38 (by decide) ?_
    exact eI hx hb hr hlk hP hS dX1_place_39 (Nat.le_of_ble_eq_true rfl) (Nat.le_of_ble_eq_true rfl) h rfl
  · have h := in_ h c_1
    refine lv_iload_n hx hb dX1_place_4 rfl (lv_at hl 0 rfl) ?_
    refine lv_iconst (v := 5) hx hb dX1_place_5 (by decide) ?_
    refine lv_icmp_ge (tgt := 23) hx hb dX1_place_6 (by decide) (fun c_3 => ?_) (fun c_3 => ?_)
    · have h := ip_ h c_3
      refine lv_iconst (v := 0) hx hb dX1_place_23 (by decide) ?_
      refine lv_istore_n (lv' := [(2, .int 0), (0, .int p0), (1, .int p1)]) hx hb dX1_place_24 rfl hl (by decide) rfl (fun ls hl => ?_)
      refine lv_iload_n hx hb dX1_place_25 rfl (lv_at hl 0 rfl) ?_
      refine lv_if_eq (tgt := 38) hx hb dX1_place_26 (by decide) (fun _ => ?_) (fun c_4 => absurd (by decide) c_4)
      refine lv_iconst (v := (-1)) hx hb dX1_place_38 (by decide) ?_
      exact eI hx hb hr hlk hP hS dX1_place_39 (Nat.le_of_ble_eq_true rfl) (Nat.le_of_ble_eq_true rfl) h rfl
    · have h := in_ h c_3
      refine lv_iload_n hx hb dX1_place_9 rfl (lv_at hl 1 rfl) ?_
      refine lv_if_lt (tgt := 23) hx hb dX1_place_10 (by decide) (fun c_5 => ?_) (fun c_5 => ?_)
      · have h := ip_ h c_5
        refine lv_iconst (v := 0) hx hb dX1_place_23 (by decide) ?_
        refine lv_istore_n (lv' := [(2, .int 0), (0, .int p0), (1, .int p1)]) hx hb dX1_place_24 rfl hl (by decide) rfl (fun ls hl => ?_)
        refine lv_iload_n hx hb dX1_place_25 rfl (lv_at hl 0 rfl) ?_
        refine lv_if_eq (tgt := 38) hx hb dX1_place_26 (by decide) (fun _ => ?_) (fun c_6 => absurd (by decide) c_6)
        refine lv_iconst (v := (-1)) hx hb dX1_place_38 (by decide) ?_
        exact eI hx hb hr hlk hP hS dX1_place_39 (Nat.le_of_ble_eq_true rfl) (Nat.le_of_ble_eq_true rfl) h rfl
      · have h := in_ h c_5
        refine lv_iload_n hx hb dX1_place_13 rfl (lv_at hl 1 rfl) ?_
        refine lv_bipush (v := 6) hx hb dX1_place_14 (by decide) ?_
        refine lv_icmp_ge (tgt := 23) hx hb dX1_place_16 (by decide) (fun c_7 => ?_) (fun c_7 => ?_)
        · have h := ip_ h c_7
          refine lv_iconst (v := 0) hx hb dX1_place_23 (by decide) ?_
          refine lv_istore_n (lv' := [(2, .int 0), (0, .int p0), (1, .int p1)]) hx hb dX1_place_24 rfl hl (by decide) rfl (fun ls hl => ?_)
          refine lv_iload_n hx hb dX1_place_25 rfl (lv_at hl 0 rfl) ?_
          refine lv_if_eq (tgt := 38) hx hb dX1_place_26 (by decide) (fun _ => ?_) (fun c_8 => absurd (by decide) c_8)
          refine lv_iconst (v := (-1)) hx hb dX1_place_38 (by decide) ?_
          exact eI hx hb hr hlk hP hS dX1_place_39 (Nat.le_of_ble_eq_true rfl) (Nat.le_of_ble_eq_true rfl) h rfl
        · have h := in_ h c_7
          refine lv_iconst (v := 1) hx hb dX1_place_19 (by decide) ?_
          refine lv_goto (tgt := 24) hx hb dX1_place_20 (by decide) ?_
          refine lv_istore_n (lv' := [(2, .int 1), (0, .int p0), (1, .int p1)]) hx hb dX1_place_24 rfl hl (by decide) rfl (fun ls hl => ?_)
          refine lv_iload_n hx hb dX1_place_25 rfl (lv_at hl 0 rfl) ?_
          refine lv_if_eq (tgt := 38) hx hb dX1_place_26 (by decide) (fun c_9 => absurd c_9 (by decide)) (fun _ => ?_)
          refine lv_iload_n hx hb dX1_place_29 rfl (lv_at hl 1 rfl) ?_
          refine lv_bipush (v := 6) hx hb dX1_place_30 (by decide) ?_
          refine lv_imul hx hb dX1_place_32 ?_
          refine lv_iload_n hx hb dX1_place_33 rfl (lv_at hl 2 rfl) ?_
          refine lv_iadd hx hb dX1_place_34 ?_
          refine lv_goto (tgt := 39) hx hb dX1_place_35 (by decide) ?_
          exact eI hx hb hr hlk hP hS dX1_place_39 (Nat.le_of_ble_eq_true rfl) (Nat.le_of_ble_eq_true rfl) h rfl
noncomputable def fX1_at (G : Nat → Nat → Int32) (p0 : Int32) (p1 : Int32) : Int32 := rAt 30 (G 11) (fX1_place p0 p1)
set_option maxHeartbeats 4000000 in
set_option maxRecDepth 100000 in
theorem c_X1_at (l : Launch) (D : va_G) (cI cJ : ClassId) (a : Nat → Nat) (G : Nat → Nat → Int32) (g : Nat → Int32) (p0 : Int32) (p1 : Int32) (rs : va_W) (r' : Int32) (h : fX1_at G p0 p1 = r') : Ci l yX1_at wsX1_at ({ frames := 1, cells := 0, slots := 0, locals := 22 } : Room) D cI cJ ([.ref (a 3), .int p0, .int p1] : List Value) (wl cI a G g ++ rs) r' (wl cI a G g ++ rs) := by
  refine Ci.mk (cc := cX1_at) (maxL := 3) (ret := (some .int)) (by decide) rfl (Nat.le_of_ble_eq_true rfl) ?_
  intro p e s m below meth c A ls B hr hlk hK hN hA hP hD hl
  obtain ⟨hx, hb, hml, hown, hts⟩ := id B
  have hi_X1 : ∀ w ∈ wsX10, w ∈ wsX1_at := fun _ h => List.mem_cons_of_mem _ (List.mem_append_left _ (List.mem_append_left _ (List.mem_append_right _ (h))))
  have hS : va_S A s.heap s.heap [] := va_S.rf
  have hl : lv_has ls 3 [(0, .ref (a 3)), (1, .int p0), (2, .int p1)] := hl
  unfold fX1_at at h
  refine lv_aload_n hx hb dX1_at_0 rfl (lv_at hl 0 rfl) ?_
  refine va_get (ci := 4) (v := .ref (a 15)) (C := RX1) (T := TX1) (N := 1) hx hb hts hi_X1 hown hK hP 3 rfl rfl 0 (by decide) (hts (.fieldLink RX1 14 "WishWell$Layers" "cells" "LWishWell$Row;") (List.mem_of_getElem? (i := 1) rfl)) (fun _ h9 => h9) rfl dX1_at_1 ?_
  refine lv_iload_n hx hb dX1_at_4 rfl (lv_at hl 1 rfl) ?_
  refine lv_iload_n hx hb dX1_at_5 rfl (lv_at hl 2 rfl) ?_
  refine kSi (As := [.int p0, .int p1]) (rest := [.ref (a 15)]) B hK hN hP hD hS hA (c_X1_place l D cI cJ  p0 p1 (wl cI a G g ++ rs) _ rfl) (va_cwS 2 hts gX1_at_X1_place rfl rfl rfl (by decide +kernel) ⟨(Nat.le_of_ble_eq_true rfl), (Nat.le_of_ble_eq_true rfl)⟩) rfl hl.1 rfl (Nat.le_of_ble_eq_true rfl) dX1_at_6 ⟨(Nat.le_of_ble_eq_true rfl), (Nat.le_of_ble_eq_true rfl)⟩ rfl (fun H locs hP hD hS => ?_)
  refine kVi (As := [.int (fX1_place p0 p1)]) (rest := []) B hK hN hP hD hS hA (c_X2_at l D cI cJ _ _ _ 30 (G 11) 15 27 rfl rfl (by decide) (fX1_place p0 p1)) (cwV 1 hts gX1_at_X2_at rfl rfl rfl (by decide +kernel) ⟨(Nat.le_of_ble_eq_true rfl), (Nat.le_of_ble_eq_true rfl)⟩) 5 15 rfl rfl rfl hl.1 rfl (Nat.le_of_ble_eq_true rfl) dX1_at_9 ⟨(Nat.le_of_ble_eq_true rfl), (Nat.le_of_ble_eq_true rfl)⟩ rfl (fun H locs hP hD hS => ?_)
  exact eI hx hb hr hlk hP hS dX1_at_12 (Nat.le_of_ble_eq_true rfl) (Nat.le_of_ble_eq_true rfl) h rfl
noncomputable def fX1_add (G : Nat → Nat → Int32) (p0 : Int32) (p1 : Int32) (p2 : Int32) : Option ((Nat → Nat → Int32)) := lt_ (uG G 11 (rAdd 30 (G 11) (fX1_place p0 p1) p2)) (fun G_1 => some G_1)
set_option maxHeartbeats 4000000 in
set_option maxRecDepth 100000 in
theorem c_X1_add (l : Launch) (D : va_G) (cI cJ : ClassId) (a : Nat → Nat) (G : Nat → Nat → Int32) (g : Nat → Int32) (p0 : Int32) (p1 : Int32) (p2 : Int32) (G' : Nat → Nat → Int32) (rs : va_W) (h : fX1_add G p0 p1 p2 = some G') : Cv l yX1_add wsX1_add ({ frames := 1, cells := 0, slots := 0, locals := 22 } : Room) D cI cJ ([.ref (a 3), .int p0, .int p1, .int p2] : List Value) (wl cI a G g ++ rs) (wl cI a G' g ++ rs) := by
  refine Cv.mk (cc := cX1_add) (maxL := 4) (ret := none) (by decide) rfl (Nat.le_of_ble_eq_true rfl) ?_
  intro p e s m below meth c A ls B hr hlk hK hN hA hP hD hl
  obtain ⟨hx, hb, hml, hown, hts⟩ := id B
  have hi_X1 : ∀ w ∈ wsX10, w ∈ wsX1_add := fun _ h => List.mem_cons_of_mem _ (List.mem_append_left _ (List.mem_append_left _ (List.mem_append_right _ (h))))
  have hS : va_S A s.heap s.heap [] := va_S.rf
  have hl : lv_has ls 4 [(0, .ref (a 3)), (1, .int p0), (2, .int p1), (3, .int p2)] := hl
  unfold fX1_add at h
  refine lv_aload_n hx hb dX1_add_0 rfl (lv_at hl 0 rfl) ?_
  refine va_get (ci := 4) (v := .ref (a 15)) (C := RX1) (T := TX1) (N := 1) hx hb hts hi_X1 hown hK hP 3 rfl rfl 0 (by decide) (hts (.fieldLink RX1 14 "WishWell$Layers" "cells" "LWishWell$Row;") (List.mem_of_getElem? (i := 1) rfl)) (fun _ h9 => h9) rfl dX1_add_1 ?_
  refine lv_iload_n hx hb dX1_add_4 rfl (lv_at hl 1 rfl) ?_
  refine lv_iload_n hx hb dX1_add_5 rfl (lv_at hl 2 rfl) ?_
  refine kSi (As := [.int p0, .int p1]) (rest := [.ref (a 15)]) B hK hN hP hD hS hA (c_X1_place l D cI cJ  p0 p1 (wl cI a G g ++ rs) _ rfl) (va_cwS 2 hts gX1_add_X1_place rfl rfl rfl (by decide +kernel) ⟨(Nat.le_of_ble_eq_true rfl), (Nat.le_of_ble_eq_true rfl)⟩) rfl hl.1 rfl (Nat.le_of_ble_eq_true rfl) dX1_add_6 ⟨(Nat.le_of_ble_eq_true rfl), (Nat.le_of_ble_eq_true rfl)⟩ rfl (fun H locs hP hD hS => ?_)
  refine lv_iload_n hx hb dX1_add_9 rfl (lv_at hl 3 rfl) ?_
  refine kVv (As := [.int (fX1_place p0 p1), .int p2]) (rest := []) B hK hN hP hD hS hA (c_X2_add l D cI cJ _ (wl cI a (uG G 11 (rAdd 30 (G 11) (fX1_place p0 p1) p2)) g ++ rs) _ _ 30 (G 11) 15 27 rfl rfl (by decide) (fX1_place p0 p1) p2 rfl rfl) (cwV 2 hts gX1_add_X2_add rfl rfl rfl (by decide +kernel) ⟨(Nat.le_of_ble_eq_true rfl), (Nat.le_of_ble_eq_true rfl)⟩) 5 15 rfl rfl rfl hl.1 rfl (Nat.le_of_ble_eq_true rfl) dX1_add_10 ⟨(Nat.le_of_ble_eq_true rfl), (Nat.le_of_ble_eq_true rfl)⟩ rfl (fun H locs hP hD hS => ?_)
  obtain ⟨G_1, eG_1, h⟩ := lt_I h
  have hP : va_P D vwCl (wl cI a G_1 g ++ rs) H := by rw [eG_1]; exact hP
  have hD : va_D A (wl cI a G_1 g ++ rs) := by rw [eG_1]; exact hD
  have h0 := o1 h
  exact eV hx hb hr hlk hP hS dX1_add_13 (Nat.le_of_ble_eq_true rfl) (Nat.le_of_ble_eq_true rfl) (by rw [h0])
noncomputable def fX1_coinsIn_B4 (G : Nat → Nat → Int32) (p0 : Int32) (x2_1 : Int32) (x3_1 : Int32)  : Option ((Int32 × Int32) ⊕ (Int32 × Int32)) := if 6 ≤ x3_1 then (some (.inr (x2_1, x3_1))) else (lt_ (x2_1 + (fX1_at G p0 x3_1)) (fun y2_3 => some (.inl (y2_3, x3_1 + 1))))
noncomputable def fX1_coinsIn (G : Nat → Nat → Int32) (p0 : Int32) : Option (Int32) := b2 (lp (fun s => fX1_coinsIn_B4 G p0 s.1 s.2) 7 (0, 0)) (fun z2_1 z3_1 => some z2_1)
set_option maxHeartbeats 4000000 in
set_option maxRecDepth 100000 in
theorem c_X1_coinsIn (l : Launch) (D : va_G) (cI cJ : ClassId) (a : Nat → Nat) (G : Nat → Nat → Int32) (g : Nat → Int32) (p0 : Int32) (r' : Int32) (rs : va_W) (h : fX1_coinsIn G p0 = some r') : Ci l yX1_coinsIn wsX1_coinsIn ({ frames := 2, cells := 0, slots := 0, locals := 44 } : Room) D cI cJ ([.ref (a 3), .int p0] : List Value) (wl cI a G g ++ rs) r' (wl cI a G g ++ rs) := by
  refine Ci.mk (cc := cX1_coinsIn) (maxL := 4) (ret := (some .int)) (by decide) rfl (Nat.le_of_ble_eq_true rfl) ?_
  intro p e s m below meth c A ls B hr hlk hK hN hA hP hD hl
  obtain ⟨hx, hb, hml, hown, hts⟩ := id B
  have hS : va_S A s.heap s.heap [] := va_S.rf
  have hl : lv_has ls 4 [(0, .ref (a 3)), (1, .int p0)] := hl
  unfold fX1_coinsIn at h
  refine lv_iconst (v := 0) hx hb dX1_coinsIn_0 (by decide) ?_
  refine lv_istore_n (lv' := [(2, .int 0), (0, .ref (a 3)), (1, .int p0)]) hx hb dX1_coinsIn_1 rfl hl (by decide) rfl (fun ls hl => ?_)
  refine lv_iconst (v := 0) hx hb dX1_coinsIn_2 (by decide) ?_
  refine lv_istore_n (lv' := [(3, .int 0), (2, .int 0), (0, .ref (a 3)), (1, .int p0)]) hx hb dX1_coinsIn_3 rfl hl (by decide) rfl (fun ls hl => ?_)
  have L4_1 : ∀ (n : Nat) (x2_1 : Int32) (x3_1 : Int32)  (z2_1 : Int32) (z3_1 : Int32)  (_ : lp (fun s => fX1_coinsIn_B4 G p0 s.1 s.2) n (x2_1, x3_1) = some (z2_1, z3_1)) (_ : ∀ (H : Heap) (locs : List Loc) (ls : Array Slot), va_P D vwCl (wl cI a G g ++ rs) H → va_D A (wl cI a G g ++ rs) → va_S A s.heap H locs → lv_has ls 4 [(0, .ref (a 3)), (1, .int p0), (2, .int z2_1), (3, .int z3_1)] → W p l e (headSpec wsX1_coinsIn ({ frames := 2, cells := 0, slots := 0, locals := 44 } : Room)).room s m ([.ref (a 3), .int p0] : List Value).toArray below meth c H locs (0) (0) (QI below D (wl cI a G g ++ rs) r' ([.ref (a 3), .int p0] : List Value).toArray s 0 0 A) (F0 m 25 ls [])) (H : Heap) (locs : List Loc) (ls : Array Slot), va_P D vwCl (wl cI a G g ++ rs) H → va_D A (wl cI a G g ++ rs) → va_S A s.heap H locs → lv_has ls 4 [(0, .ref (a 3)), (1, .int p0), (2, .int x2_1), (3, .int x3_1)] → W p l e (headSpec wsX1_coinsIn ({ frames := 2, cells := 0, slots := 0, locals := 44 } : Room)).room s m ([.ref (a 3), .int p0] : List Value).toArray below meth c H locs (0) (0) (QI below D (wl cI a G g ++ rs) r' ([.ref (a 3), .int p0] : List Value).toArray s 0 0 A) (F0 m 4 ls []) := by
    intro n
    induction n with
    | zero => intro x2_1 x3_1 z2_1 z3_1 h; exact (lp_0 h).elim
    | succ n ih =>
      intro x2_1 x3_1 z2_1 z3_1 h kk H locs ls hP hD hS hl
      obtain ⟨z, h, hz⟩ := lp_walk h
      have h : fX1_coinsIn_B4 G p0 x2_1 x3_1 = some z := h
      unfold fX1_coinsIn_B4 at h
      refine lv_iload_n hx hb dX1_coinsIn_4 rfl (lv_at hl 3 rfl) ?_
      refine lv_bipush (v := 6) hx hb dX1_coinsIn_5 (by decide) ?_
      refine lv_icmp_ge (tgt := 25) hx hb dX1_coinsIn_7 (by decide) (fun c_2 => ?_) (fun c_2 => ?_)
      · have h := ip_ h c_2
        cases lz_e h hz
        exact kk _ _ _ hP hD hS (lv_sub hl [0, 1, 2, 3] rfl)
      · have h := in_ h c_2
        refine lv_iload_n hx hb dX1_coinsIn_10 rfl (lv_at hl 2 rfl) ?_
        refine lv_aload_n hx hb dX1_coinsIn_11 rfl (lv_at hl 0 rfl) ?_
        refine lv_iload_n hx hb dX1_coinsIn_12 rfl (lv_at hl 1 rfl) ?_
        refine lv_iload_n hx hb dX1_coinsIn_13 rfl (lv_at hl 3 rfl) ?_
        refine kVi (As := [.int p0, .int x3_1]) (rest := [.int x2_1]) B hK hN hP hD hS hA (c_X1_at l D cI cJ a G g p0 x3_1 rs _ rfl) (cwV 2 hts gX1_coinsIn_X1_at rfl rfl rfl (by decide +kernel) ⟨(Nat.le_of_ble_eq_true rfl), (Nat.le_of_ble_eq_true rfl)⟩) 4 3 rfl rfl rfl hl.1 rfl (Nat.le_of_ble_eq_true rfl) dX1_coinsIn_14 ⟨(Nat.le_of_ble_eq_true rfl), (Nat.le_of_ble_eq_true rfl)⟩ rfl (fun H locs hP hD hS => ?_)
        refine lv_iadd hx hb dX1_coinsIn_17 ?_
        obtain ⟨y2_3, ey2_3, h⟩ := lt_I h
        rw [← ey2_3]
        refine lv_istore_n (lv' := [(2, .int y2_3), (0, .ref (a 3)), (1, .int p0), (3, .int x3_1)]) hx hb dX1_coinsIn_18 rfl hl (by decide) rfl (fun ls hl => ?_)
        refine lv_iinc (v := x3_1 + 1) (lv' := [(3, .int (x3_1 + 1)), (2, .int y2_3), (0, .ref (a 3)), (1, .int p0)]) hx hb dX1_coinsIn_19 hl (k := 3) rfl rfl (by decide) rfl (fun ls hl => ?_)
        refine lv_goto (tgt := 4) hx hb dX1_coinsIn_22 (by decide) ?_
        exact ih y2_3 (x3_1 + 1) _ _ (lz_c h hz) kk _ _ _ hP hD hS (lv_sub hl [2, 3, 1, 0] rfl)
  obtain ⟨z2_1, z3_1, hl_1, h⟩ := b2_I h
  refine L4_1 7 0 0  z2_1 z3_1 hl_1 (fun H locs ls hP hD hS hl => ?_) _ _ _ hP hD hS (lv_sub hl [2, 3, 1, 0] rfl)
  refine lv_iload_n hx hb dX1_coinsIn_25 rfl (lv_at hl 2 rfl) ?_
  have h0 := o1 h
  exact eI hx hb hr hlk hP hS dX1_coinsIn_26 (Nat.le_of_ble_eq_true rfl) (Nat.le_of_ble_eq_true rfl) h0 rfl
noncomputable def fX1_coinsOf_B4 (G : Nat → Nat → Int32) (p0 : Int32) (x2_1 : Int32) (x3_1 : Int32)  : Option ((Int32 × Int32) ⊕ (Int32 × Int32)) := if 5 ≤ x3_1 then (some (.inr (x2_1, x3_1))) else (lt_ (x2_1 + (fX1_at G x3_1 p0)) (fun y2_3 => some (.inl (y2_3, x3_1 + 1))))
noncomputable def fX1_coinsOf (G : Nat → Nat → Int32) (p0 : Int32) : Option (Int32) := b2 (lp (fun s => fX1_coinsOf_B4 G p0 s.1 s.2) 6 (0, 0)) (fun z2_1 z3_1 => some z2_1)
set_option maxHeartbeats 4000000 in
set_option maxRecDepth 100000 in
theorem c_X1_coinsOf (l : Launch) (D : va_G) (cI cJ : ClassId) (a : Nat → Nat) (G : Nat → Nat → Int32) (g : Nat → Int32) (p0 : Int32) (r' : Int32) (rs : va_W) (h : fX1_coinsOf G p0 = some r') : Ci l yX1_coinsOf wsX1_coinsOf ({ frames := 2, cells := 0, slots := 0, locals := 44 } : Room) D cI cJ ([.ref (a 3), .int p0] : List Value) (wl cI a G g ++ rs) r' (wl cI a G g ++ rs) := by
  refine Ci.mk (cc := cX1_coinsOf) (maxL := 4) (ret := (some .int)) (by decide) rfl (Nat.le_of_ble_eq_true rfl) ?_
  intro p e s m below meth c A ls B hr hlk hK hN hA hP hD hl
  obtain ⟨hx, hb, hml, hown, hts⟩ := id B
  have hS : va_S A s.heap s.heap [] := va_S.rf
  have hl : lv_has ls 4 [(0, .ref (a 3)), (1, .int p0)] := hl
  unfold fX1_coinsOf at h
  refine lv_iconst (v := 0) hx hb dX1_coinsOf_0 (by decide) ?_
  refine lv_istore_n (lv' := [(2, .int 0), (0, .ref (a 3)), (1, .int p0)]) hx hb dX1_coinsOf_1 rfl hl (by decide) rfl (fun ls hl => ?_)
  refine lv_iconst (v := 0) hx hb dX1_coinsOf_2 (by decide) ?_
  refine lv_istore_n (lv' := [(3, .int 0), (2, .int 0), (0, .ref (a 3)), (1, .int p0)]) hx hb dX1_coinsOf_3 rfl hl (by decide) rfl (fun ls hl => ?_)
  have L4_1 : ∀ (n : Nat) (x2_1 : Int32) (x3_1 : Int32)  (z2_1 : Int32) (z3_1 : Int32)  (_ : lp (fun s => fX1_coinsOf_B4 G p0 s.1 s.2) n (x2_1, x3_1) = some (z2_1, z3_1)) (_ : ∀ (H : Heap) (locs : List Loc) (ls : Array Slot), va_P D vwCl (wl cI a G g ++ rs) H → va_D A (wl cI a G g ++ rs) → va_S A s.heap H locs → lv_has ls 4 [(0, .ref (a 3)), (1, .int p0), (2, .int z2_1), (3, .int z3_1)] → W p l e (headSpec wsX1_coinsOf ({ frames := 2, cells := 0, slots := 0, locals := 44 } : Room)).room s m ([.ref (a 3), .int p0] : List Value).toArray below meth c H locs (0) (0) (QI below D (wl cI a G g ++ rs) r' ([.ref (a 3), .int p0] : List Value).toArray s 0 0 A) (F0 m 24 ls [])) (H : Heap) (locs : List Loc) (ls : Array Slot), va_P D vwCl (wl cI a G g ++ rs) H → va_D A (wl cI a G g ++ rs) → va_S A s.heap H locs → lv_has ls 4 [(0, .ref (a 3)), (1, .int p0), (2, .int x2_1), (3, .int x3_1)] → W p l e (headSpec wsX1_coinsOf ({ frames := 2, cells := 0, slots := 0, locals := 44 } : Room)).room s m ([.ref (a 3), .int p0] : List Value).toArray below meth c H locs (0) (0) (QI below D (wl cI a G g ++ rs) r' ([.ref (a 3), .int p0] : List Value).toArray s 0 0 A) (F0 m 4 ls []) := by
    intro n
    induction n with
    | zero => intro x2_1 x3_1 z2_1 z3_1 h; exact (lp_0 h).elim
    | succ n ih =>
      intro x2_1 x3_1 z2_1 z3_1 h kk H locs ls hP hD hS hl
      obtain ⟨z, h, hz⟩ := lp_walk h
      have h : fX1_coinsOf_B4 G p0 x2_1 x3_1 = some z := h
      unfold fX1_coinsOf_B4 at h
      refine lv_iload_n hx hb dX1_coinsOf_4 rfl (lv_at hl 3 rfl) ?_
      refine lv_iconst (v := 5) hx hb dX1_coinsOf_5 (by decide) ?_
      refine lv_icmp_ge (tgt := 24) hx hb dX1_coinsOf_6 (by decide) (fun c_2 => ?_) (fun c_2 => ?_)
      · have h := ip_ h c_2
        cases lz_e h hz
        exact kk _ _ _ hP hD hS (lv_sub hl [0, 1, 2, 3] rfl)
      · have h := in_ h c_2
        refine lv_iload_n hx hb dX1_coinsOf_9 rfl (lv_at hl 2 rfl) ?_
        refine lv_aload_n hx hb dX1_coinsOf_10 rfl (lv_at hl 0 rfl) ?_
        refine lv_iload_n hx hb dX1_coinsOf_11 rfl (lv_at hl 3 rfl) ?_
        refine lv_iload_n hx hb dX1_coinsOf_12 rfl (lv_at hl 1 rfl) ?_
        refine kVi (As := [.int x3_1, .int p0]) (rest := [.int x2_1]) B hK hN hP hD hS hA (c_X1_at l D cI cJ a G g x3_1 p0 rs _ rfl) (cwV 2 hts gX1_coinsOf_X1_at rfl rfl rfl (by decide +kernel) ⟨(Nat.le_of_ble_eq_true rfl), (Nat.le_of_ble_eq_true rfl)⟩) 4 3 rfl rfl rfl hl.1 rfl (Nat.le_of_ble_eq_true rfl) dX1_coinsOf_13 ⟨(Nat.le_of_ble_eq_true rfl), (Nat.le_of_ble_eq_true rfl)⟩ rfl (fun H locs hP hD hS => ?_)
        refine lv_iadd hx hb dX1_coinsOf_16 ?_
        obtain ⟨y2_3, ey2_3, h⟩ := lt_I h
        rw [← ey2_3]
        refine lv_istore_n (lv' := [(2, .int y2_3), (0, .ref (a 3)), (1, .int p0), (3, .int x3_1)]) hx hb dX1_coinsOf_17 rfl hl (by decide) rfl (fun ls hl => ?_)
        refine lv_iinc (v := x3_1 + 1) (lv' := [(3, .int (x3_1 + 1)), (2, .int y2_3), (0, .ref (a 3)), (1, .int p0)]) hx hb dX1_coinsOf_18 hl (k := 3) rfl rfl (by decide) rfl (fun ls hl => ?_)
        refine lv_goto (tgt := 4) hx hb dX1_coinsOf_21 (by decide) ?_
        exact ih y2_3 (x3_1 + 1) _ _ (lz_c h hz) kk _ _ _ hP hD hS (lv_sub hl [2, 3, 1, 0] rfl)
  obtain ⟨z2_1, z3_1, hl_1, h⟩ := b2_I h
  refine L4_1 6 0 0  z2_1 z3_1 hl_1 (fun H locs ls hP hD hS hl => ?_) _ _ _ hP hD hS (lv_sub hl [2, 3, 1, 0] rfl)
  refine lv_iload_n hx hb dX1_coinsOf_24 rfl (lv_at hl 2 rfl) ?_
  have h0 := o1 h
  exact eI hx hb hr hlk hP hS dX1_coinsOf_25 (Nat.le_of_ble_eq_true rfl) (Nat.le_of_ble_eq_true rfl) h0 rfl
noncomputable def fX1_uppermostOf_B2 (G : Nat → Nat → Int32) (p0 : Int32) (x2_1 : Int32)  : Option ((Int32) ⊕ ((Int32) ⊕ (Int32))) := if 5 ≤ x2_1 then (some (.inr (.inl (x2_1)))) else (if (fX1_at G x2_1 p0) ≤ 0 then (some (.inl (x2_1 + 1))) else (some (.inr (.inr x2_1))))
noncomputable def fX1_uppermostOf (G : Nat → Nat → Int32) (p0 : Int32) : Option (Int32) := ((lp (fun s => fX1_uppermostOf_B2 G p0 s) 6 (0))).bind (fun zz_1 => se zz_1 (fun t_1 => some (-1)))
set_option maxHeartbeats 4000000 in
set_option maxRecDepth 100000 in
theorem c_X1_uppermostOf (l : Launch) (D : va_G) (cI cJ : ClassId) (a : Nat → Nat) (G : Nat → Nat → Int32) (g : Nat → Int32) (p0 : Int32) (r' : Int32) (rs : va_W) (h : fX1_uppermostOf G p0 = some r') : Ci l yX1_uppermostOf wsX1_uppermostOf ({ frames := 2, cells := 0, slots := 0, locals := 44 } : Room) D cI cJ ([.ref (a 3), .int p0] : List Value) (wl cI a G g ++ rs) r' (wl cI a G g ++ rs) := by
  refine Ci.mk (cc := cX1_uppermostOf) (maxL := 3) (ret := (some .int)) (by decide) rfl (Nat.le_of_ble_eq_true rfl) ?_
  intro p e s m below meth c A ls B hr hlk hK hN hA hP hD hl
  obtain ⟨hx, hb, hml, hown, hts⟩ := id B
  have hS : va_S A s.heap s.heap [] := va_S.rf
  have hl : lv_has ls 3 [(0, .ref (a 3)), (1, .int p0)] := hl
  unfold fX1_uppermostOf at h
  refine lv_iconst (v := 0) hx hb dX1_uppermostOf_0 (by decide) ?_
  refine lv_istore_n (lv' := [(2, .int 0), (0, .ref (a 3)), (1, .int p0)]) hx hb dX1_uppermostOf_1 rfl hl (by decide) rfl (fun ls hl => ?_)
  have L2_1 : ∀ (n : Nat) (x2_1 : Int32)  (zz : (Int32) ⊕ (Int32)) (_ : lp (fun s => fX1_uppermostOf_B2 G p0 s) n x2_1 = some zz) (_ : ∀ (z2_1 : Int32) , zz = .inl z2_1 → ∀ (H : Heap) (locs : List Loc) (ls : Array Slot), va_P D vwCl (wl cI a G g ++ rs) H → va_D A (wl cI a G g ++ rs) → va_S A s.heap H locs → lv_has ls 3 [(0, .ref (a 3)), (1, .int p0), (2, .int z2_1)] → W p l e (headSpec wsX1_uppermostOf ({ frames := 2, cells := 0, slots := 0, locals := 44 } : Room)).room s m ([.ref (a 3), .int p0] : List Value).toArray below meth c H locs (0) (0) (QI below D (wl cI a G g ++ rs) r' ([.ref (a 3), .int p0] : List Value).toArray s 0 0 A) (F0 m 24 ls [])) (_ : ∀ o, zz = .inr o → o = r') (H : Heap) (locs : List Loc) (ls : Array Slot), va_P D vwCl (wl cI a G g ++ rs) H → va_D A (wl cI a G g ++ rs) → va_S A s.heap H locs → lv_has ls 3 [(0, .ref (a 3)), (1, .int p0), (2, .int x2_1)] → W p l e (headSpec wsX1_uppermostOf ({ frames := 2, cells := 0, slots := 0, locals := 44 } : Room)).room s m ([.ref (a 3), .int p0] : List Value).toArray below meth c H locs (0) (0) (QI below D (wl cI a G g ++ rs) r' ([.ref (a 3), .int p0] : List Value).toArray s 0 0 A) (F0 m 2 ls []) := by
    intro n
    induction n with
    | zero => intro x2_1 zz h; exact (lp_0 h).elim
    | succ n ih =>
      intro x2_1 zz h kk kr H locs ls hP hD hS hl
      obtain ⟨z, h, hz⟩ := lp_walk h
      have h : fX1_uppermostOf_B2 G p0 x2_1 = some z := h
      unfold fX1_uppermostOf_B2 at h
      refine lv_iload_n hx hb dX1_uppermostOf_2 rfl (lv_at hl 2 rfl) ?_
      refine lv_iconst (v := 5) hx hb dX1_uppermostOf_3 (by decide) ?_
      refine lv_icmp_ge (tgt := 24) hx hb dX1_uppermostOf_4 (by decide) (fun c_2 => ?_) (fun c_2 => ?_)
      · have h := ip_ h c_2
        cases lz_e h hz
        exact kk _ rfl _ _ _ hP hD hS (lv_sub hl [0, 1, 2] rfl)
      · have h := in_ h c_2
        refine lv_aload_n hx hb dX1_uppermostOf_7 rfl (lv_at hl 0 rfl) ?_
        refine lv_iload_n hx hb dX1_uppermostOf_8 rfl (lv_at hl 2 rfl) ?_
        refine lv_iload_n hx hb dX1_uppermostOf_9 rfl (lv_at hl 1 rfl) ?_
        refine kVi (As := [.int x2_1, .int p0]) (rest := []) B hK hN hP hD hS hA (c_X1_at l D cI cJ a G g x2_1 p0 rs _ rfl) (cwV 2 hts gX1_uppermostOf_X1_at rfl rfl rfl (by decide +kernel) ⟨(Nat.le_of_ble_eq_true rfl), (Nat.le_of_ble_eq_true rfl)⟩) 4 3 rfl rfl rfl hl.1 rfl (Nat.le_of_ble_eq_true rfl) dX1_uppermostOf_10 ⟨(Nat.le_of_ble_eq_true rfl), (Nat.le_of_ble_eq_true rfl)⟩ rfl (fun H locs hP hD hS => ?_)
        refine lv_if_le (tgt := 18) hx hb dX1_uppermostOf_13 (by decide) (fun c_3 => ?_) (fun c_3 => ?_)
        · have h := ip_ h c_3
          refine lv_iinc (v := x2_1 + 1) (lv' := [(2, .int (x2_1 + 1)), (0, .ref (a 3)), (1, .int p0)]) hx hb dX1_uppermostOf_18 hl (k := 2) rfl rfl (by decide) rfl (fun ls hl => ?_)
          refine lv_goto (tgt := 2) hx hb dX1_uppermostOf_21 (by decide) ?_
          exact ih (x2_1 + 1) _ (lz_c h hz) kk kr _ _ _ hP hD hS (lv_sub hl [1, 2, 0] rfl)
        · have h := in_ h c_3
          refine lv_iload_n hx hb dX1_uppermostOf_16 rfl (lv_at hl 2 rfl) ?_
          have h := kr _ (lz_e h hz).symm
          have h := congrArg some h
          have h0 := o1 h
          exact eI hx hb hr hlk hP hS dX1_uppermostOf_17 (Nat.le_of_ble_eq_true rfl) (Nat.le_of_ble_eq_true rfl) h0 rfl
  obtain ⟨zz_1, hl_1, h⟩ := bd_I h
  refine L2_1 6 0  zz_1 hl_1 (fun z2_1 ez H locs ls hP hD hS hl => ?_) (fun o ez => by subst ez; exact Option.some.inj h) _ _ _ hP hD hS (lv_sub hl [1, 2, 0] rfl)
  subst ez
  replace h : _ = _ := h
  simp only [se] at h
  refine lv_iconst (v := (-1)) hx hb dX1_uppermostOf_24 (by decide) ?_
  have h0 := o1 h
  exact eI hx hb hr hlk hP hS dX1_uppermostOf_25 (Nat.le_of_ble_eq_true rfl) (Nat.le_of_ble_eq_true rfl) h0 rfl
