/-! laid by wip/whole/gen.py -/
noncomputable def fX3_receiveVisitors_B28 (y1_2 : Int32) (x2_3 : Int32) (G_3 : Nat → Nat → Int32) (g_3 : Nat → Int32) : Option ((Int32 × (Nat → Nat → Int32) × (Nat → Int32)) ⊕ (Int32 × (Nat → Nat → Int32) × (Nat → Int32))) := if y1_2 ≤ x2_3 then (some (.inr (x2_3, G_3, g_3))) else (gd (¬ (g_3 5) = 0) (b2 (fX3_throwCoin G_3 g_3 (((g_3 0) + x2_3) - ((g_3 0) + x2_3) / (g_3 5) * (g_3 5))) (fun G_6 g_7 => some (.inl (x2_3 + 1, G_6, g_7)))))
noncomputable def fX3_receiveVisitors (G : Nat → Nat → Int32) (g : Nat → Int32) : Option ((Nat → Nat → Int32) × (Nat → Int32)) := if 0 < (g 5) then (lt_ (rAt 7 (G 0) ((g 0) - (g 0) / 7 * 7)) (fun y1_2 => b3 (lp (fun s => fX3_receiveVisitors_B28 y1_2 s.1 s.2.1 s.2.2) 10 (0, G, g)) (fun z2_3 Gz_3 gz_3 => some (Gz_3, gz_3)))) else (some (G, g))
set_option maxHeartbeats 4000000 in
set_option maxRecDepth 100000 in
theorem c_X3_receiveVisitors (l : Launch) (D : va_G) (cI cJ : ClassId) (a : Nat → Nat) (G : Nat → Nat → Int32) (g : Nat → Int32) (G' : Nat → Nat → Int32) (g' : Nat → Int32) (rs : va_W) (h : fX3_receiveVisitors G g = some (G', g')) : Cv l yX3_receiveVisitors wsX3_receiveVisitors ({ frames := 3, cells := 0, slots := 0, locals := 66 } : Room) D cI cJ ([.ref (a 0)] : List Value) (wl cI a G g ++ rs) (wl cI a G' g' ++ rs) := by
  refine Cv.mk (cc := cX3_receiveVisitors) (maxL := 3) (ret := none) (by decide) rfl (Nat.le_of_ble_eq_true rfl) ?_
  intro p e s m below meth c A ls B hr hlk hK hN hA hP hD hl
  obtain ⟨hx, hb, hml, hown, hts⟩ := id B
  have hi_X0 : ∀ w ∈ wsX00, w ∈ wsX3_receiveVisitors := fun _ h => List.mem_cons_of_mem _ (List.mem_append_left _ (List.mem_append_left _ (List.mem_append_left _ (List.mem_append_right _ (h)))))
  have hi_X3 : ∀ w ∈ wsX30, w ∈ wsX3_receiveVisitors := fun _ h => List.mem_cons_of_mem _ (List.mem_append_left _ (List.mem_append_left _ (List.mem_append_left _ (List.mem_append_left _ (List.mem_append_right _ (h))))))
  have hS : va_S A s.heap s.heap [] := va_S.rf
  have hl : lv_has ls 3 [(0, .ref (a 0))] := hl
  unfold fX3_receiveVisitors at h
  refine lv_aload_n hx hb dX3_receiveVisitors_0 rfl (lv_at hl 0 rfl) ?_
  refine va_get (ci := 6) (v := .ref (a 1)) (C := RX3) (T := TX3) (N := 9) hx hb hts hi_X3 hown hK hP 0 rfl rfl 0 (by decide) (hts (.fieldLink RX3 12 "WishWell$Well" "lands" "LWishWell$Lands;") (List.mem_of_getElem? (i := 1) rfl)) (fun _ h9 => h9) rfl dX3_receiveVisitors_1 ?_
  refine va_get (ci := 3) (v := .int (g 5)) (C := RX0) (T := TX0) (N := 6) hx hb hts hi_X0 hown hK hP 1 rfl rfl 5 (by decide) (hts (.fieldLink RX3 95 "WishWell$Lands" "size" "I") (List.mem_of_getElem? (i := 2) rfl)) (fun _ h9 => h9) rfl dX3_receiveVisitors_4 ?_
  refine lv_if_gt (tgt := 11) hx hb dX3_receiveVisitors_7 (by decide) (fun c_1 => ?_) (fun c_1 => ?_)
  · have h := ip_ h c_1
    refine lv_aload_n hx hb dX3_receiveVisitors_11 rfl (lv_at hl 0 rfl) ?_
    refine va_get (ci := 6) (v := .ref (a 4)) (C := RX3) (T := TX3) (N := 9) hx hb hts hi_X3 hown hK hP 0 rfl rfl 3 (by decide) (hts (.fieldLink RX3 37 "WishWell$Well" "tide" "LWishWell$Row;") (List.mem_of_getElem? (i := 3) rfl)) (fun _ h9 => h9) rfl dX3_receiveVisitors_12 ?_
    refine lv_aload_n hx hb dX3_receiveVisitors_15 rfl (lv_at hl 0 rfl) ?_
    refine va_get (ci := 6) (v := .int (g 0)) (C := RX3) (T := TX3) (N := 9) hx hb hts hi_X3 hown hK hP 0 rfl rfl 4 (by decide) (hts (.fieldLink RX3 118 "WishWell$Well" "day" "I") (List.mem_of_getElem? (i := 4) rfl)) (fun _ h9 => h9) rfl dX3_receiveVisitors_16 ?_
    refine lv_bipush (v := 7) hx hb dX3_receiveVisitors_19 (by decide) ?_
    refine lv_irem hx hb dX3_receiveVisitors_21 (by decide) ?_
    refine kVi (As := [.int ((g 0) - (g 0) / 7 * 7)]) (rest := []) B hK hN hP hD hS hA (c_X2_at l D cI cJ _ _ _ 7 (G 0) 4 16 rfl rfl (by decide) ((g 0) - (g 0) / 7 * 7)) (cwV 1 hts gX3_receiveVisitors_X2_at rfl rfl rfl (by decide +kernel) ⟨(Nat.le_of_ble_eq_true rfl), (Nat.le_of_ble_eq_true rfl)⟩) 5 4 rfl rfl rfl hl.1 rfl (Nat.le_of_ble_eq_true rfl) dX3_receiveVisitors_22 ⟨(Nat.le_of_ble_eq_true rfl), (Nat.le_of_ble_eq_true rfl)⟩ rfl (fun H locs hP hD hS => ?_)
    obtain ⟨y1_2, ey1_2, h⟩ := lt_I h
    rw [← ey1_2]
    refine lv_istore_n (lv' := [(1, .int y1_2), (0, .ref (a 0))]) hx hb dX3_receiveVisitors_25 rfl hl (by decide) rfl (fun ls hl => ?_)
    refine lv_iconst (v := 0) hx hb dX3_receiveVisitors_26 (by decide) ?_
    refine lv_istore_n (lv' := [(2, .int 0), (1, .int y1_2), (0, .ref (a 0))]) hx hb dX3_receiveVisitors_27 rfl hl (by decide) rfl (fun ls hl => ?_)
    have L28_3 : ∀ (n : Nat) (x2_3 : Int32) (G_3 : Nat → Nat → Int32) (g_3 : Nat → Int32) (z2_3 : Int32) (Gz_3 : Nat → Nat → Int32) (gz_3 : Nat → Int32) (_ : lp (fun s => fX3_receiveVisitors_B28 y1_2 s.1 s.2.1 s.2.2) n (x2_3, G_3, g_3) = some (z2_3, Gz_3, gz_3)) (_ : ∀ (H : Heap) (locs : List Loc) (ls : Array Slot), va_P D vwCl (wl cI a Gz_3 gz_3 ++ rs) H → va_D A (wl cI a Gz_3 gz_3 ++ rs) → va_S A s.heap H locs → lv_has ls 3 [(0, .ref (a 0)), (1, .int y1_2), (2, .int z2_3)] → W p l e (headSpec wsX3_receiveVisitors ({ frames := 3, cells := 0, slots := 0, locals := 66 } : Room)).room s m ([.ref (a 0)] : List Value).toArray below meth c H locs (0) (0) (QV below D (wl cI a G' g' ++ rs) ([.ref (a 0)] : List Value).toArray s 0 0 A) (F0 m 57 ls [])) (H : Heap) (locs : List Loc) (ls : Array Slot), va_P D vwCl (wl cI a G_3 g_3 ++ rs) H → va_D A (wl cI a G_3 g_3 ++ rs) → va_S A s.heap H locs → lv_has ls 3 [(0, .ref (a 0)), (1, .int y1_2), (2, .int x2_3)] → W p l e (headSpec wsX3_receiveVisitors ({ frames := 3, cells := 0, slots := 0, locals := 66 } : Room)).room s m ([.ref (a 0)] : List Value).toArray below meth c H locs (0) (0) (QV below D (wl cI a G' g' ++ rs) ([.ref (a 0)] : List Value).toArray s 0 0 A) (F0 m 28 ls []) := by
      intro n
      induction n with
      | zero => intro x2_3 G_3 g_3 z2_3 Gz_3 gz_3 h; exact (lp_0 h).elim
      | succ n ih =>
        intro x2_3 G_3 g_3 z2_3 Gz_3 gz_3 h kk H locs ls hP hD hS hl
        obtain ⟨z, h, hz⟩ := lp_walk h
        have h : fX3_receiveVisitors_B28 y1_2 x2_3 G_3 g_3 = some z := h
        unfold fX3_receiveVisitors_B28 at h
        refine lv_iload_n hx hb dX3_receiveVisitors_28 rfl (lv_at hl 2 rfl) ?_
        refine lv_iload_n hx hb dX3_receiveVisitors_29 rfl (lv_at hl 1 rfl) ?_
        refine lv_icmp_ge (tgt := 57) hx hb dX3_receiveVisitors_30 (by decide) (fun c_4 => ?_) (fun c_4 => ?_)
        · have h := ip_ h c_4
          cases lz_e h hz
          exact kk _ _ _ hP hD hS (lv_sub hl [0, 1, 2] rfl)
        · have h := in_ h c_4
          refine lv_aload_n hx hb dX3_receiveVisitors_33 rfl (lv_at hl 0 rfl) ?_
          refine lv_aload_n hx hb dX3_receiveVisitors_34 rfl (lv_at hl 0 rfl) ?_
          refine va_get (ci := 6) (v := .int (g_3 0)) (C := RX3) (T := TX3) (N := 9) hx hb hts hi_X3 hown hK hP 0 rfl rfl 4 (by decide) (hts (.fieldLink RX3 118 "WishWell$Well" "day" "I") (List.mem_of_getElem? (i := 4) rfl)) (fun _ h9 => h9) rfl dX3_receiveVisitors_35 ?_
          refine lv_iload_n hx hb dX3_receiveVisitors_38 rfl (lv_at hl 2 rfl) ?_
          refine lv_iadd hx hb dX3_receiveVisitors_39 ?_
          refine lv_aload_n hx hb dX3_receiveVisitors_40 rfl (lv_at hl 0 rfl) ?_
          refine va_get (ci := 6) (v := .ref (a 1)) (C := RX3) (T := TX3) (N := 9) hx hb hts hi_X3 hown hK hP 0 rfl rfl 0 (by decide) (hts (.fieldLink RX3 12 "WishWell$Well" "lands" "LWishWell$Lands;") (List.mem_of_getElem? (i := 1) rfl)) (fun _ h9 => h9) rfl dX3_receiveVisitors_41 ?_
          refine va_get (ci := 3) (v := .int (g_3 5)) (C := RX0) (T := TX0) (N := 6) hx hb hts hi_X0 hown hK hP 1 rfl rfl 5 (by decide) (hts (.fieldLink RX3 95 "WishWell$Lands" "size" "I") (List.mem_of_getElem? (i := 2) rfl)) (fun _ h9 => h9) rfl dX3_receiveVisitors_44 ?_
          obtain ⟨c_5, h⟩ := gd_I h
          refine lv_irem hx hb dX3_receiveVisitors_47 c_5 ?_
          obtain ⟨G_6, g_7, hx_8, h⟩ := b2_I h
          refine kVv (As := [.int (((g_3 0) + x2_3) - ((g_3 0) + x2_3) / (g_3 5) * (g_3 5))]) (rest := []) B hK hN hP hD hS hA (c_X3_throwCoin l D cI cJ a G_3 g_3 (((g_3 0) + x2_3) - ((g_3 0) + x2_3) / (g_3 5) * (g_3 5)) G_6 g_7 rs hx_8) (cwV 1 hts gX3_receiveVisitors_X3_throwCoin rfl rfl rfl (by decide +kernel) ⟨(Nat.le_of_ble_eq_true rfl), (Nat.le_of_ble_eq_true rfl)⟩) 6 0 rfl rfl rfl hl.1 rfl (Nat.le_of_ble_eq_true rfl) dX3_receiveVisitors_48 ⟨(Nat.le_of_ble_eq_true rfl), (Nat.le_of_ble_eq_true rfl)⟩ rfl (fun H locs hP hD hS => ?_)
          refine lv_iinc (v := x2_3 + 1) (lv' := [(2, .int (x2_3 + 1)), (0, .ref (a 0)), (1, .int y1_2)]) hx hb dX3_receiveVisitors_51 hl (k := 2) rfl rfl (by decide) rfl (fun ls hl => ?_)
          refine lv_goto (tgt := 28) hx hb dX3_receiveVisitors_54 (by decide) ?_
          exact ih (x2_3 + 1) G_6 g_7 _ _ _ (lz_c h hz) kk _ _ _ hP hD hS (lv_sub hl [1, 2, 0] rfl)
    obtain ⟨z2_3, Gz_3, gz_3, hl_3, h⟩ := b3_I h
    refine L28_3 10 0 G g z2_3 Gz_3 gz_3 hl_3 (fun H locs ls hP hD hS hl => ?_) _ _ _ hP hD hS (lv_sub hl [2, 1, 0] rfl)
    obtain ⟨h0, h1⟩ := o2 h
    exact eV hx hb hr hlk hP hS dX3_receiveVisitors_57 (Nat.le_of_ble_eq_true rfl) (Nat.le_of_ble_eq_true rfl) (by rw [h0, h1])
  · have h := in_ h c_1
    obtain ⟨h0, h1⟩ := o2 h
    exact eV hx hb hr hlk hP hS dX3_receiveVisitors_10 (Nat.le_of_ble_eq_true rfl) (Nat.le_of_ble_eq_true rfl) (by rw [h0, h1])
noncomputable def fX3_sinkCoins_B8 (g : Nat → Int32) (x1_1 : Int32) (x2_3 : Int32) (G_3 : Nat → Nat → Int32) : Option ((Int32 × (Nat → Nat → Int32)) ⊕ (Int32 × (Nat → Nat → Int32))) := if (g 5) ≤ x2_3 then (some (.inr (x2_3, G_3))) else (lt_ (fX1_at G_3 x1_1 x2_3) (fun y3_5 => if (rAt 6 (G_3 2) x2_3) < 4 then (lt_ (y3_5 / 4) (fun y4_7 => Option.bind (fX1_add G_3 x1_1 x2_3 (-y4_7)) (fun G_8 => Option.bind (fX1_add G_8 (x1_1 + 1) x2_3 y4_7) (fun G_10 => some (.inl (x2_3 + 1, G_10)))))) else (lt_ (y3_5 / 2) (fun y4_12 => Option.bind (fX1_add G_3 x1_1 x2_3 (-y4_12)) (fun G_13 => Option.bind (fX1_add G_13 (x1_1 + 1) x2_3 y4_12) (fun G_15 => some (.inl (x2_3 + 1, G_15))))))))
noncomputable def fX3_sinkCoins_B2 (g : Nat → Int32) (x1_1 : Int32) (G_1 : Nat → Nat → Int32) : Option ((Int32 × (Nat → Nat → Int32)) ⊕ (Int32 × (Nat → Nat → Int32))) := if x1_1 < 0 then (some (.inr (x1_1, G_1))) else (b2 (lp (fun s => fX3_sinkCoins_B8 g x1_1 s.1 s.2) 7 (0, G_1)) (fun z2_3 Gz_3 => some (.inl (x1_1 + (-1), Gz_3))))
noncomputable def fX3_sinkCoins (G : Nat → Nat → Int32) (g : Nat → Int32) : Option ((Nat → Nat → Int32)) := b2 (lp (fun s => fX3_sinkCoins_B2 g s.1 s.2) 5 (3, G)) (fun z1_1 Gz_1 => some Gz_1)
set_option maxHeartbeats 4000000 in
set_option maxRecDepth 100000 in
theorem c_X3_sinkCoins (l : Launch) (D : va_G) (cI cJ : ClassId) (a : Nat → Nat) (G : Nat → Nat → Int32) (g : Nat → Int32) (G' : Nat → Nat → Int32) (rs : va_W) (h : fX3_sinkCoins G g = some G') : Cv l yX3_sinkCoins wsX3_sinkCoins ({ frames := 2, cells := 0, slots := 0, locals := 45 } : Room) D cI cJ ([.ref (a 0)] : List Value) (wl cI a G g ++ rs) (wl cI a G' g ++ rs) := by
  refine Cv.mk (cc := cX3_sinkCoins) (maxL := 5) (ret := none) (by decide) rfl (Nat.le_of_ble_eq_true rfl) ?_
  intro p e s m below meth c A ls B hr hlk hK hN hA hP hD hl
  obtain ⟨hx, hb, hml, hown, hts⟩ := id B
  have hi_X0 : ∀ w ∈ wsX00, w ∈ wsX3_sinkCoins := fun _ h => List.mem_cons_of_mem _ (List.mem_append_left _ (List.mem_append_left _ (List.mem_append_left _ (List.mem_append_right _ (h)))))
  have hi_X3 : ∀ w ∈ wsX30, w ∈ wsX3_sinkCoins := fun _ h => List.mem_cons_of_mem _ (List.mem_append_left _ (List.mem_append_left _ (List.mem_append_left _ (List.mem_append_left _ (List.mem_append_right _ (h))))))
  have hS : va_S A s.heap s.heap [] := va_S.rf
  have hl : lv_has ls 5 [(0, .ref (a 0))] := hl
  unfold fX3_sinkCoins at h
  refine lv_iconst (v := 3) hx hb dX3_sinkCoins_0 (by decide) ?_
  refine lv_istore_n (lv' := [(1, .int 3), (0, .ref (a 0))]) hx hb dX3_sinkCoins_1 rfl hl (by decide) rfl (fun ls hl => ?_)
  have L2_1 : ∀ (n : Nat) (x1_1 : Int32) (G_1 : Nat → Nat → Int32) (z1_1 : Int32) (Gz_1 : Nat → Nat → Int32) (_ : lp (fun s => fX3_sinkCoins_B2 g s.1 s.2) n (x1_1, G_1) = some (z1_1, Gz_1)) (_ : ∀ (H : Heap) (locs : List Loc) (ls : Array Slot), va_P D vwCl (wl cI a Gz_1 g ++ rs) H → va_D A (wl cI a Gz_1 g ++ rs) → va_S A s.heap H locs → lv_has ls 5 [(0, .ref (a 0)), (1, .int z1_1)] → W p l e (headSpec wsX3_sinkCoins ({ frames := 2, cells := 0, slots := 0, locals := 45 } : Room)).room s m ([.ref (a 0)] : List Value).toArray below meth c H locs (0) (0) (QV below D (wl cI a G' g ++ rs) ([.ref (a 0)] : List Value).toArray s 0 0 A) (F0 m 92 ls [])) (H : Heap) (locs : List Loc) (ls : Array Slot), va_P D vwCl (wl cI a G_1 g ++ rs) H → va_D A (wl cI a G_1 g ++ rs) → va_S A s.heap H locs → lv_has ls 5 [(0, .ref (a 0)), (1, .int x1_1)] → W p l e (headSpec wsX3_sinkCoins ({ frames := 2, cells := 0, slots := 0, locals := 45 } : Room)).room s m ([.ref (a 0)] : List Value).toArray below meth c H locs (0) (0) (QV below D (wl cI a G' g ++ rs) ([.ref (a 0)] : List Value).toArray s 0 0 A) (F0 m 2 ls []) := by
    intro n
    induction n with
    | zero => intro x1_1 G_1 z1_1 Gz_1 h; exact (lp_0 h).elim
    | succ n ih =>
      intro x1_1 G_1 z1_1 Gz_1 h kk H locs ls hP hD hS hl
      obtain ⟨z, h, hz⟩ := lp_walk h
      have h : fX3_sinkCoins_B2 g x1_1 G_1 = some z := h
      unfold fX3_sinkCoins_B2 at h
      refine lv_iload_n hx hb dX3_sinkCoins_2 rfl (lv_at hl 1 rfl) ?_
      refine lv_if_lt (tgt := 92) hx hb dX3_sinkCoins_3 (by decide) (fun c_2 => ?_) (fun c_2 => ?_)
      · have h := ip_ h c_2
        cases lz_e h hz
        exact kk _ _ _ hP hD hS (lv_sub hl [0, 1] rfl)
      · have h := in_ h c_2
        refine lv_iconst (v := 0) hx hb dX3_sinkCoins_6 (by decide) ?_
        refine lv_istore_n (lv' := [(2, .int 0), (0, .ref (a 0)), (1, .int x1_1)]) hx hb dX3_sinkCoins_7 rfl hl (by decide) rfl (fun ls hl => ?_)
        have L8_3 : ∀ (n : Nat) (x2_3 : Int32) (G_3 : Nat → Nat → Int32) (z2_3 : Int32) (Gz_3 : Nat → Nat → Int32) (_ : lp (fun s => fX3_sinkCoins_B8 g x1_1 s.1 s.2) n (x2_3, G_3) = some (z2_3, Gz_3)) (_ : ∀ (H : Heap) (locs : List Loc) (ls : Array Slot), va_P D vwCl (wl cI a Gz_3 g ++ rs) H → va_D A (wl cI a Gz_3 g ++ rs) → va_S A s.heap H locs → lv_has ls 5 [(0, .ref (a 0)), (1, .int x1_1), (2, .int z2_3)] → W p l e (headSpec wsX3_sinkCoins ({ frames := 2, cells := 0, slots := 0, locals := 45 } : Room)).room s m ([.ref (a 0)] : List Value).toArray below meth c H locs (0) (0) (QV below D (wl cI a G' g ++ rs) ([.ref (a 0)] : List Value).toArray s 0 0 A) (F0 m 86 ls [])) (H : Heap) (locs : List Loc) (ls : Array Slot), va_P D vwCl (wl cI a G_3 g ++ rs) H → va_D A (wl cI a G_3 g ++ rs) → va_S A s.heap H locs → lv_has ls 5 [(0, .ref (a 0)), (1, .int x1_1), (2, .int x2_3)] → W p l e (headSpec wsX3_sinkCoins ({ frames := 2, cells := 0, slots := 0, locals := 45 } : Room)).room s m ([.ref (a 0)] : List Value).toArray below meth c H locs (0) (0) (QV below D (wl cI a G' g ++ rs) ([.ref (a 0)] : List Value).toArray s 0 0 A) (F0 m 8 ls []) := by
          intro n
          induction n with
          | zero => intro x2_3 G_3 z2_3 Gz_3 h; exact (lp_0 h).elim
          | succ n ih =>
            intro x2_3 G_3 z2_3 Gz_3 h kk H locs ls hP hD hS hl
            obtain ⟨z, h, hz⟩ := lp_walk h
            have h : fX3_sinkCoins_B8 g x1_1 x2_3 G_3 = some z := h
            unfold fX3_sinkCoins_B8 at h
            refine lv_iload_n hx hb dX3_sinkCoins_8 rfl (lv_at hl 2 rfl) ?_
            refine lv_aload_n hx hb dX3_sinkCoins_9 rfl (lv_at hl 0 rfl) ?_
            refine va_get (ci := 6) (v := .ref (a 1)) (C := RX3) (T := TX3) (N := 9) hx hb hts hi_X3 hown hK hP 0 rfl rfl 0 (by decide) (hts (.fieldLink RX3 12 "WishWell$Well" "lands" "LWishWell$Lands;") (List.mem_of_getElem? (i := 1) rfl)) (fun _ h9 => h9) rfl dX3_sinkCoins_10 ?_
            refine va_get (ci := 3) (v := .int (g 5)) (C := RX0) (T := TX0) (N := 6) hx hb hts hi_X0 hown hK hP 1 rfl rfl 5 (by decide) (hts (.fieldLink RX3 95 "WishWell$Lands" "size" "I") (List.mem_of_getElem? (i := 2) rfl)) (fun _ h9 => h9) rfl dX3_sinkCoins_13 ?_
            refine lv_icmp_ge (tgt := 86) hx hb dX3_sinkCoins_16 (by decide) (fun c_4 => ?_) (fun c_4 => ?_)
            · have h := ip_ h c_4
              cases lz_e h hz
              exact kk _ _ _ hP hD hS (lv_sub hl [0, 1, 2] rfl)
            · have h := in_ h c_4
              refine lv_aload_n hx hb dX3_sinkCoins_19 rfl (lv_at hl 0 rfl) ?_
              refine va_get (ci := 6) (v := .ref (a 3)) (C := RX3) (T := TX3) (N := 9) hx hb hts hi_X3 hown hK hP 0 rfl rfl 2 (by decide) (hts (.fieldLink RX3 28 "WishWell$Well" "layers" "LWishWell$Layers;") (List.mem_of_getElem? (i := 3) rfl)) (fun _ h9 => h9) rfl dX3_sinkCoins_20 ?_
              refine lv_iload_n hx hb dX3_sinkCoins_23 rfl (lv_at hl 1 rfl) ?_
              refine lv_iload_n hx hb dX3_sinkCoins_24 rfl (lv_at hl 2 rfl) ?_
              refine kVi (As := [.int x1_1, .int x2_3]) (rest := []) B hK hN hP hD hS hA (c_X1_at l D cI cJ a G_3 g x1_1 x2_3 rs _ rfl) (cwV 2 hts gX3_sinkCoins_X1_at rfl rfl rfl (by decide +kernel) ⟨(Nat.le_of_ble_eq_true rfl), (Nat.le_of_ble_eq_true rfl)⟩) 4 3 rfl rfl rfl hl.1 rfl (Nat.le_of_ble_eq_true rfl) dX3_sinkCoins_25 ⟨(Nat.le_of_ble_eq_true rfl), (Nat.le_of_ble_eq_true rfl)⟩ rfl (fun H locs hP hD hS => ?_)
              obtain ⟨y3_5, ey3_5, h⟩ := lt_I h
              rw [← ey3_5]
              refine lv_istore_n (lv' := [(3, .int y3_5), (0, .ref (a 0)), (1, .int x1_1), (2, .int x2_3)]) hx hb dX3_sinkCoins_28 rfl hl (by decide) rfl (fun ls hl => ?_)
              refine lv_aload_n hx hb dX3_sinkCoins_29 rfl (lv_at hl 1 rfl) ?_
              refine va_get (ci := 6) (v := .ref (a 1)) (C := RX3) (T := TX3) (N := 9) hx hb hts hi_X3 hown hK hP 0 rfl rfl 0 (by decide) (hts (.fieldLink RX3 12 "WishWell$Well" "lands" "LWishWell$Lands;") (List.mem_of_getElem? (i := 1) rfl)) (fun _ h9 => h9) rfl dX3_sinkCoins_30 ?_
              refine va_get (ci := 3) (v := .ref (a 6)) (C := RX0) (T := TX0) (N := 6) hx hb hts hi_X0 hown hK hP 1 rfl rfl 1 (by decide) (hts (.fieldLink RX3 115 "WishWell$Lands" "weights" "LWishWell$Row;") (List.mem_of_getElem? (i := 4) rfl)) (fun _ h9 => h9) rfl dX3_sinkCoins_33 ?_
              refine lv_iload_n hx hb dX3_sinkCoins_36 rfl (lv_at hl 3 rfl) ?_
              refine kVi (As := [.int x2_3]) (rest := []) B hK hN hP hD hS hA (c_X2_at l D cI cJ _ _ _ 6 (G_3 2) 6 18 rfl rfl (by decide) x2_3) (cwV 1 hts gX3_sinkCoins_X2_at rfl rfl rfl (by decide +kernel) ⟨(Nat.le_of_ble_eq_true rfl), (Nat.le_of_ble_eq_true rfl)⟩) 5 6 rfl rfl rfl hl.1 rfl (Nat.le_of_ble_eq_true rfl) dX3_sinkCoins_37 ⟨(Nat.le_of_ble_eq_true rfl), (Nat.le_of_ble_eq_true rfl)⟩ rfl (fun H locs hP hD hS => ?_)
              refine lv_iconst (v := 4) hx hb dX3_sinkCoins_40 (by decide) ?_
              refine lv_icmp_lt (tgt := 50) hx hb dX3_sinkCoins_41 (by decide) (fun c_6 => ?_) (fun c_6 => ?_)
              · have h := ip_ h c_6
                refine lv_iload_n hx hb dX3_sinkCoins_50 rfl (lv_at hl 0 rfl) ?_
                refine lv_iconst (v := 4) hx hb dX3_sinkCoins_51 (by decide) ?_
                refine lv_idiv hx hb dX3_sinkCoins_52 (by decide) ?_
                obtain ⟨y4_7, ey4_7, h⟩ := lt_I h
                rw [← ey4_7]
                refine lv_istore (lv' := [(4, .int y4_7), (3, .int y3_5), (0, .ref (a 0)), (1, .int x1_1), (2, .int x2_3)]) hx hb dX3_sinkCoins_53 hl (by decide) rfl (fun ls hl => ?_)
                refine lv_aload_n hx hb dX3_sinkCoins_55 rfl (lv_at hl 2 rfl) ?_
                refine va_get (ci := 6) (v := .ref (a 3)) (C := RX3) (T := TX3) (N := 9) hx hb hts hi_X3 hown hK hP 0 rfl rfl 2 (by decide) (hts (.fieldLink RX3 28 "WishWell$Well" "layers" "LWishWell$Layers;") (List.mem_of_getElem? (i := 3) rfl)) (fun _ h9 => h9) rfl dX3_sinkCoins_56 ?_
                refine lv_iload_n hx hb dX3_sinkCoins_59 rfl (lv_at hl 3 rfl) ?_
                refine lv_iload_n hx hb dX3_sinkCoins_60 rfl (lv_at hl 4 rfl) ?_
                refine lv_iload hx hb dX3_sinkCoins_61 (lv_at hl 0 rfl) ?_
                refine lv_ineg hx hb dX3_sinkCoins_63 ?_
                obtain ⟨G_8, hx_9, h⟩ := bd_I h
                refine kVv (As := [.int x1_1, .int x2_3, .int (-y4_7)]) (rest := []) B hK hN hP hD hS hA (c_X1_add l D cI cJ a G_3 g x1_1 x2_3 (-y4_7) G_8 rs hx_9) (cwV 3 hts gX3_sinkCoins_X1_add rfl rfl rfl (by decide +kernel) ⟨(Nat.le_of_ble_eq_true rfl), (Nat.le_of_ble_eq_true rfl)⟩) 4 3 rfl rfl rfl hl.1 rfl (Nat.le_of_ble_eq_true rfl) dX3_sinkCoins_64 ⟨(Nat.le_of_ble_eq_true rfl), (Nat.le_of_ble_eq_true rfl)⟩ rfl (fun H locs hP hD hS => ?_)
                refine lv_aload_n hx hb dX3_sinkCoins_67 rfl (lv_at hl 2 rfl) ?_
                refine va_get (ci := 6) (v := .ref (a 3)) (C := RX3) (T := TX3) (N := 9) hx hb hts hi_X3 hown hK hP 0 rfl rfl 2 (by decide) (hts (.fieldLink RX3 28 "WishWell$Well" "layers" "LWishWell$Layers;") (List.mem_of_getElem? (i := 3) rfl)) (fun _ h9 => h9) rfl dX3_sinkCoins_68 ?_
                refine lv_iload_n hx hb dX3_sinkCoins_71 rfl (lv_at hl 3 rfl) ?_
                refine lv_iconst (v := 1) hx hb dX3_sinkCoins_72 (by decide) ?_
                refine lv_iadd hx hb dX3_sinkCoins_73 ?_
                refine lv_iload_n hx hb dX3_sinkCoins_74 rfl (lv_at hl 4 rfl) ?_
                refine lv_iload hx hb dX3_sinkCoins_75 (lv_at hl 0 rfl) ?_
                obtain ⟨G_10, hx_11, h⟩ := bd_I h
                refine kVv (As := [.int (x1_1 + 1), .int x2_3, .int y4_7]) (rest := []) B hK hN hP hD hS hA (c_X1_add l D cI cJ a G_8 g (x1_1 + 1) x2_3 y4_7 G_10 rs hx_11) (cwV 3 hts gX3_sinkCoins_X1_add rfl rfl rfl (by decide +kernel) ⟨(Nat.le_of_ble_eq_true rfl), (Nat.le_of_ble_eq_true rfl)⟩) 4 3 rfl rfl rfl hl.1 rfl (Nat.le_of_ble_eq_true rfl) dX3_sinkCoins_77 ⟨(Nat.le_of_ble_eq_true rfl), (Nat.le_of_ble_eq_true rfl)⟩ rfl (fun H locs hP hD hS => ?_)
                refine lv_iinc (v := x2_3 + 1) (lv' := [(2, .int (x2_3 + 1)), (4, .int y4_7), (3, .int y3_5), (0, .ref (a 0)), (1, .int x1_1)]) hx hb dX3_sinkCoins_80 hl (k := 4) rfl rfl (by decide) rfl (fun ls hl => ?_)
                refine lv_goto (tgt := 8) hx hb dX3_sinkCoins_83 (by decide) ?_
                exact ih (x2_3 + 1) G_10 _ _ (lz_c h hz) kk _ _ _ hP hD hS (lv_sub hl [3, 4, 0] rfl)
              · have h := in_ h c_6
                refine lv_iload_n hx hb dX3_sinkCoins_44 rfl (lv_at hl 0 rfl) ?_
                refine lv_iconst (v := 2) hx hb dX3_sinkCoins_45 (by decide) ?_
                refine lv_idiv hx hb dX3_sinkCoins_46 (by decide) ?_
                refine lv_goto (tgt := 53) hx hb dX3_sinkCoins_47 (by decide) ?_
                obtain ⟨y4_12, ey4_12, h⟩ := lt_I h
                rw [← ey4_12]
                refine lv_istore (lv' := [(4, .int y4_12), (3, .int y3_5), (0, .ref (a 0)), (1, .int x1_1), (2, .int x2_3)]) hx hb dX3_sinkCoins_53 hl (by decide) rfl (fun ls hl => ?_)
                refine lv_aload_n hx hb dX3_sinkCoins_55 rfl (lv_at hl 2 rfl) ?_
                refine va_get (ci := 6) (v := .ref (a 3)) (C := RX3) (T := TX3) (N := 9) hx hb hts hi_X3 hown hK hP 0 rfl rfl 2 (by decide) (hts (.fieldLink RX3 28 "WishWell$Well" "layers" "LWishWell$Layers;") (List.mem_of_getElem? (i := 3) rfl)) (fun _ h9 => h9) rfl dX3_sinkCoins_56 ?_
                refine lv_iload_n hx hb dX3_sinkCoins_59 rfl (lv_at hl 3 rfl) ?_
                refine lv_iload_n hx hb dX3_sinkCoins_60 rfl (lv_at hl 4 rfl) ?_
                refine lv_iload hx hb dX3_sinkCoins_61 (lv_at hl 0 rfl) ?_
                refine lv_ineg hx hb dX3_sinkCoins_63 ?_
                obtain ⟨G_13, hx_14, h⟩ := bd_I h
                refine kVv (As := [.int x1_1, .int x2_3, .int (-y4_12)]) (rest := []) B hK hN hP hD hS hA (c_X1_add l D cI cJ a G_3 g x1_1 x2_3 (-y4_12) G_13 rs hx_14) (cwV 3 hts gX3_sinkCoins_X1_add rfl rfl rfl (by decide +kernel) ⟨(Nat.le_of_ble_eq_true rfl), (Nat.le_of_ble_eq_true rfl)⟩) 4 3 rfl rfl rfl hl.1 rfl (Nat.le_of_ble_eq_true rfl) dX3_sinkCoins_64 ⟨(Nat.le_of_ble_eq_true rfl), (Nat.le_of_ble_eq_true rfl)⟩ rfl (fun H locs hP hD hS => ?_)
                refine lv_aload_n hx hb dX3_sinkCoins_67 rfl (lv_at hl 2 rfl) ?_
                refine va_get (ci := 6) (v := .ref (a 3)) (C := RX3) (T := TX3) (N := 9) hx hb hts hi_X3 hown hK hP 0 rfl rfl 2 (by decide) (hts (.fieldLink RX3 28 "WishWell$Well" "layers" "LWishWell$Layers;") (List.mem_of_getElem? (i := 3) rfl)) (fun _ h9 => h9) rfl dX3_sinkCoins_68 ?_
                refine lv_iload_n hx hb dX3_sinkCoins_71 rfl (lv_at hl 3 rfl) ?_
                refine lv_iconst (v := 1) hx hb dX3_sinkCoins_72 (by decide) ?_
                refine lv_iadd hx hb dX3_sinkCoins_73 ?_
                refine lv_iload_n hx hb dX3_sinkCoins_74 rfl (lv_at hl 4 rfl) ?_
                refine lv_iload hx hb dX3_sinkCoins_75 (lv_at hl 0 rfl) ?_
                obtain ⟨G_15, hx_16, h⟩ := bd_I h
                refine kVv (As := [.int (x1_1 + 1), .int x2_3, .int y4_12]) (rest := []) B hK hN hP hD hS hA (c_X1_add l D cI cJ a G_13 g (x1_1 + 1) x2_3 y4_12 G_15 rs hx_16) (cwV 3 hts gX3_sinkCoins_X1_add rfl rfl rfl (by decide +kernel) ⟨(Nat.le_of_ble_eq_true rfl), (Nat.le_of_ble_eq_true rfl)⟩) 4 3 rfl rfl rfl hl.1 rfl (Nat.le_of_ble_eq_true rfl) dX3_sinkCoins_77 ⟨(Nat.le_of_ble_eq_true rfl), (Nat.le_of_ble_eq_true rfl)⟩ rfl (fun H locs hP hD hS => ?_)
                refine lv_iinc (v := x2_3 + 1) (lv' := [(2, .int (x2_3 + 1)), (4, .int y4_12), (3, .int y3_5), (0, .ref (a 0)), (1, .int x1_1)]) hx hb dX3_sinkCoins_80 hl (k := 4) rfl rfl (by decide) rfl (fun ls hl => ?_)
                refine lv_goto (tgt := 8) hx hb dX3_sinkCoins_83 (by decide) ?_
                exact ih (x2_3 + 1) G_15 _ _ (lz_c h hz) kk _ _ _ hP hD hS (lv_sub hl [3, 4, 0] rfl)
        obtain ⟨z2_3, Gz_3, hl_3, h⟩ := b2_I h
        refine L8_3 7 0 G_1 z2_3 Gz_3 hl_3 (fun H locs ls hP hD hS hl => ?_) _ _ _ hP hD hS (lv_sub hl [1, 2, 0] rfl)
        refine lv_iinc (v := x1_1 + (-1)) (lv' := [(1, .int (x1_1 + (-1))), (0, .ref (a 0)), (2, .int z2_3)]) hx hb dX3_sinkCoins_86 hl (k := 1) rfl (congrArg (fun z => x1_1 + z) (by decide)) (by decide) rfl (fun ls hl => ?_)
        refine lv_goto (tgt := 2) hx hb dX3_sinkCoins_89 (by decide) ?_
        exact ih (x1_1 + (-1)) Gz_3 _ _ (lz_c h hz) kk _ _ _ hP hD hS (lv_sub hl [1, 0] rfl)
  obtain ⟨z1_1, Gz_1, hl_1, h⟩ := b2_I h
  refine L2_1 5 3 G z1_1 Gz_1 hl_1 (fun H locs ls hP hD hS hl => ?_) _ _ _ hP hD hS (lv_sub hl [1, 0] rfl)
  have h0 := o1 h
  exact eV hx hb hr hlk hP hS dX3_sinkCoins_92 (Nat.le_of_ble_eq_true rfl) (Nat.le_of_ble_eq_true rfl) (by rw [h0])
noncomputable def fX3_grantNext (G : Nat → Nat → Int32) (g : Nat → Int32) : Option (Int32 × (Nat → Nat → Int32) × (Nat → Int32)) := Option.bind (fX3_nextWish G g (g 2)) (fun r_1 => if r_1 = (-1) then (some (0, G, g)) else (lt_ (10 + (fX3_coinValue G r_1)) (fun y2_4 => if y2_4 ≤ (g 1) then (lt_ (uS g 1 ((g 1) - y2_4)) (fun g_6 => lt_ (uG G 9 (rPut 24 (G 9) r_1 1)) (fun G_7 => lt_ (uG G_7 10 (rPut 24 (G_7 10) r_1 (g_6 0))) (fun G_8 => some (1, G_8, g_6))))) else (some (0, G, g)))))
set_option maxHeartbeats 4000000 in
set_option maxRecDepth 100000 in
theorem c_X3_grantNext (l : Launch) (D : va_G) (cI cJ : ClassId) (a : Nat → Nat) (G : Nat → Nat → Int32) (g : Nat → Int32) (r' : Int32) (G' : Nat → Nat → Int32) (g' : Nat → Int32) (rs : va_W) (h : fX3_grantNext G g = some (r', G', g')) : Ci l yX3_grantNext wsX3_grantNext ({ frames := 3, cells := 0, slots := 0, locals := 68 } : Room) D cI cJ ([.ref (a 0)] : List Value) (wl cI a G g ++ rs) r' (wl cI a G' g' ++ rs) := by
  refine Ci.mk (cc := cX3_grantNext) (maxL := 3) (ret := (some .boolean)) (by decide) rfl (Nat.le_of_ble_eq_true rfl) ?_
  intro p e s m below meth c A ls B hr hlk hK hN hA hP hD hl
  obtain ⟨hx, hb, hml, hown, hts⟩ := id B
  have hi_X3 : ∀ w ∈ wsX30, w ∈ wsX3_grantNext := fun _ h => List.mem_cons_of_mem _ (List.mem_append_left _ (List.mem_append_left _ (List.mem_append_left _ (List.mem_append_left _ (List.mem_append_right _ (h))))))
  have hi_X4 : ∀ w ∈ wsX40, w ∈ wsX3_grantNext := fun _ h => List.mem_cons_of_mem _ (List.mem_append_left _ (List.mem_append_left _ (List.mem_append_left _ (List.mem_append_right _ (h)))))
  have hS : va_S A s.heap s.heap [] := va_S.rf
  have hl : lv_has ls 3 [(0, .ref (a 0))] := hl
  unfold fX3_grantNext at h
  refine lv_aload_n hx hb dX3_grantNext_0 rfl (lv_at hl 0 rfl) ?_
  refine lv_aload_n hx hb dX3_grantNext_1 rfl (lv_at hl 0 rfl) ?_
  refine va_get (ci := 6) (v := .int (g 2)) (C := RX3) (T := TX3) (N := 9) hx hb hts hi_X3 hown hK hP 0 rfl rfl 6 (by decide) (hts (.fieldLink RX3 125 "WishWell$Well" "turn" "I") (List.mem_of_getElem? (i := 1) rfl)) (fun _ h9 => h9) rfl dX3_grantNext_2 ?_
  obtain ⟨r_1, hx_2, h⟩ := bd_I h
  refine kVi (As := [.int (g 2)]) (rest := []) B hK hN hP hD hS hA (c_X3_nextWish l D cI cJ a G g (g 2) r_1 rs hx_2) (cwV 1 hts gX3_grantNext_X3_nextWish rfl rfl rfl (by decide +kernel) ⟨(Nat.le_of_ble_eq_true rfl), (Nat.le_of_ble_eq_true rfl)⟩) 6 0 rfl rfl rfl hl.1 rfl (Nat.le_of_ble_eq_true rfl) dX3_grantNext_5 ⟨(Nat.le_of_ble_eq_true rfl), (Nat.le_of_ble_eq_true rfl)⟩ rfl (fun H locs hP hD hS => ?_)
  refine lv_istore_n (lv' := [(1, .int r_1), (0, .ref (a 0))]) hx hb dX3_grantNext_8 rfl hl (by decide) rfl (fun ls hl => ?_)
  refine lv_iload_n hx hb dX3_grantNext_9 rfl (lv_at hl 0 rfl) ?_
  refine lv_iconst (v := (-1)) hx hb dX3_grantNext_10 (by decide) ?_
  refine lv_icmp_ne (tgt := 16) hx hb dX3_grantNext_11 (by decide) (fun c_3 => ?_) (fun c_3 => ?_)
  · have h := in_ h c_3
    refine lv_bipush (v := 10) hx hb dX3_grantNext_16 (by decide) ?_
    refine lv_aload_n hx hb dX3_grantNext_18 rfl (lv_at hl 1 rfl) ?_
    refine lv_iload_n hx hb dX3_grantNext_19 rfl (lv_at hl 0 rfl) ?_
    refine kVi (As := [.int r_1]) (rest := [.int 10]) B hK hN hP hD hS hA (c_X3_coinValue l D cI cJ a G g r_1 rs _ rfl) (cwV 1 hts gX3_grantNext_X3_coinValue rfl rfl rfl (by decide +kernel) ⟨(Nat.le_of_ble_eq_true rfl), (Nat.le_of_ble_eq_true rfl)⟩) 6 0 rfl rfl rfl hl.1 rfl (Nat.le_of_ble_eq_true rfl) dX3_grantNext_20 ⟨(Nat.le_of_ble_eq_true rfl), (Nat.le_of_ble_eq_true rfl)⟩ rfl (fun H locs hP hD hS => ?_)
    refine lv_iadd hx hb dX3_grantNext_23 ?_
    obtain ⟨y2_4, ey2_4, h⟩ := lt_I h
    rw [← ey2_4]
    refine lv_istore_n (lv' := [(2, .int y2_4), (1, .int r_1), (0, .ref (a 0))]) hx hb dX3_grantNext_24 rfl hl (by decide) rfl (fun ls hl => ?_)
    refine lv_aload_n hx hb dX3_grantNext_25 rfl (lv_at hl 2 rfl) ?_
    refine va_get (ci := 6) (v := .int (g 1)) (C := RX3) (T := TX3) (N := 9) hx hb hts hi_X3 hown hK hP 0 rfl rfl 5 (by decide) (hts (.fieldLink RX3 41 "WishWell$Well" "favour" "I") (List.mem_of_getElem? (i := 2) rfl)) (fun _ h9 => h9) rfl dX3_grantNext_26 ?_
    refine lv_iload_n hx hb dX3_grantNext_29 rfl (lv_at hl 0 rfl) ?_
    refine lv_icmp_ge (tgt := 35) hx hb dX3_grantNext_30 (by decide) (fun c_5 => ?_) (fun c_5 => ?_)
    · have h := ip_ h c_5
      refine lv_aload_n hx hb dX3_grantNext_35 rfl (lv_at hl 2 rfl) ?_
      refine lv_dup hx hb dX3_grantNext_36 rfl ?_
      refine va_get (ci := 6) (v := .int (g 1)) (C := RX3) (T := TX3) (N := 9) hx hb hts hi_X3 hown hK hP 0 rfl rfl 5 (by decide) (hts (.fieldLink RX3 41 "WishWell$Well" "favour" "I") (List.mem_of_getElem? (i := 2) rfl)) (fun _ h9 => h9) rfl dX3_grantNext_37 ?_
      refine lv_iload_n hx hb dX3_grantNext_40 rfl (lv_at hl 0 rfl) ?_
      refine lv_isub hx hb dX3_grantNext_41 ?_
      refine va_put (D := D) (ci := 6) (v := .int ((g 1) - y2_4)) (ty := .int) (C := RX3) (T := TX3) (N := 9) hx hb hts hi_X3 tyX3 tyX3_ok nmX3 hown hK hP hD hS 0 rfl rfl 5 (by decide) (hts (.fieldLink RX3 41 "WishWell$Well" "favour" "I") (List.mem_of_getElem? (i := 2) rfl)) (fun _ h9 => h9) rfl (by decide +kernel) rfl rfl (Nat.le_of_ble_eq_true rfl) dX3_grantNext_42 (fun H locs hP hD hS => ?_)
      obtain ⟨g_6, eg_6, h⟩ := lt_I h
      have hP : va_P D vwCl (wl cI a G g_6 ++ rs) H := by rw [eg_6]; exact hP
      have hD : va_D A (wl cI a G g_6 ++ rs) := by rw [eg_6]; exact hD
      refine lv_aload_n hx hb dX3_grantNext_45 rfl (lv_at hl 2 rfl) ?_
      refine va_get (ci := 6) (v := .ref (a 2)) (C := RX3) (T := TX3) (N := 9) hx hb hts hi_X3 hown hK hP 0 rfl rfl 1 (by decide) (hts (.fieldLink RX3 21 "WishWell$Well" "wishes" "LWishWell$Wishes;") (List.mem_of_getElem? (i := 3) rfl)) (fun _ h9 => h9) rfl dX3_grantNext_46 ?_
      refine va_get (ci := 7) (v := .ref (a 13)) (C := RX4) (T := TX4) (N := 6) hx hb hts hi_X4 hown hK hP 2 rfl rfl 3 (by decide) (hts (.fieldLink RX3 80 "WishWell$Wishes" "fates" "LWishWell$Row;") (List.mem_of_getElem? (i := 4) rfl)) (fun _ h9 => h9) rfl dX3_grantNext_49 ?_
      refine lv_iload_n hx hb dX3_grantNext_52 rfl (lv_at hl 1 rfl) ?_
      refine lv_iconst (v := 1) hx hb dX3_grantNext_53 (by decide) ?_
      refine kVv (As := [.int r_1, .int 1]) (rest := []) B hK hN hP hD hS hA (c_X2_put l D cI cJ _ (wl cI a (uG G 9 (rPut 24 (G 9) r_1 1)) g_6 ++ rs) _ _ 24 (G 9) 13 25 rfl rfl (by decide) r_1 1 rfl rfl) (cwV 2 hts gX3_grantNext_X2_put rfl rfl rfl (by decide +kernel) ⟨(Nat.le_of_ble_eq_true rfl), (Nat.le_of_ble_eq_true rfl)⟩) 5 13 rfl rfl rfl hl.1 rfl (Nat.le_of_ble_eq_true rfl) dX3_grantNext_54 ⟨(Nat.le_of_ble_eq_true rfl), (Nat.le_of_ble_eq_true rfl)⟩ rfl (fun H locs hP hD hS => ?_)
      obtain ⟨G_7, eG_7, h⟩ := lt_I h
      have hP : va_P D vwCl (wl cI a G_7 g_6 ++ rs) H := by rw [eG_7]; exact hP
      have hD : va_D A (wl cI a G_7 g_6 ++ rs) := by rw [eG_7]; exact hD
      refine lv_aload_n hx hb dX3_grantNext_57 rfl (lv_at hl 2 rfl) ?_
      refine va_get (ci := 6) (v := .ref (a 2)) (C := RX3) (T := TX3) (N := 9) hx hb hts hi_X3 hown hK hP 0 rfl rfl 1 (by decide) (hts (.fieldLink RX3 21 "WishWell$Well" "wishes" "LWishWell$Wishes;") (List.mem_of_getElem? (i := 3) rfl)) (fun _ h9 => h9) rfl dX3_grantNext_58 ?_
      refine va_get (ci := 7) (v := .ref (a 14)) (C := RX4) (T := TX4) (N := 6) hx hb hts hi_X4 hown hK hP 2 rfl rfl 4 (by decide) (hts (.fieldLink RX3 161 "WishWell$Wishes" "grantDays" "LWishWell$Row;") (List.mem_of_getElem? (i := 5) rfl)) (fun _ h9 => h9) rfl dX3_grantNext_61 ?_
      refine lv_iload_n hx hb dX3_grantNext_64 rfl (lv_at hl 1 rfl) ?_
      refine lv_aload_n hx hb dX3_grantNext_65 rfl (lv_at hl 2 rfl) ?_
      refine va_get (ci := 6) (v := .int (g_6 0)) (C := RX3) (T := TX3) (N := 9) hx hb hts hi_X3 hown hK hP 0 rfl rfl 4 (by decide) (hts (.fieldLink RX3 118 "WishWell$Well" "day" "I") (List.mem_of_getElem? (i := 6) rfl)) (fun _ h9 => h9) rfl dX3_grantNext_66 ?_
      refine kVv (As := [.int r_1, .int (g_6 0)]) (rest := []) B hK hN hP hD hS hA (c_X2_put l D cI cJ _ (wl cI a (uG G_7 10 (rPut 24 (G_7 10) r_1 (g_6 0))) g_6 ++ rs) _ _ 24 (G_7 10) 14 26 rfl rfl (by decide) r_1 (g_6 0) rfl rfl) (cwV 2 hts gX3_grantNext_X2_put rfl rfl rfl (by decide +kernel) ⟨(Nat.le_of_ble_eq_true rfl), (Nat.le_of_ble_eq_true rfl)⟩) 5 14 rfl rfl rfl hl.1 rfl (Nat.le_of_ble_eq_true rfl) dX3_grantNext_69 ⟨(Nat.le_of_ble_eq_true rfl), (Nat.le_of_ble_eq_true rfl)⟩ rfl (fun H locs hP hD hS => ?_)
      obtain ⟨G_8, eG_8, h⟩ := lt_I h
      have hP : va_P D vwCl (wl cI a G_8 g_6 ++ rs) H := by rw [eG_8]; exact hP
      have hD : va_D A (wl cI a G_8 g_6 ++ rs) := by rw [eG_8]; exact hD
      refine lv_iconst (v := 1) hx hb dX3_grantNext_72 (by decide) ?_
      obtain ⟨h0, h1, h2⟩ := o3 h
      exact eZ hx hb hr nar1 hlk hP hS dX3_grantNext_73 (Nat.le_of_ble_eq_true rfl) (Nat.le_of_ble_eq_true rfl) h0 (by rw [h1, h2])
    · have h := in_ h c_5
      refine lv_iconst (v := 0) hx hb dX3_grantNext_33 (by decide) ?_
      obtain ⟨h0, h1, h2⟩ := o3 h
      exact eZ hx hb hr nar0 hlk hP hS dX3_grantNext_34 (Nat.le_of_ble_eq_true rfl) (Nat.le_of_ble_eq_true rfl) h0 (by rw [h1, h2])
  · have h := ip_ h c_3
    refine lv_iconst (v := 0) hx hb dX3_grantNext_14 (by decide) ?_
    obtain ⟨h0, h1, h2⟩ := o3 h
    exact eZ hx hb hr nar0 hlk hP hS dX3_grantNext_15 (Nat.le_of_ble_eq_true rfl) (Nat.le_of_ble_eq_true rfl) h0 (by rw [h1, h2])
noncomputable def fX3_liveDay (G : Nat → Nat → Int32) (g : Nat → Int32) : Option (Int32 × (Nat → Nat → Int32) × (Nat → Int32)) := b2 (fX3_receiveVisitors G g) (fun G_1 g_2 => Option.bind (fX3_sinkCoins G_1 g_2) (fun G_4 => b3 (fX3_grantNext G_4 g_2) (fun r_6 G_7 g_8 => if r_6 = 0 then (Option.bind (fX3_raiseFavour g_8 2) (fun g_14 => lt_ (uS g_14 2 (((g_14 2) + 1) - ((g_14 2) + 1) / 4 * 4)) (fun g_16 => lt_ (uS g_16 0 ((g_16 0) + 1)) (fun g_17 => gd (nbo r_6) (some (r_6, G_7, g_17)))))) else (lt_ (uS g_8 2 (((g_8 2) + 1) - ((g_8 2) + 1) / 4 * 4)) (fun g_11 => lt_ (uS g_11 0 ((g_11 0) + 1)) (fun g_12 => gd (nbo r_6) (some (r_6, G_7, g_12))))))))
set_option maxHeartbeats 4000000 in
set_option maxRecDepth 100000 in
theorem c_X3_liveDay (l : Launch) (D : va_G) (cI cJ : ClassId) (a : Nat → Nat) (G : Nat → Nat → Int32) (g : Nat → Int32) (r' : Int32) (G' : Nat → Nat → Int32) (g' : Nat → Int32) (rs : va_W) (h : fX3_liveDay G g = some (r', G', g')) : Ci l yX3_liveDay wsX3_liveDay ({ frames := 4, cells := 0, slots := 0, locals := 90 } : Room) D cI cJ ([.ref (a 0)] : List Value) (wl cI a G g ++ rs) r' (wl cI a G' g' ++ rs) := by
  refine Ci.mk (cc := cX3_liveDay) (maxL := 2) (ret := (some .boolean)) (by decide) rfl (Nat.le_of_ble_eq_true rfl) ?_
  intro p e s m below meth c A ls B hr hlk hK hN hA hP hD hl
  obtain ⟨hx, hb, hml, hown, hts⟩ := id B
  have hi_X3 : ∀ w ∈ wsX30, w ∈ wsX3_liveDay := fun _ h => List.mem_cons_of_mem _ (List.mem_append_left _ (List.mem_append_left _ (List.mem_append_left _ (List.mem_append_left _ (List.mem_append_left _ (List.mem_append_right _ (h)))))))
  have hS : va_S A s.heap s.heap [] := va_S.rf
  have hl : lv_has ls 2 [(0, .ref (a 0))] := hl
  unfold fX3_liveDay at h
  refine lv_aload_n hx hb dX3_liveDay_0 rfl (lv_at hl 0 rfl) ?_
  obtain ⟨G_1, g_2, hx_3, h⟩ := b2_I h
  refine kVv (As := []) (rest := []) B hK hN hP hD hS hA (c_X3_receiveVisitors l D cI cJ a G g  G_1 g_2 rs hx_3) (cwV 0 hts gX3_liveDay_X3_receiveVisitors rfl rfl rfl (by decide +kernel) ⟨(Nat.le_of_ble_eq_true rfl), (Nat.le_of_ble_eq_true rfl)⟩) 6 0 rfl rfl rfl hl.1 rfl (Nat.le_of_ble_eq_true rfl) dX3_liveDay_1 ⟨(Nat.le_of_ble_eq_true rfl), (Nat.le_of_ble_eq_true rfl)⟩ rfl (fun H locs hP hD hS => ?_)
  refine lv_aload_n hx hb dX3_liveDay_4 rfl (lv_at hl 0 rfl) ?_
  obtain ⟨G_4, hx_5, h⟩ := bd_I h
  refine kVv (As := []) (rest := []) B hK hN hP hD hS hA (c_X3_sinkCoins l D cI cJ a G_1 g_2  G_4 rs hx_5) (cwV 0 hts gX3_liveDay_X3_sinkCoins rfl rfl rfl (by decide +kernel) ⟨(Nat.le_of_ble_eq_true rfl), (Nat.le_of_ble_eq_true rfl)⟩) 6 0 rfl rfl rfl hl.1 rfl (Nat.le_of_ble_eq_true rfl) dX3_liveDay_5 ⟨(Nat.le_of_ble_eq_true rfl), (Nat.le_of_ble_eq_true rfl)⟩ rfl (fun H locs hP hD hS => ?_)
  refine lv_aload_n hx hb dX3_liveDay_8 rfl (lv_at hl 0 rfl) ?_
  obtain ⟨r_6, G_7, g_8, hx_9, h⟩ := b3_I h
  refine kVi (As := []) (rest := []) B hK hN hP hD hS hA (c_X3_grantNext l D cI cJ a G_4 g_2  r_6 G_7 g_8 rs hx_9) (cwV 0 hts gX3_liveDay_X3_grantNext rfl rfl rfl (by decide +kernel) ⟨(Nat.le_of_ble_eq_true rfl), (Nat.le_of_ble_eq_true rfl)⟩) 6 0 rfl rfl rfl hl.1 rfl (Nat.le_of_ble_eq_true rfl) dX3_liveDay_9 ⟨(Nat.le_of_ble_eq_true rfl), (Nat.le_of_ble_eq_true rfl)⟩ rfl (fun H locs hP hD hS => ?_)
  refine lv_istore_n (lv' := [(1, .int r_6), (0, .ref (a 0))]) hx hb dX3_liveDay_12 rfl hl (by decide) rfl (fun ls hl => ?_)
  refine lv_iload_n hx hb dX3_liveDay_13 rfl (lv_at hl 0 rfl) ?_
  refine lv_if_ne (tgt := 22) hx hb dX3_liveDay_14 (by decide) (fun c_10 => ?_) (fun c_10 => ?_)
  · have h := in_ h c_10
    refine lv_aload_n hx hb dX3_liveDay_22 rfl (lv_at hl 1 rfl) ?_
    refine lv_aload_n hx hb dX3_liveDay_23 rfl (lv_at hl 1 rfl) ?_
    refine va_get (ci := 6) (v := .int (g_8 2)) (C := RX3) (T := TX3) (N := 9) hx hb hts hi_X3 hown hK hP 0 rfl rfl 6 (by decide) (hts (.fieldLink RX3 125 "WishWell$Well" "turn" "I") (List.mem_of_getElem? (i := 1) rfl)) (fun _ h9 => h9) rfl dX3_liveDay_24 ?_
    refine lv_iconst (v := 1) hx hb dX3_liveDay_27 (by decide) ?_
    refine lv_iadd hx hb dX3_liveDay_28 ?_
    refine lv_iconst (v := 4) hx hb dX3_liveDay_29 (by decide) ?_
    refine lv_irem hx hb dX3_liveDay_30 (by decide) ?_
    refine va_put (D := D) (ci := 6) (v := .int (((g_8 2) + 1) - ((g_8 2) + 1) / 4 * 4)) (ty := .int) (C := RX3) (T := TX3) (N := 9) hx hb hts hi_X3 tyX3 tyX3_ok nmX3 hown hK hP hD hS 0 rfl rfl 6 (by decide) (hts (.fieldLink RX3 125 "WishWell$Well" "turn" "I") (List.mem_of_getElem? (i := 1) rfl)) (fun _ h9 => h9) rfl (by decide +kernel) rfl rfl (Nat.le_of_ble_eq_true rfl) dX3_liveDay_31 (fun H locs hP hD hS => ?_)
    obtain ⟨g_11, eg_11, h⟩ := lt_I h
    have hP : va_P D vwCl (wl cI a G_7 g_11 ++ rs) H := by rw [eg_11]; exact hP
    have hD : va_D A (wl cI a G_7 g_11 ++ rs) := by rw [eg_11]; exact hD
    refine lv_aload_n hx hb dX3_liveDay_34 rfl (lv_at hl 1 rfl) ?_
    refine lv_dup hx hb dX3_liveDay_35 rfl ?_
    refine va_get (ci := 6) (v := .int (g_11 0)) (C := RX3) (T := TX3) (N := 9) hx hb hts hi_X3 hown hK hP 0 rfl rfl 4 (by decide) (hts (.fieldLink RX3 118 "WishWell$Well" "day" "I") (List.mem_of_getElem? (i := 2) rfl)) (fun _ h9 => h9) rfl dX3_liveDay_36 ?_
    refine lv_iconst (v := 1) hx hb dX3_liveDay_39 (by decide) ?_
    refine lv_iadd hx hb dX3_liveDay_40 ?_
    refine va_put (D := D) (ci := 6) (v := .int ((g_11 0) + 1)) (ty := .int) (C := RX3) (T := TX3) (N := 9) hx hb hts hi_X3 tyX3 tyX3_ok nmX3 hown hK hP hD hS 0 rfl rfl 4 (by decide) (hts (.fieldLink RX3 118 "WishWell$Well" "day" "I") (List.mem_of_getElem? (i := 2) rfl)) (fun _ h9 => h9) rfl (by decide +kernel) rfl rfl (Nat.le_of_ble_eq_true rfl) dX3_liveDay_41 (fun H locs hP hD hS => ?_)
    obtain ⟨g_12, eg_12, h⟩ := lt_I h
    have hP : va_P D vwCl (wl cI a G_7 g_12 ++ rs) H := by rw [eg_12]; exact hP
    have hD : va_D A (wl cI a G_7 g_12 ++ rs) := by rw [eg_12]; exact hD
    refine lv_iload_n hx hb dX3_liveDay_44 rfl (lv_at hl 0 rfl) ?_
    obtain ⟨c_13, h⟩ := gd_I h
    obtain ⟨h0, h1, h2⟩ := o3 h
    exact eZ hx hb hr c_13 hlk hP hS dX3_liveDay_45 (Nat.le_of_ble_eq_true rfl) (Nat.le_of_ble_eq_true rfl) h0 (by rw [h1, h2])
  · have h := ip_ h c_10
    refine lv_aload_n hx hb dX3_liveDay_17 rfl (lv_at hl 1 rfl) ?_
    refine lv_iconst (v := 2) hx hb dX3_liveDay_18 (by decide) ?_
    obtain ⟨g_14, hx_15, h⟩ := bd_I h
    refine kVv (As := [.int 2]) (rest := []) B hK hN hP hD hS hA (c_X3_raiseFavour l D cI cJ a G_7 g_8 2 g_14 rs hx_15) (cwV 1 hts gX3_liveDay_X3_raiseFavour rfl rfl rfl (by decide +kernel) ⟨(Nat.le_of_ble_eq_true rfl), (Nat.le_of_ble_eq_true rfl)⟩) 6 0 rfl rfl rfl hl.1 rfl (Nat.le_of_ble_eq_true rfl) dX3_liveDay_19 ⟨(Nat.le_of_ble_eq_true rfl), (Nat.le_of_ble_eq_true rfl)⟩ rfl (fun H locs hP hD hS => ?_)
    refine lv_aload_n hx hb dX3_liveDay_22 rfl (lv_at hl 1 rfl) ?_
    refine lv_aload_n hx hb dX3_liveDay_23 rfl (lv_at hl 1 rfl) ?_
    refine va_get (ci := 6) (v := .int (g_14 2)) (C := RX3) (T := TX3) (N := 9) hx hb hts hi_X3 hown hK hP 0 rfl rfl 6 (by decide) (hts (.fieldLink RX3 125 "WishWell$Well" "turn" "I") (List.mem_of_getElem? (i := 1) rfl)) (fun _ h9 => h9) rfl dX3_liveDay_24 ?_
    refine lv_iconst (v := 1) hx hb dX3_liveDay_27 (by decide) ?_
    refine lv_iadd hx hb dX3_liveDay_28 ?_
    refine lv_iconst (v := 4) hx hb dX3_liveDay_29 (by decide) ?_
    refine lv_irem hx hb dX3_liveDay_30 (by decide) ?_
    refine va_put (D := D) (ci := 6) (v := .int (((g_14 2) + 1) - ((g_14 2) + 1) / 4 * 4)) (ty := .int) (C := RX3) (T := TX3) (N := 9) hx hb hts hi_X3 tyX3 tyX3_ok nmX3 hown hK hP hD hS 0 rfl rfl 6 (by decide) (hts (.fieldLink RX3 125 "WishWell$Well" "turn" "I") (List.mem_of_getElem? (i := 1) rfl)) (fun _ h9 => h9) rfl (by decide +kernel) rfl rfl (Nat.le_of_ble_eq_true rfl) dX3_liveDay_31 (fun H locs hP hD hS => ?_)
    obtain ⟨g_16, eg_16, h⟩ := lt_I h
    have hP : va_P D vwCl (wl cI a G_7 g_16 ++ rs) H := by rw [eg_16]; exact hP
    have hD : va_D A (wl cI a G_7 g_16 ++ rs) := by rw [eg_16]; exact hD
    refine lv_aload_n hx hb dX3_liveDay_34 rfl (lv_at hl 1 rfl) ?_
    refine lv_dup hx hb dX3_liveDay_35 rfl ?_
    refine va_get (ci := 6) (v := .int (g_16 0)) (C := RX3) (T := TX3) (N := 9) hx hb hts hi_X3 hown hK hP 0 rfl rfl 4 (by decide) (hts (.fieldLink RX3 118 "WishWell$Well" "day" "I") (List.mem_of_getElem? (i := 2) rfl)) (fun _ h9 => h9) rfl dX3_liveDay_36 ?_
    refine lv_iconst (v := 1) hx hb dX3_liveDay_39 (by decide) ?_
    refine lv_iadd hx hb dX3_liveDay_40 ?_
    refine va_put (D := D) (ci := 6) (v := .int ((g_16 0) + 1)) (ty := .int) (C := RX3) (T := TX3) (N := 9) hx hb hts hi_X3 tyX3 tyX3_ok nmX3 hown hK hP hD hS 0 rfl rfl 4 (by decide) (hts (.fieldLink RX3 118 "WishWell$Well" "day" "I") (List.mem_of_getElem? (i := 2) rfl)) (fun _ h9 => h9) rfl (by decide +kernel) rfl rfl (Nat.le_of_ble_eq_true rfl) dX3_liveDay_41 (fun H locs hP hD hS => ?_)
    obtain ⟨g_17, eg_17, h⟩ := lt_I h
    have hP : va_P D vwCl (wl cI a G_7 g_17 ++ rs) H := by rw [eg_17]; exact hP
    have hD : va_D A (wl cI a G_7 g_17 ++ rs) := by rw [eg_17]; exact hD
    refine lv_iload_n hx hb dX3_liveDay_44 rfl (lv_at hl 0 rfl) ?_
    obtain ⟨c_18, h⟩ := gd_I h
    obtain ⟨h0, h1, h2⟩ := o3 h
    exact eZ hx hb hr c_18 hlk hP hS dX3_liveDay_45 (Nat.le_of_ble_eq_true rfl) (Nat.le_of_ble_eq_true rfl) h0 (by rw [h1, h2])
noncomputable def fX3_liveDays_B4 (p0 : Int32) (x2_1 : Int32) (x3_1 : Int32) (G_1 : Nat → Nat → Int32) (g_1 : Nat → Int32) : Option ((Int32 × Int32 × (Nat → Nat → Int32) × (Nat → Int32)) ⊕ (Int32 × Int32 × (Nat → Nat → Int32) × (Nat → Int32))) := if p0 ≤ x3_1 then (some (.inr (x2_1, x3_1, G_1, g_1))) else (b3 (fX3_liveDay G_1 g_1) (fun r_3 G_4 g_5 => if r_3 = 0 then (some (.inl (x2_1, x3_1 + 1, G_4, g_5))) else (some (.inl (x2_1 + 1, x3_1 + 1, G_4, g_5)))))
noncomputable def fX3_liveDays (G : Nat → Nat → Int32) (g : Nat → Int32) (p0 : Int32) : Option (Int32 × (Nat → Nat → Int32) × (Nat → Int32)) := b4 (lp (fun s => fX3_liveDays_B4 p0 s.1 s.2.1 s.2.2.1 s.2.2.2) 101 (0, 0, G, g)) (fun z2_1 z3_1 Gz_1 gz_1 => some (z2_1, Gz_1, gz_1))
set_option maxHeartbeats 4000000 in
set_option maxRecDepth 100000 in
theorem c_X3_liveDays (l : Launch) (D : va_G) (cI cJ : ClassId) (a : Nat → Nat) (G : Nat → Nat → Int32) (g : Nat → Int32) (p0 : Int32) (r' : Int32) (G' : Nat → Nat → Int32) (g' : Nat → Int32) (rs : va_W) (h : fX3_liveDays G g p0 = some (r', G', g')) : Ci l yX3_liveDays wsX3_liveDays ({ frames := 5, cells := 0, slots := 0, locals := 111 } : Room) D cI cJ ([.ref (a 0), .int p0] : List Value) (wl cI a G g ++ rs) r' (wl cI a G' g' ++ rs) := by
  refine Ci.mk (cc := cX3_liveDays) (maxL := 4) (ret := (some .int)) (by decide) rfl (Nat.le_of_ble_eq_true rfl) ?_
  intro p e s m below meth c A ls B hr hlk hK hN hA hP hD hl
  obtain ⟨hx, hb, hml, hown, hts⟩ := id B
  have hS : va_S A s.heap s.heap [] := va_S.rf
  have hl : lv_has ls 4 [(0, .ref (a 0)), (1, .int p0)] := hl
  unfold fX3_liveDays at h
  refine lv_iconst (v := 0) hx hb dX3_liveDays_0 (by decide) ?_
  refine lv_istore_n (lv' := [(2, .int 0), (0, .ref (a 0)), (1, .int p0)]) hx hb dX3_liveDays_1 rfl hl (by decide) rfl (fun ls hl => ?_)
  refine lv_iconst (v := 0) hx hb dX3_liveDays_2 (by decide) ?_
  refine lv_istore_n (lv' := [(3, .int 0), (2, .int 0), (0, .ref (a 0)), (1, .int p0)]) hx hb dX3_liveDays_3 rfl hl (by decide) rfl (fun ls hl => ?_)
  have L4_1 : ∀ (n : Nat) (x2_1 : Int32) (x3_1 : Int32) (G_1 : Nat → Nat → Int32) (g_1 : Nat → Int32) (z2_1 : Int32) (z3_1 : Int32) (Gz_1 : Nat → Nat → Int32) (gz_1 : Nat → Int32) (_ : lp (fun s => fX3_liveDays_B4 p0 s.1 s.2.1 s.2.2.1 s.2.2.2) n (x2_1, x3_1, G_1, g_1) = some (z2_1, z3_1, Gz_1, gz_1)) (_ : ∀ (H : Heap) (locs : List Loc) (ls : Array Slot), va_P D vwCl (wl cI a Gz_1 gz_1 ++ rs) H → va_D A (wl cI a Gz_1 gz_1 ++ rs) → va_S A s.heap H locs → lv_has ls 4 [(0, .ref (a 0)), (1, .int p0), (2, .int z2_1), (3, .int z3_1)] → W p l e (headSpec wsX3_liveDays ({ frames := 5, cells := 0, slots := 0, locals := 111 } : Room)).room s m ([.ref (a 0), .int p0] : List Value).toArray below meth c H locs (0) (0) (QI below D (wl cI a G' g' ++ rs) r' ([.ref (a 0), .int p0] : List Value).toArray s 0 0 A) (F0 m 25 ls [])) (H : Heap) (locs : List Loc) (ls : Array Slot), va_P D vwCl (wl cI a G_1 g_1 ++ rs) H → va_D A (wl cI a G_1 g_1 ++ rs) → va_S A s.heap H locs → lv_has ls 4 [(0, .ref (a 0)), (1, .int p0), (2, .int x2_1), (3, .int x3_1)] → W p l e (headSpec wsX3_liveDays ({ frames := 5, cells := 0, slots := 0, locals := 111 } : Room)).room s m ([.ref (a 0), .int p0] : List Value).toArray below meth c H locs (0) (0) (QI below D (wl cI a G' g' ++ rs) r' ([.ref (a 0), .int p0] : List Value).toArray s 0 0 A) (F0 m 4 ls []) := by
    intro n
    induction n with
    | zero => intro x2_1 x3_1 G_1 g_1 z2_1 z3_1 Gz_1 gz_1 h; exact (lp_0 h).elim
    | succ n ih =>
      intro x2_1 x3_1 G_1 g_1 z2_1 z3_1 Gz_1 gz_1 h kk H locs ls hP hD hS hl
      obtain ⟨z, h, hz⟩ := lp_walk h
      have h : fX3_liveDays_B4 p0 x2_1 x3_1 G_1 g_1 = some z := h
      unfold fX3_liveDays_B4 at h
      refine lv_iload_n hx hb dX3_liveDays_4 rfl (lv_at hl 3 rfl) ?_
      refine lv_iload_n hx hb dX3_liveDays_5 rfl (lv_at hl 1 rfl) ?_
      refine lv_icmp_ge (tgt := 25) hx hb dX3_liveDays_6 (by decide) (fun c_2 => ?_) (fun c_2 => ?_)
      · have h := ip_ h c_2
        cases lz_e h hz
        exact kk _ _ _ hP hD hS (lv_sub hl [0, 1, 2, 3] rfl)
      · have h := in_ h c_2
        refine lv_aload_n hx hb dX3_liveDays_9 rfl (lv_at hl 0 rfl) ?_
        obtain ⟨r_3, G_4, g_5, hx_6, h⟩ := b3_I h
        refine kVi (As := []) (rest := []) B hK hN hP hD hS hA (c_X3_liveDay l D cI cJ a G_1 g_1  r_3 G_4 g_5 rs hx_6) (cwV 0 hts gX3_liveDays_X3_liveDay rfl rfl rfl (by decide +kernel) ⟨(Nat.le_of_ble_eq_true rfl), (Nat.le_of_ble_eq_true rfl)⟩) 6 0 rfl rfl rfl hl.1 rfl (Nat.le_of_ble_eq_true rfl) dX3_liveDays_10 ⟨(Nat.le_of_ble_eq_true rfl), (Nat.le_of_ble_eq_true rfl)⟩ rfl (fun H locs hP hD hS => ?_)
        refine lv_if_eq (tgt := 19) hx hb dX3_liveDays_13 (by decide) (fun c_7 => ?_) (fun c_7 => ?_)
        · have h := ip_ h c_7
          refine lv_iinc (v := x3_1 + 1) (lv' := [(3, .int (x3_1 + 1)), (0, .ref (a 0)), (1, .int p0), (2, .int x2_1)]) hx hb dX3_liveDays_19 hl (k := 3) rfl rfl (by decide) rfl (fun ls hl => ?_)
          refine lv_goto (tgt := 4) hx hb dX3_liveDays_22 (by decide) ?_
          exact ih x2_1 (x3_1 + 1) G_4 g_5 _ _ _ _ (lz_c h hz) kk _ _ _ hP hD hS (lv_sub hl [1, 2, 3, 0] rfl)
        · have h := in_ h c_7
          refine lv_iinc (v := x2_1 + 1) (lv' := [(2, .int (x2_1 + 1)), (0, .ref (a 0)), (1, .int p0), (3, .int x3_1)]) hx hb dX3_liveDays_16 hl (k := 2) rfl rfl (by decide) rfl (fun ls hl => ?_)
          refine lv_iinc (v := x3_1 + 1) (lv' := [(3, .int (x3_1 + 1)), (2, .int (x2_1 + 1)), (0, .ref (a 0)), (1, .int p0)]) hx hb dX3_liveDays_19 hl (k := 3) rfl rfl (by decide) rfl (fun ls hl => ?_)
          refine lv_goto (tgt := 4) hx hb dX3_liveDays_22 (by decide) ?_
          exact ih (x2_1 + 1) (x3_1 + 1) G_4 g_5 _ _ _ _ (lz_c h hz) kk _ _ _ hP hD hS (lv_sub hl [2, 3, 1, 0] rfl)
  obtain ⟨z2_1, z3_1, Gz_1, gz_1, hl_1, h⟩ := b4_I h
  refine L4_1 101 0 0 G g z2_1 z3_1 Gz_1 gz_1 hl_1 (fun H locs ls hP hD hS hl => ?_) _ _ _ hP hD hS (lv_sub hl [2, 3, 1, 0] rfl)
  refine lv_iload_n hx hb dX3_liveDays_25 rfl (lv_at hl 2 rfl) ?_
  obtain ⟨h0, h1, h2⟩ := o3 h
  exact eI hx hb hr hlk hP hS dX3_liveDays_26 (Nat.le_of_ble_eq_true rfl) (Nat.le_of_ble_eq_true rfl) h0 (by rw [h1, h2])
noncomputable def fX3_takeOver (G : Nat → Nat → Int32) (g : Nat → Int32) (J : Nat → Nat → Int32) (j : Nat → Int32) : Option ((Nat → Nat → Int32) × (Nat → Int32)) := b2 (fX0_takeOver G g J j) (fun J_1 j_2 => b2 (fX4_takeOver G g J_1 j_2) (fun J_4 j_5 => Option.bind (fX1_takeOver G J_4) (fun J_7 => lt_ (uG J_7 0 (rCp 7 (G 0) (J_7 0))) (fun J_9 => lt_ (uS j_5 0 (g 0)) (fun j_10 => lt_ (uS j_10 1 (g 1)) (fun j_11 => lt_ (uS j_11 2 (g 2)) (fun j_12 => lt_ (uS j_12 3 (g 3)) (fun j_13 => lt_ (uS j_13 4 (g 4)) (fun j_14 => some (J_9, j_14))))))))))
set_option maxHeartbeats 4000000 in
set_option maxRecDepth 100000 in
theorem c_X3_takeOver (l : Launch) (D : va_G) (cI cJ : ClassId) (a b : Nat → Nat) (G : Nat → Nat → Int32) (g : Nat → Int32) (J : Nat → Nat → Int32) (j : Nat → Int32) (J' : Nat → Nat → Int32) (j' : Nat → Int32) (rs : va_W) (h : fX3_takeOver G g J j = some (J', j')) : Cv l yX3_takeOver wsX3_takeOver ({ frames := 3, cells := 0, slots := 0, locals := 102 } : Room) D cI cJ ([.ref (b 0), .ref (a 0)] : List Value) (wl cI b J j ++ (wl cI a G g ++ rs)) (wl cI b J' j' ++ (wl cI a G g ++ rs)) := by
  refine Cv.mk (cc := cX3_takeOver) (maxL := 2) (ret := none) (by decide) rfl (Nat.le_of_ble_eq_true rfl) ?_
  intro p e s m below meth c A ls B hr hlk hK hN hA hP hD hl
  obtain ⟨hx, hb, hml, hown, hts⟩ := id B
  have hi_X3 : ∀ w ∈ wsX30, w ∈ wsX3_takeOver := fun _ h => List.mem_cons_of_mem _ (List.mem_append_left _ (List.mem_append_left _ (List.mem_append_left _ (List.mem_append_left _ (List.mem_append_right _ (h))))))
  have hS : va_S A s.heap s.heap [] := va_S.rf
  have hl : lv_has ls 2 [(0, .ref (b 0)), (1, .ref (a 0))] := hl
  unfold fX3_takeOver at h
  refine lv_aload_n hx hb dX3_takeOver_0 rfl (lv_at hl 0 rfl) ?_
  refine va_get (ci := 6) (v := .ref (b 1)) (C := RX3) (T := TX3) (N := 9) hx hb hts hi_X3 hown hK hP 0 rfl rfl 0 (by decide) (hts (.fieldLink RX3 12 "WishWell$Well" "lands" "LWishWell$Lands;") (List.mem_of_getElem? (i := 1) rfl)) (fun _ h9 => h9) rfl dX3_takeOver_1 ?_
  refine lv_aload_n hx hb dX3_takeOver_4 rfl (lv_at hl 1 rfl) ?_
  refine va_get (ci := 6) (v := .ref (a 1)) (C := RX3) (T := TX3) (N := 9) hx hb hts hi_X3 hown hK hP 28 rfl rfl 0 (by decide) (hts (.fieldLink RX3 12 "WishWell$Well" "lands" "LWishWell$Lands;") (List.mem_of_getElem? (i := 1) rfl)) (fun _ h9 => h9) rfl dX3_takeOver_5 ?_
  obtain ⟨J_1, j_2, hx_3, h⟩ := b2_I h
  refine kVv (As := [.ref (a 1)]) (rest := []) B hK hN hP hD hS hA (c_X0_takeOver l D cI cJ a b G g J j  J_1 j_2 rs hx_3) (cwV 1 hts gX3_takeOver_X0_takeOver rfl rfl rfl (by decide +kernel) ⟨(Nat.le_of_ble_eq_true rfl), (Nat.le_of_ble_eq_true rfl)⟩) 3 1 rfl rfl rfl hl.1 rfl (Nat.le_of_ble_eq_true rfl) dX3_takeOver_8 ⟨(Nat.le_of_ble_eq_true rfl), (Nat.le_of_ble_eq_true rfl)⟩ rfl (fun H locs hP hD hS => ?_)
  refine lv_aload_n hx hb dX3_takeOver_11 rfl (lv_at hl 0 rfl) ?_
  refine va_get (ci := 6) (v := .ref (b 2)) (C := RX3) (T := TX3) (N := 9) hx hb hts hi_X3 hown hK hP 0 rfl rfl 1 (by decide) (hts (.fieldLink RX3 21 "WishWell$Well" "wishes" "LWishWell$Wishes;") (List.mem_of_getElem? (i := 2) rfl)) (fun _ h9 => h9) rfl dX3_takeOver_12 ?_
  refine lv_aload_n hx hb dX3_takeOver_15 rfl (lv_at hl 1 rfl) ?_
  refine va_get (ci := 6) (v := .ref (a 2)) (C := RX3) (T := TX3) (N := 9) hx hb hts hi_X3 hown hK hP 28 rfl rfl 1 (by decide) (hts (.fieldLink RX3 21 "WishWell$Well" "wishes" "LWishWell$Wishes;") (List.mem_of_getElem? (i := 2) rfl)) (fun _ h9 => h9) rfl dX3_takeOver_16 ?_
  obtain ⟨J_4, j_5, hx_6, h⟩ := b2_I h
  refine kVv (As := [.ref (a 2)]) (rest := []) B hK hN hP hD hS hA (c_X4_takeOver l D cI cJ a b G g J_1 j_2  J_4 j_5 rs hx_6) (cwV 1 hts gX3_takeOver_X4_takeOver rfl rfl rfl (by decide +kernel) ⟨(Nat.le_of_ble_eq_true rfl), (Nat.le_of_ble_eq_true rfl)⟩) 7 2 rfl rfl rfl hl.1 rfl (Nat.le_of_ble_eq_true rfl) dX3_takeOver_19 ⟨(Nat.le_of_ble_eq_true rfl), (Nat.le_of_ble_eq_true rfl)⟩ rfl (fun H locs hP hD hS => ?_)
  refine lv_aload_n hx hb dX3_takeOver_22 rfl (lv_at hl 0 rfl) ?_
  refine va_get (ci := 6) (v := .ref (b 3)) (C := RX3) (T := TX3) (N := 9) hx hb hts hi_X3 hown hK hP 0 rfl rfl 2 (by decide) (hts (.fieldLink RX3 28 "WishWell$Well" "layers" "LWishWell$Layers;") (List.mem_of_getElem? (i := 3) rfl)) (fun _ h9 => h9) rfl dX3_takeOver_23 ?_
  refine lv_aload_n hx hb dX3_takeOver_26 rfl (lv_at hl 1 rfl) ?_
  refine va_get (ci := 6) (v := .ref (a 3)) (C := RX3) (T := TX3) (N := 9) hx hb hts hi_X3 hown hK hP 28 rfl rfl 2 (by decide) (hts (.fieldLink RX3 28 "WishWell$Well" "layers" "LWishWell$Layers;") (List.mem_of_getElem? (i := 3) rfl)) (fun _ h9 => h9) rfl dX3_takeOver_27 ?_
  obtain ⟨J_7, hx_8, h⟩ := bd_I h
  refine kVv (As := [.ref (a 3)]) (rest := []) B hK hN hP hD hS hA (c_X1_takeOver l D cI cJ a b G g J_4 j_5  J_7 rs hx_8) (cwV 1 hts gX3_takeOver_X1_takeOver rfl rfl rfl (by decide +kernel) ⟨(Nat.le_of_ble_eq_true rfl), (Nat.le_of_ble_eq_true rfl)⟩) 4 3 rfl rfl rfl hl.1 rfl (Nat.le_of_ble_eq_true rfl) dX3_takeOver_30 ⟨(Nat.le_of_ble_eq_true rfl), (Nat.le_of_ble_eq_true rfl)⟩ rfl (fun H locs hP hD hS => ?_)
  refine lv_aload_n hx hb dX3_takeOver_33 rfl (lv_at hl 0 rfl) ?_
  refine va_get (ci := 6) (v := .ref (b 4)) (C := RX3) (T := TX3) (N := 9) hx hb hts hi_X3 hown hK hP 0 rfl rfl 3 (by decide) (hts (.fieldLink RX3 37 "WishWell$Well" "tide" "LWishWell$Row;") (List.mem_of_getElem? (i := 4) rfl)) (fun _ h9 => h9) rfl dX3_takeOver_34 ?_
  refine lv_aload_n hx hb dX3_takeOver_37 rfl (lv_at hl 1 rfl) ?_
  refine va_get (ci := 6) (v := .ref (a 4)) (C := RX3) (T := TX3) (N := 9) hx hb hts hi_X3 hown hK hP 28 rfl rfl 3 (by decide) (hts (.fieldLink RX3 37 "WishWell$Well" "tide" "LWishWell$Row;") (List.mem_of_getElem? (i := 4) rfl)) (fun _ h9 => h9) rfl dX3_takeOver_38 ?_
  refine kVv (As := [.ref (a 4)]) (rest := []) B hK hN hP hD hS hA (c_X2_takeOver l D cI cJ _ (wl cI b (uG J_7 0 (rCp 7 (G 0) (J_7 0))) j_5 ++ (wl cI a G g ++ rs)) _ _ _ _ 7 (G 0) (J_7 0) 4 16 32 44 rfl rfl rfl rfl (by decide) rfl) (cwV 1 hts gX3_takeOver_X2_takeOver rfl rfl rfl (by decide +kernel) ⟨(Nat.le_of_ble_eq_true rfl), (Nat.le_of_ble_eq_true rfl)⟩) 5 4 rfl rfl rfl hl.1 rfl (Nat.le_of_ble_eq_true rfl) dX3_takeOver_41 ⟨(Nat.le_of_ble_eq_true rfl), (Nat.le_of_ble_eq_true rfl)⟩ rfl (fun H locs hP hD hS => ?_)
  obtain ⟨J_9, eJ_9, h⟩ := lt_I h
  have hP : va_P D vwCl (wl cI b J_9 j_5 ++ (wl cI a G g ++ rs)) H := by rw [eJ_9]; exact hP
  have hD : va_D A (wl cI b J_9 j_5 ++ (wl cI a G g ++ rs)) := by rw [eJ_9]; exact hD
  refine lv_aload_n hx hb dX3_takeOver_44 rfl (lv_at hl 0 rfl) ?_
  refine lv_aload_n hx hb dX3_takeOver_45 rfl (lv_at hl 1 rfl) ?_
  refine va_get (ci := 6) (v := .int (g 0)) (C := RX3) (T := TX3) (N := 9) hx hb hts hi_X3 hown hK hP 28 rfl rfl 4 (by decide) (hts (.fieldLink RX3 118 "WishWell$Well" "day" "I") (List.mem_of_getElem? (i := 5) rfl)) (fun _ h9 => h9) rfl dX3_takeOver_46 ?_
  refine va_put (D := D) (ci := 6) (v := .int (g 0)) (ty := .int) (C := RX3) (T := TX3) (N := 9) hx hb hts hi_X3 tyX3 tyX3_ok nmX3 hown hK hP hD hS 0 rfl rfl 4 (by decide) (hts (.fieldLink RX3 118 "WishWell$Well" "day" "I") (List.mem_of_getElem? (i := 5) rfl)) (fun _ h9 => h9) rfl (by decide +kernel) rfl rfl (Nat.le_of_ble_eq_true rfl) dX3_takeOver_49 (fun H locs hP hD hS => ?_)
  obtain ⟨j_10, ej_10, h⟩ := lt_I h
  have hP : va_P D vwCl (wl cI b J_9 j_10 ++ (wl cI a G g ++ rs)) H := by rw [ej_10]; exact hP
  have hD : va_D A (wl cI b J_9 j_10 ++ (wl cI a G g ++ rs)) := by rw [ej_10]; exact hD
  refine lv_aload_n hx hb dX3_takeOver_52 rfl (lv_at hl 0 rfl) ?_
  refine lv_aload_n hx hb dX3_takeOver_53 rfl (lv_at hl 1 rfl) ?_
  refine va_get (ci := 6) (v := .int (g 1)) (C := RX3) (T := TX3) (N := 9) hx hb hts hi_X3 hown hK hP 28 rfl rfl 5 (by decide) (hts (.fieldLink RX3 41 "WishWell$Well" "favour" "I") (List.mem_of_getElem? (i := 6) rfl)) (fun _ h9 => h9) rfl dX3_takeOver_54 ?_
  refine va_put (D := D) (ci := 6) (v := .int (g 1)) (ty := .int) (C := RX3) (T := TX3) (N := 9) hx hb hts hi_X3 tyX3 tyX3_ok nmX3 hown hK hP hD hS 0 rfl rfl 5 (by decide) (hts (.fieldLink RX3 41 "WishWell$Well" "favour" "I") (List.mem_of_getElem? (i := 6) rfl)) (fun _ h9 => h9) rfl (by decide +kernel) rfl rfl (Nat.le_of_ble_eq_true rfl) dX3_takeOver_57 (fun H locs hP hD hS => ?_)
  obtain ⟨j_11, ej_11, h⟩ := lt_I h
  have hP : va_P D vwCl (wl cI b J_9 j_11 ++ (wl cI a G g ++ rs)) H := by rw [ej_11]; exact hP
  have hD : va_D A (wl cI b J_9 j_11 ++ (wl cI a G g ++ rs)) := by rw [ej_11]; exact hD
  refine lv_aload_n hx hb dX3_takeOver_60 rfl (lv_at hl 0 rfl) ?_
  refine lv_aload_n hx hb dX3_takeOver_61 rfl (lv_at hl 1 rfl) ?_
  refine va_get (ci := 6) (v := .int (g 2)) (C := RX3) (T := TX3) (N := 9) hx hb hts hi_X3 hown hK hP 28 rfl rfl 6 (by decide) (hts (.fieldLink RX3 125 "WishWell$Well" "turn" "I") (List.mem_of_getElem? (i := 7) rfl)) (fun _ h9 => h9) rfl dX3_takeOver_62 ?_
  refine va_put (D := D) (ci := 6) (v := .int (g 2)) (ty := .int) (C := RX3) (T := TX3) (N := 9) hx hb hts hi_X3 tyX3 tyX3_ok nmX3 hown hK hP hD hS 0 rfl rfl 6 (by decide) (hts (.fieldLink RX3 125 "WishWell$Well" "turn" "I") (List.mem_of_getElem? (i := 7) rfl)) (fun _ h9 => h9) rfl (by decide +kernel) rfl rfl (Nat.le_of_ble_eq_true rfl) dX3_takeOver_65 (fun H locs hP hD hS => ?_)
  obtain ⟨j_12, ej_12, h⟩ := lt_I h
  have hP : va_P D vwCl (wl cI b J_9 j_12 ++ (wl cI a G g ++ rs)) H := by rw [ej_12]; exact hP
  have hD : va_D A (wl cI b J_9 j_12 ++ (wl cI a G g ++ rs)) := by rw [ej_12]; exact hD
  refine lv_aload_n hx hb dX3_takeOver_68 rfl (lv_at hl 0 rfl) ?_
  refine lv_aload_n hx hb dX3_takeOver_69 rfl (lv_at hl 1 rfl) ?_
  refine va_get (ci := 6) (v := .int (g 3)) (C := RX3) (T := TX3) (N := 9) hx hb hts hi_X3 hown hK hP 28 rfl rfl 7 (by decide) (hts (.fieldLink RX3 103 "WishWell$Well" "purse" "I") (List.mem_of_getElem? (i := 8) rfl)) (fun _ h9 => h9) rfl dX3_takeOver_70 ?_
  refine va_put (D := D) (ci := 6) (v := .int (g 3)) (ty := .int) (C := RX3) (T := TX3) (N := 9) hx hb hts hi_X3 tyX3 tyX3_ok nmX3 hown hK hP hD hS 0 rfl rfl 7 (by decide) (hts (.fieldLink RX3 103 "WishWell$Well" "purse" "I") (List.mem_of_getElem? (i := 8) rfl)) (fun _ h9 => h9) rfl (by decide +kernel) rfl rfl (Nat.le_of_ble_eq_true rfl) dX3_takeOver_73 (fun H locs hP hD hS => ?_)
  obtain ⟨j_13, ej_13, h⟩ := lt_I h
  have hP : va_P D vwCl (wl cI b J_9 j_13 ++ (wl cI a G g ++ rs)) H := by rw [ej_13]; exact hP
  have hD : va_D A (wl cI b J_9 j_13 ++ (wl cI a G g ++ rs)) := by rw [ej_13]; exact hD
  refine lv_aload_n hx hb dX3_takeOver_76 rfl (lv_at hl 0 rfl) ?_
  refine lv_aload_n hx hb dX3_takeOver_77 rfl (lv_at hl 1 rfl) ?_
  refine va_get (ci := 6) (v := .int (g 4)) (C := RX3) (T := TX3) (N := 9) hx hb hts hi_X3 hown hK hP 28 rfl rfl 8 (by decide) (hts (.fieldLink RX3 92 "WishWell$Well" "fished" "I") (List.mem_of_getElem? (i := 9) rfl)) (fun _ h9 => h9) rfl dX3_takeOver_78 ?_
  refine va_put (D := D) (ci := 6) (v := .int (g 4)) (ty := .int) (C := RX3) (T := TX3) (N := 9) hx hb hts hi_X3 tyX3 tyX3_ok nmX3 hown hK hP hD hS 0 rfl rfl 8 (by decide) (hts (.fieldLink RX3 92 "WishWell$Well" "fished" "I") (List.mem_of_getElem? (i := 9) rfl)) (fun _ h9 => h9) rfl (by decide +kernel) rfl rfl (Nat.le_of_ble_eq_true rfl) dX3_takeOver_81 (fun H locs hP hD hS => ?_)
  obtain ⟨j_14, ej_14, h⟩ := lt_I h
  have hP : va_P D vwCl (wl cI b J_9 j_14 ++ (wl cI a G g ++ rs)) H := by rw [ej_14]; exact hP
  have hD : va_D A (wl cI b J_9 j_14 ++ (wl cI a G g ++ rs)) := by rw [ej_14]; exact hD
  obtain ⟨h0, h1⟩ := o2 h
  exact eV hx hb hr hlk hP hS dX3_takeOver_84 (Nat.le_of_ble_eq_true rfl) (Nat.le_of_ble_eq_true rfl) (by rw [h0, h1])
