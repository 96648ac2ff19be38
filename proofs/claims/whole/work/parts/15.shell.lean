/-! laid by wip/whole/gen.py -/
noncomputable def fX5_within (p0 : Int32) (p1 : Int32) (p2 : Int32) : Int32 := if p0 < p1 then (0) else (if p2 < p0 then (0) else (1))
set_option maxHeartbeats 4000000 in
set_option maxRecDepth 100000 in
theorem c_X5_within (l : Launch) (D : va_G) (cI cJ : ClassId) (p0 : Int32) (p1 : Int32) (p2 : Int32) (w : va_W) (r' : Int32) (h : fX5_within p0 p1 p2 = r') : Ci l yX5_within wsX5_within ({ frames := 0, cells := 0, slots := 0, locals := 0 } : Room) D cI cJ ([.int p0, .int p1, .int p2] : List Value) (w) r' (w) := by
  refine Ci.mk (cc := cX5_within) (maxL := 3) (ret := (some .boolean)) (by decide) rfl (Nat.le_of_ble_eq_true rfl) ?_
  intro p e s m below meth c A ls B hr hlk hK hN hA hP hD hl
  obtain ⟨hx, hb, hml, hown, hts⟩ := id B
  have hS : va_S A s.heap s.heap [] := va_S.rf
  have hl : lv_has ls 3 [(0, .int p0), (1, .int p1), (2, .int p2)] := hl
  unfold fX5_within at h
  refine lv_iload_n hx hb dX5_within_0 rfl (lv_at hl 0 rfl) ?_
  refine lv_iload_n hx hb dX5_within_1 rfl (lv_at hl 1 rfl) ?_
  refine lv_icmp_lt (tgt := 14) hx hb dX5_within_2 (by decide) (fun c_1 => ?_) (fun c_1 => ?_)
  · have h := ip_ h c_1
    refine lv_iconst (v := 0) hx hb dX5_within_14 (by decide) ?_
    exact eZ hx hb hr nar0 hlk hP hS dX5_within_15 (Nat.le_of_ble_eq_true rfl) (Nat.le_of_ble_eq_true rfl) h rfl
  · have h := in_ h c_1
    refine lv_iload_n hx hb dX5_within_5 rfl (lv_at hl 0 rfl) ?_
    refine lv_iload_n hx hb dX5_within_6 rfl (lv_at hl 2 rfl) ?_
    refine lv_icmp_gt (tgt := 14) hx hb dX5_within_7 (by decide) (fun c_2 => ?_) (fun c_2 => ?_)
    · have h := ip_ h c_2
      refine lv_iconst (v := 0) hx hb dX5_within_14 (by decide) ?_
      exact eZ hx hb hr nar0 hlk hP hS dX5_within_15 (Nat.le_of_ble_eq_true rfl) (Nat.le_of_ble_eq_true rfl) h rfl
    · have h := in_ h c_2
      refine lv_iconst (v := 1) hx hb dX5_within_10 (by decide) ?_
      refine lv_goto (tgt := 15) hx hb dX5_within_11 (by decide) ?_
      exact eZ hx hb hr nar1 hlk hP hS dX5_within_15 (Nat.le_of_ble_eq_true rfl) (Nat.le_of_ble_eq_true rfl) h rfl
theorem nb_X5_within (p0 : Int32) (p1 : Int32) (p2 : Int32) : nbo (fX5_within p0 p1 p2) := by
  unfold fX5_within
  (repeat' split) <;> first | exact nar0 | exact nar1 | exact nar0
noncomputable def fX5_richest_B6 (G : Nat → Nat → Int32) (g : Nat → Int32) (x1_1 : Int32) (x2_1 : Int32) (x3_1 : Int32)  : Option ((Int32 × Int32 × Int32) ⊕ (Int32 × Int32 × Int32)) := if 5 ≤ x3_1 then (some (.inr (x1_1, x2_1, x3_1))) else (Option.bind (fX3_valueIn G g x3_1) (fun r_3 => if r_3 ≤ x2_1 then (some (.inl (x1_1, x2_1, x3_1 + 1))) else (some (.inl (x3_1, r_3, x3_1 + 1)))))
noncomputable def fX5_richest (G : Nat → Nat → Int32) (g : Nat → Int32) : Option (Int32) := b3 (lp (fun s => fX5_richest_B6 G g s.1 s.2.1 s.2.2) 6 ((-1), 0, 0)) (fun z1_1 z2_1 z3_1 => some z1_1)
set_option maxHeartbeats 4000000 in
set_option maxRecDepth 100000 in
theorem c_X5_richest (l : Launch) (D : va_G) (cI cJ : ClassId) (a b x : Nat → Nat) (G : Nat → Nat → Int32) (g : Nat → Int32) (J : Nat → Nat → Int32) (j : Nat → Int32) (F : Nat → Int32) (r' : Int32) (rs : va_W) (h : fX5_richest G g = some r') : Ci l yX5_richest wsX5_richest ({ frames := 3, cells := 0, slots := 0, locals := 67 } : Room) D cI cJ ([.ref (x 0)] : List Value) (wl cI a G g ++ (wl cI b J j ++ (xr cI a b x F ++ rs))) r' (wl cI a G g ++ (wl cI b J j ++ (xr cI a b x F ++ rs))) := by
  refine Ci.mk (cc := cX5_richest) (maxL := 5) (ret := (some .int)) (by decide) rfl (Nat.le_of_ble_eq_true rfl) ?_
  intro p e s m below meth c A ls B hr hlk hK hN hA hP hD hl
  obtain ⟨hx, hb, hml, hown, hts⟩ := id B
  have hi_X5 : ∀ w ∈ wsX50, w ∈ wsX5_richest := fun _ h => List.mem_cons_of_mem _ (List.mem_append_left _ (List.mem_append_left _ (List.mem_append_left _ (List.mem_append_left _ (List.mem_append_left _ (List.mem_append_right _ (h)))))))
  have hS : va_S A s.heap s.heap [] := va_S.rf
  have hl : lv_has ls 5 [(0, .ref (x 0))] := hl
  unfold fX5_richest at h
  refine lv_iconst (v := (-1)) hx hb dX5_richest_0 (by decide) ?_
  refine lv_istore_n (lv' := [(1, .int (-1)), (0, .ref (x 0))]) hx hb dX5_richest_1 rfl hl (by decide) rfl (fun ls hl => ?_)
  refine lv_iconst (v := 0) hx hb dX5_richest_2 (by decide) ?_
  refine lv_istore_n (lv' := [(2, .int 0), (1, .int (-1)), (0, .ref (x 0))]) hx hb dX5_richest_3 rfl hl (by decide) rfl (fun ls hl => ?_)
  refine lv_iconst (v := 0) hx hb dX5_richest_4 (by decide) ?_
  refine lv_istore_n (lv' := [(3, .int 0), (2, .int 0), (1, .int (-1)), (0, .ref (x 0))]) hx hb dX5_richest_5 rfl hl (by decide) rfl (fun ls hl => ?_)
  have L6_1 : ∀ (n : Nat) (x1_1 : Int32) (x2_1 : Int32) (x3_1 : Int32)  (z1_1 : Int32) (z2_1 : Int32) (z3_1 : Int32)  (_ : lp (fun s => fX5_richest_B6 G g s.1 s.2.1 s.2.2) n (x1_1, x2_1, x3_1) = some (z1_1, z2_1, z3_1)) (_ : ∀ (H : Heap) (locs : List Loc) (ls : Array Slot), va_P D vwCl (wl cI a G g ++ (wl cI b J j ++ (xr cI a b x F ++ rs))) H → va_D A (wl cI a G g ++ (wl cI b J j ++ (xr cI a b x F ++ rs))) → va_S A s.heap H locs → lv_has ls 5 [(0, .ref (x 0)), (1, .int z1_1), (2, .int z2_1), (3, .int z3_1)] → W p l e (headSpec wsX5_richest ({ frames := 3, cells := 0, slots := 0, locals := 67 } : Room)).room s m ([.ref (x 0)] : List Value).toArray below meth c H locs (0) (0) (QI below D (wl cI a G g ++ (wl cI b J j ++ (xr cI a b x F ++ rs))) r' ([.ref (x 0)] : List Value).toArray s 0 0 A) (F0 m 38 ls [])) (H : Heap) (locs : List Loc) (ls : Array Slot), va_P D vwCl (wl cI a G g ++ (wl cI b J j ++ (xr cI a b x F ++ rs))) H → va_D A (wl cI a G g ++ (wl cI b J j ++ (xr cI a b x F ++ rs))) → va_S A s.heap H locs → lv_has ls 5 [(0, .ref (x 0)), (1, .int x1_1), (2, .int x2_1), (3, .int x3_1)] → W p l e (headSpec wsX5_richest ({ frames := 3, cells := 0, slots := 0, locals := 67 } : Room)).room s m ([.ref (x 0)] : List Value).toArray below meth c H locs (0) (0) (QI below D (wl cI a G g ++ (wl cI b J j ++ (xr cI a b x F ++ rs))) r' ([.ref (x 0)] : List Value).toArray s 0 0 A) (F0 m 6 ls []) := by
    intro n
    induction n with
    | zero => intro x1_1 x2_1 x3_1 z1_1 z2_1 z3_1 h; exact (lp_0 h).elim
    | succ n ih =>
      intro x1_1 x2_1 x3_1 z1_1 z2_1 z3_1 h kk H locs ls hP hD hS hl
      obtain ⟨z, h, hz⟩ := lp_walk h
      have h : fX5_richest_B6 G g x1_1 x2_1 x3_1 = some z := h
      unfold fX5_richest_B6 at h
      refine lv_iload_n hx hb dX5_richest_6 rfl (lv_at hl 3 rfl) ?_
      refine lv_iconst (v := 5) hx hb dX5_richest_7 (by decide) ?_
      refine lv_icmp_ge (tgt := 38) hx hb dX5_richest_8 (by decide) (fun c_2 => ?_) (fun c_2 => ?_)
      · have h := ip_ h c_2
        cases lz_e h hz
        exact kk _ _ _ hP hD hS (lv_sub hl [0, 1, 2, 3] rfl)
      · have h := in_ h c_2
        refine lv_aload_n hx hb dX5_richest_11 rfl (lv_at hl 0 rfl) ?_
        refine va_get (ci := 8) (v := .ref (a 0)) (C := RX5) (T := TX5) (N := 3) hx hb hts hi_X5 hown hK hP 56 rfl rfl 0 (by decide) (hts (.fieldLink RX5 10 "WishWell" "well" "LWishWell$Well;") (List.mem_of_getElem? (i := 1) rfl)) (fun _ h9 => h9) rfl dX5_richest_12 ?_
        refine lv_iload_n hx hb dX5_richest_15 rfl (lv_at hl 3 rfl) ?_
        obtain ⟨r_3, hx_4, h⟩ := bd_I h
        refine kVi (As := [.int x3_1]) (rest := []) B hK hN hP hD hS hA (c_X3_valueIn l D cI cJ a G g x3_1 r_3 (wl cI b J j ++ (xr cI a b x F ++ rs)) hx_4) (cwV 1 hts gX5_richest_X3_valueIn rfl rfl rfl (by decide +kernel) ⟨(Nat.le_of_ble_eq_true rfl), (Nat.le_of_ble_eq_true rfl)⟩) 6 0 rfl rfl rfl hl.1 rfl (Nat.le_of_ble_eq_true rfl) dX5_richest_16 ⟨(Nat.le_of_ble_eq_true rfl), (Nat.le_of_ble_eq_true rfl)⟩ rfl (fun H locs hP hD hS => ?_)
        refine lv_istore (lv' := [(4, .int r_3), (0, .ref (x 0)), (1, .int x1_1), (2, .int x2_1), (3, .int x3_1)]) hx hb dX5_richest_19 hl (by decide) rfl (fun ls hl => ?_)
        refine lv_iload hx hb dX5_richest_21 (lv_at hl 0 rfl) ?_
        refine lv_iload_n hx hb dX5_richest_23 rfl (lv_at hl 3 rfl) ?_
        refine lv_icmp_le (tgt := 32) hx hb dX5_richest_24 (by decide) (fun c_5 => ?_) (fun c_5 => ?_)
        · have h := ip_ h c_5
          refine lv_iinc (v := x3_1 + 1) (lv' := [(3, .int (x3_1 + 1)), (4, .int r_3), (0, .ref (x 0)), (1, .int x1_1), (2, .int x2_1)]) hx hb dX5_richest_32 hl (k := 4) rfl rfl (by decide) rfl (fun ls hl => ?_)
          refine lv_goto (tgt := 6) hx hb dX5_richest_35 (by decide) ?_
          exact ih x1_1 x2_1 (x3_1 + 1) _ _ _ (lz_c h hz) kk _ _ _ hP hD hS (lv_sub hl [2, 3, 4, 0] rfl)
        · have h := in_ h c_5
          refine lv_iload_n hx hb dX5_richest_27 rfl (lv_at hl 4 rfl) ?_
          refine lv_istore_n (lv' := [(1, .int x3_1), (4, .int r_3), (0, .ref (x 0)), (2, .int x2_1), (3, .int x3_1)]) hx hb dX5_richest_28 rfl hl (by decide) rfl (fun ls hl => ?_)
          refine lv_iload hx hb dX5_richest_29 (lv_at hl 1 rfl) ?_
          refine lv_istore_n (lv' := [(2, .int r_3), (1, .int x3_1), (4, .int r_3), (0, .ref (x 0)), (3, .int x3_1)]) hx hb dX5_richest_31 rfl hl (by decide) rfl (fun ls hl => ?_)
          refine lv_iinc (v := x3_1 + 1) (lv' := [(3, .int (x3_1 + 1)), (2, .int r_3), (1, .int x3_1), (4, .int r_3), (0, .ref (x 0))]) hx hb dX5_richest_32 hl (k := 4) rfl rfl (by decide) rfl (fun ls hl => ?_)
          refine lv_goto (tgt := 6) hx hb dX5_richest_35 (by decide) ?_
          exact ih x3_1 r_3 (x3_1 + 1) _ _ _ (lz_c h hz) kk _ _ _ hP hD hS (lv_sub hl [4, 2, 1, 0] rfl)
  obtain ⟨z1_1, z2_1, z3_1, hl_1, h⟩ := b3_I h
  refine L6_1 6 (-1) 0 0  z1_1 z2_1 z3_1 hl_1 (fun H locs ls hP hD hS hl => ?_) _ _ _ hP hD hS (lv_sub hl [3, 2, 1, 0] rfl)
  refine lv_iload_n hx hb dX5_richest_38 rfl (lv_at hl 1 rfl) ?_
  have h0 := o1 h
  exact eI hx hb hr hlk hP hS dX5_richest_39 (Nat.le_of_ble_eq_true rfl) (Nat.le_of_ble_eq_true rfl) h0 rfl
noncomputable def fX5_payWithBundle_B3 (p0 : Int32) (p1 : Int32) (x4_1 : Int32) (F_1 : Nat → Int32) : Option ((Int32 × (Nat → Int32)) ⊕ (Int32 × (Nat → Int32))) := if x4_1 < p1 then (some (.inr (x4_1, F_1))) else (lt_ (rAt 301 F_1 (x4_1 - p1)) (fun y5_3 => lt_ (rAt 301 F_1 x4_1) (fun y6_4 => if y5_3 = (-1) then (some (.inl (x4_1 + (-1), F_1))) else (if y6_4 = (-1) then (lt_ (rPut 301 F_1 x4_1 (y5_3 + p0)) (fun F_7 => some (.inl (x4_1 + (-1), F_7)))) else (if y6_4 ≤ (y5_3 + p0) then (some (.inl (x4_1 + (-1), F_1))) else (lt_ (rPut 301 F_1 x4_1 (y5_3 + p0)) (fun F_9 => some (.inl (x4_1 + (-1), F_9)))))))))
noncomputable def fX5_payWithBundle (F : Nat → Int32) (p0 : Int32) (p1 : Int32) (p2 : Int32) : Option ((Nat → Int32)) := b2 (lp (fun s => fX5_payWithBundle_B3 p0 p1 s.1 s.2) 302 (p2, F)) (fun z4_1 Fz_1 => some Fz_1)
set_option maxHeartbeats 4000000 in
set_option maxRecDepth 100000 in
theorem c_X5_payWithBundle (l : Launch) (D : va_G) (cI cJ : ClassId) (a b x : Nat → Nat) (G : Nat → Nat → Int32) (g : Nat → Int32) (J : Nat → Nat → Int32) (j : Nat → Int32) (F : Nat → Int32) (p0 : Int32) (p1 : Int32) (p2 : Int32) (F' : Nat → Int32) (rs : va_W) (h : fX5_payWithBundle F p0 p1 p2 = some F') : Cv l yX5_payWithBundle wsX5_payWithBundle ({ frames := 1, cells := 0, slots := 0, locals := 22 } : Room) D cI cJ ([.ref (x 0), .int p0, .int p1, .int p2] : List Value) (wl cI a G g ++ (wl cI b J j ++ (xr cI a b x F ++ rs))) (wl cI a G g ++ (wl cI b J j ++ (xr cI a b x F' ++ rs))) := by
  refine Cv.mk (cc := cX5_payWithBundle) (maxL := 7) (ret := none) (by decide) rfl (Nat.le_of_ble_eq_true rfl) ?_
  intro p e s m below meth c A ls B hr hlk hK hN hA hP hD hl
  obtain ⟨hx, hb, hml, hown, hts⟩ := id B
  have hi_X5 : ∀ w ∈ wsX50, w ∈ wsX5_payWithBundle := fun _ h => List.mem_cons_of_mem _ (List.mem_append_left _ (List.mem_append_left _ (List.mem_append_right _ (h))))
  have hS : va_S A s.heap s.heap [] := va_S.rf
  have hl : lv_has ls 7 [(0, .ref (x 0)), (1, .int p0), (2, .int p1), (3, .int p2)] := hl
  unfold fX5_payWithBundle at h
  refine lv_iload_n hx hb dX5_payWithBundle_0 rfl (lv_at hl 3 rfl) ?_
  refine lv_istore (lv' := [(4, .int p2), (0, .ref (x 0)), (1, .int p0), (2, .int p1), (3, .int p2)]) hx hb dX5_payWithBundle_1 hl (by decide) rfl (fun ls hl => ?_)
  have L3_1 : ∀ (n : Nat) (x4_1 : Int32) (F_1 : Nat → Int32) (z4_1 : Int32) (Fz_1 : Nat → Int32) (_ : lp (fun s => fX5_payWithBundle_B3 p0 p1 s.1 s.2) n (x4_1, F_1) = some (z4_1, Fz_1)) (_ : ∀ (H : Heap) (locs : List Loc) (ls : Array Slot), va_P D vwCl (wl cI a G g ++ (wl cI b J j ++ (xr cI a b x Fz_1 ++ rs))) H → va_D A (wl cI a G g ++ (wl cI b J j ++ (xr cI a b x Fz_1 ++ rs))) → va_S A s.heap H locs → lv_has ls 7 [(0, .ref (x 0)), (1, .int p0), (2, .int p1), (3, .int p2), (4, .int z4_1)] → W p l e (headSpec wsX5_payWithBundle ({ frames := 1, cells := 0, slots := 0, locals := 22 } : Room)).room s m ([.ref (x 0), .int p0, .int p1, .int p2] : List Value).toArray below meth c H locs (0) (0) (QV below D (wl cI a G g ++ (wl cI b J j ++ (xr cI a b x F' ++ rs))) ([.ref (x 0), .int p0, .int p1, .int p2] : List Value).toArray s 0 0 A) (F0 m 73 ls [])) (H : Heap) (locs : List Loc) (ls : Array Slot), va_P D vwCl (wl cI a G g ++ (wl cI b J j ++ (xr cI a b x F_1 ++ rs))) H → va_D A (wl cI a G g ++ (wl cI b J j ++ (xr cI a b x F_1 ++ rs))) → va_S A s.heap H locs → lv_has ls 7 [(0, .ref (x 0)), (1, .int p0), (2, .int p1), (3, .int p2), (4, .int x4_1)] → W p l e (headSpec wsX5_payWithBundle ({ frames := 1, cells := 0, slots := 0, locals := 22 } : Room)).room s m ([.ref (x 0), .int p0, .int p1, .int p2] : List Value).toArray below meth c H locs (0) (0) (QV below D (wl cI a G g ++ (wl cI b J j ++ (xr cI a b x F' ++ rs))) ([.ref (x 0), .int p0, .int p1, .int p2] : List Value).toArray s 0 0 A) (F0 m 3 ls []) := by
    intro n
    induction n with
    | zero => intro x4_1 F_1 z4_1 Fz_1 h; exact (lp_0 h).elim
    | succ n ih =>
      intro x4_1 F_1 z4_1 Fz_1 h kk H locs ls hP hD hS hl
      obtain ⟨z, h, hz⟩ := lp_walk h
      have h : fX5_payWithBundle_B3 p0 p1 x4_1 F_1 = some z := h
      unfold fX5_payWithBundle_B3 at h
      refine lv_iload hx hb dX5_payWithBundle_3 (lv_at hl 4 rfl) ?_
      refine lv_iload_n hx hb dX5_payWithBundle_5 rfl (lv_at hl 2 rfl) ?_
      refine lv_icmp_lt (tgt := 73) hx hb dX5_payWithBundle_6 (by decide) (fun c_2 => ?_) (fun c_2 => ?_)
      · have h := ip_ h c_2
        cases lz_e h hz
        exact kk _ _ _ hP hD hS (lv_sub hl [0, 1, 2, 3, 4] rfl)
      · have h := in_ h c_2
        refine lv_aload_n hx hb dX5_payWithBundle_9 rfl (lv_at hl 0 rfl) ?_
        refine va_get (ci := 8) (v := .ref (x 1)) (C := RX5) (T := TX5) (N := 3) hx hb hts hi_X5 hown hK hP 56 rfl rfl 2 (by decide) (hts (.fieldLink RX5 24 "WishWell" "fewest" "LWishWell$Row;") (List.mem_of_getElem? (i := 1) rfl)) (fun _ h9 => h9) rfl dX5_payWithBundle_10 ?_
        refine lv_iload hx hb dX5_payWithBundle_13 (lv_at hl 4 rfl) ?_
        refine lv_iload_n hx hb dX5_payWithBundle_15 rfl (lv_at hl 2 rfl) ?_
        refine lv_isub hx hb dX5_payWithBundle_16 ?_
        refine kVi (As := [.int (x4_1 - p1)]) (rest := []) B hK hN hP hD hS hA (c_X2_at l D cI cJ _ _ _ 301 F_1 57 58 rfl rfl (by decide) (x4_1 - p1)) (cwV 1 hts gX5_payWithBundle_X2_at rfl rfl rfl (by decide +kernel) ⟨(Nat.le_of_ble_eq_true rfl), (Nat.le_of_ble_eq_true rfl)⟩) 5 57 rfl rfl rfl hl.1 rfl (Nat.le_of_ble_eq_true rfl) dX5_payWithBundle_17 ⟨(Nat.le_of_ble_eq_true rfl), (Nat.le_of_ble_eq_true rfl)⟩ rfl (fun H locs hP hD hS => ?_)
        obtain ⟨y5_3, ey5_3, h⟩ := lt_I h
        rw [← ey5_3]
        refine lv_istore (lv' := [(5, .int y5_3), (0, .ref (x 0)), (1, .int p0), (2, .int p1), (3, .int p2), (4, .int x4_1)]) hx hb dX5_payWithBundle_20 hl (by decide) rfl (fun ls hl => ?_)
        refine lv_aload_n hx hb dX5_payWithBundle_22 rfl (lv_at hl 1 rfl) ?_
        refine va_get (ci := 8) (v := .ref (x 1)) (C := RX5) (T := TX5) (N := 3) hx hb hts hi_X5 hown hK hP 56 rfl rfl 2 (by decide) (hts (.fieldLink RX5 24 "WishWell" "fewest" "LWishWell$Row;") (List.mem_of_getElem? (i := 1) rfl)) (fun _ h9 => h9) rfl dX5_payWithBundle_23 ?_
        refine lv_iload hx hb dX5_payWithBundle_26 (lv_at hl 5 rfl) ?_
        refine kVi (As := [.int x4_1]) (rest := []) B hK hN hP hD hS hA (c_X2_at l D cI cJ _ _ _ 301 F_1 57 58 rfl rfl (by decide) x4_1) (cwV 1 hts gX5_payWithBundle_X2_at rfl rfl rfl (by decide +kernel) ⟨(Nat.le_of_ble_eq_true rfl), (Nat.le_of_ble_eq_true rfl)⟩) 5 57 rfl rfl rfl hl.1 rfl (Nat.le_of_ble_eq_true rfl) dX5_payWithBundle_28 ⟨(Nat.le_of_ble_eq_true rfl), (Nat.le_of_ble_eq_true rfl)⟩ rfl (fun H locs hP hD hS => ?_)
        obtain ⟨y6_4, ey6_4, h⟩ := lt_I h
        rw [← ey6_4]
        refine lv_istore (lv' := [(6, .int y6_4), (5, .int y5_3), (0, .ref (x 0)), (1, .int p0), (2, .int p1), (3, .int p2), (4, .int x4_1)]) hx hb dX5_payWithBundle_31 hl (by decide) rfl (fun ls hl => ?_)
        refine lv_iload hx hb dX5_payWithBundle_33 (lv_at hl 1 rfl) ?_
        refine lv_iconst (v := (-1)) hx hb dX5_payWithBundle_35 (by decide) ?_
        refine lv_icmp_eq (tgt := 67) hx hb dX5_payWithBundle_36 (by decide) (fun c_5 => ?_) (fun c_5 => ?_)
        · have h := ip_ h c_5
          refine lv_iinc (v := x4_1 + (-1)) (lv' := [(4, .int (x4_1 + (-1))), (6, .int y6_4), (5, .int y5_3), (0, .ref (x 0)), (1, .int p0), (2, .int p1), (3, .int p2)]) hx hb dX5_payWithBundle_67 hl (k := 6) rfl (congrArg (fun z => x4_1 + z) (by decide)) (by decide) rfl (fun ls hl => ?_)
          refine lv_goto (tgt := 3) hx hb dX5_payWithBundle_70 (by decide) ?_
          exact ih (x4_1 + (-1)) F_1 _ _ (lz_c h hz) kk _ _ _ hP hD hS (lv_sub hl [3, 4, 5, 6, 0] rfl)
        · have h := in_ h c_5
          refine lv_iload hx hb dX5_payWithBundle_39 (lv_at hl 0 rfl) ?_
          refine lv_iconst (v := (-1)) hx hb dX5_payWithBundle_41 (by decide) ?_
          refine lv_icmp_eq (tgt := 54) hx hb dX5_payWithBundle_42 (by decide) (fun c_6 => ?_) (fun c_6 => ?_)
          · have h := ip_ h c_6
            refine lv_aload_n hx hb dX5_payWithBundle_54 rfl (lv_at hl 2 rfl) ?_
            refine va_get (ci := 8) (v := .ref (x 1)) (C := RX5) (T := TX5) (N := 3) hx hb hts hi_X5 hown hK hP 56 rfl rfl 2 (by decide) (hts (.fieldLink RX5 24 "WishWell" "fewest" "LWishWell$Row;") (List.mem_of_getElem? (i := 1) rfl)) (fun _ h9 => h9) rfl dX5_payWithBundle_55 ?_
            refine lv_iload hx hb dX5_payWithBundle_58 (lv_at hl 6 rfl) ?_
            refine lv_iload hx hb dX5_payWithBundle_60 (lv_at hl 1 rfl) ?_
            refine lv_iload_n hx hb dX5_payWithBundle_62 rfl (lv_at hl 3 rfl) ?_
            refine lv_iadd hx hb dX5_payWithBundle_63 ?_
            refine kVv (As := [.int x4_1, .int (y5_3 + p0)]) (rest := []) B hK hN hP hD hS hA (c_X2_put l D cI cJ _ (wl cI a G g ++ (wl cI b J j ++ (xr cI a b x (rPut 301 F_1 x4_1 (y5_3 + p0)) ++ rs))) _ _ 301 F_1 57 58 rfl rfl (by decide) x4_1 (y5_3 + p0) rfl rfl) (cwV 2 hts gX5_payWithBundle_X2_put rfl rfl rfl (by decide +kernel) ⟨(Nat.le_of_ble_eq_true rfl), (Nat.le_of_ble_eq_true rfl)⟩) 5 57 rfl rfl rfl hl.1 rfl (Nat.le_of_ble_eq_true rfl) dX5_payWithBundle_64 ⟨(Nat.le_of_ble_eq_true rfl), (Nat.le_of_ble_eq_true rfl)⟩ rfl (fun H locs hP hD hS => ?_)
            obtain ⟨F_7, eF_7, h⟩ := lt_I h
            have hP : va_P D vwCl (wl cI a G g ++ (wl cI b J j ++ (xr cI a b x F_7 ++ rs))) H := by rw [eF_7]; exact hP
            have hD : va_D A (wl cI a G g ++ (wl cI b J j ++ (xr cI a b x F_7 ++ rs))) := by rw [eF_7]; exact hD
            refine lv_iinc (v := x4_1 + (-1)) (lv' := [(4, .int (x4_1 + (-1))), (6, .int y6_4), (5, .int y5_3), (0, .ref (x 0)), (1, .int p0), (2, .int p1), (3, .int p2)]) hx hb dX5_payWithBundle_67 hl (k := 6) rfl (congrArg (fun z => x4_1 + z) (by decide)) (by decide) rfl (fun ls hl => ?_)
            refine lv_goto (tgt := 3) hx hb dX5_payWithBundle_70 (by decide) ?_
            exact ih (x4_1 + (-1)) F_7 _ _ (lz_c h hz) kk _ _ _ hP hD hS (lv_sub hl [3, 4, 5, 6, 0] rfl)
          · have h := in_ h c_6
            refine lv_iload hx hb dX5_payWithBundle_45 (lv_at hl 1 rfl) ?_
            refine lv_iload_n hx hb dX5_payWithBundle_47 rfl (lv_at hl 3 rfl) ?_
            refine lv_iadd hx hb dX5_payWithBundle_48 ?_
            refine lv_iload hx hb dX5_payWithBundle_49 (lv_at hl 0 rfl) ?_
            refine lv_icmp_ge (tgt := 67) hx hb dX5_payWithBundle_51 (by decide) (fun c_8 => ?_) (fun c_8 => ?_)
            · have h := ip_ h c_8
              refine lv_iinc (v := x4_1 + (-1)) (lv' := [(4, .int (x4_1 + (-1))), (6, .int y6_4), (5, .int y5_3), (0, .ref (x 0)), (1, .int p0), (2, .int p1), (3, .int p2)]) hx hb dX5_payWithBundle_67 hl (k := 6) rfl (congrArg (fun z => x4_1 + z) (by decide)) (by decide) rfl (fun ls hl => ?_)
              refine lv_goto (tgt := 3) hx hb dX5_payWithBundle_70 (by decide) ?_
              exact ih (x4_1 + (-1)) F_1 _ _ (lz_c h hz) kk _ _ _ hP hD hS (lv_sub hl [3, 4, 5, 6, 0] rfl)
            · have h := in_ h c_8
              refine lv_aload_n hx hb dX5_payWithBundle_54 rfl (lv_at hl 2 rfl) ?_
              refine va_get (ci := 8) (v := .ref (x 1)) (C := RX5) (T := TX5) (N := 3) hx hb hts hi_X5 hown hK hP 56 rfl rfl 2 (by decide) (hts (.fieldLink RX5 24 "WishWell" "fewest" "LWishWell$Row;") (List.mem_of_getElem? (i := 1) rfl)) (fun _ h9 => h9) rfl dX5_payWithBundle_55 ?_
              refine lv_iload hx hb dX5_payWithBundle_58 (lv_at hl 6 rfl) ?_
              refine lv_iload hx hb dX5_payWithBundle_60 (lv_at hl 1 rfl) ?_
              refine lv_iload_n hx hb dX5_payWithBundle_62 rfl (lv_at hl 3 rfl) ?_
              refine lv_iadd hx hb dX5_payWithBundle_63 ?_
              refine kVv (As := [.int x4_1, .int (y5_3 + p0)]) (rest := []) B hK hN hP hD hS hA (c_X2_put l D cI cJ _ (wl cI a G g ++ (wl cI b J j ++ (xr cI a b x (rPut 301 F_1 x4_1 (y5_3 + p0)) ++ rs))) _ _ 301 F_1 57 58 rfl rfl (by decide) x4_1 (y5_3 + p0) rfl rfl) (cwV 2 hts gX5_payWithBundle_X2_put rfl rfl rfl (by decide +kernel) ⟨(Nat.le_of_ble_eq_true rfl), (Nat.le_of_ble_eq_true rfl)⟩) 5 57 rfl rfl rfl hl.1 rfl (Nat.le_of_ble_eq_true rfl) dX5_payWithBundle_64 ⟨(Nat.le_of_ble_eq_true rfl), (Nat.le_of_ble_eq_true rfl)⟩ rfl (fun H locs hP hD hS => ?_)
              obtain ⟨F_9, eF_9, h⟩ := lt_I h
              have hP : va_P D vwCl (wl cI a G g ++ (wl cI b J j ++ (xr cI a b x F_9 ++ rs))) H := by rw [eF_9]; exact hP
              have hD : va_D A (wl cI a G g ++ (wl cI b J j ++ (xr cI a b x F_9 ++ rs))) := by rw [eF_9]; exact hD
              refine lv_iinc (v := x4_1 + (-1)) (lv' := [(4, .int (x4_1 + (-1))), (6, .int y6_4), (5, .int y5_3), (0, .ref (x 0)), (1, .int p0), (2, .int p1), (3, .int p2)]) hx hb dX5_payWithBundle_67 hl (k := 6) rfl (congrArg (fun z => x4_1 + z) (by decide)) (by decide) rfl (fun ls hl => ?_)
              refine lv_goto (tgt := 3) hx hb dX5_payWithBundle_70 (by decide) ?_
              exact ih (x4_1 + (-1)) F_9 _ _ (lz_c h hz) kk _ _ _ hP hD hS (lv_sub hl [3, 4, 5, 6, 0] rfl)
  obtain ⟨z4_1, Fz_1, hl_1, h⟩ := b2_I h
  refine L3_1 302 p2 F z4_1 Fz_1 hl_1 (fun H locs ls hP hD hS hl => ?_) _ _ _ hP hD hS (lv_sub hl [1, 2, 3, 4, 0] rfl)
  have h0 := o1 h
  exact eV hx hb hr hlk hP hS dX5_payWithBundle_73 (Nat.le_of_ble_eq_true rfl) (Nat.le_of_ble_eq_true rfl) (by rw [h0])
noncomputable def fX5_payWithLand_B42 (p1 : Int32) (y3_1 : Int32) (x4_7 : Int32) (x5_7 : Int32) (F_7 : Nat → Int32) : Option ((Int32 × Int32 × (Nat → Int32)) ⊕ (Int32 × Int32 × (Nat → Int32))) := if 300 < x5_7 then (some (.inr (x4_7, x5_7, F_7))) else (if x4_7 ≤ 0 then (some (.inr (x4_7, x5_7, F_7))) else (lt_ (if x4_7 < x5_7 then x4_7 else x5_7) (fun y6_10 => Option.bind (fX5_payWithBundle F_7 y6_10 (y6_10 * y3_1) p1) (fun F_11 => lt_ (x4_7 - y6_10) (fun y4_13 => lt_ (x5_7 + x5_7) (fun y5_14 => some (.inl (y4_13, y5_14, F_11))))))))
noncomputable def fX5_payWithLand (G : Nat → Nat → Int32) (F : Nat → Int32) (p0 : Int32) (p1 : Int32) : Option ((Nat → Int32)) := lt_ (rAt 6 (G 1) p0) (fun y3_1 => if 0 < y3_1 then (Option.bind (fX1_coinsOf G p0) (fun r_3 => gd (¬ y3_1 = 0) (lt_ (if (p1 / y3_1) < r_3 then p1 / y3_1 else r_3) (fun y4_6 => b3 (lp (fun s => fX5_payWithLand_B42 p1 y3_1 s.1 s.2.1 s.2.2) 11 (y4_6, 1, F)) (fun z4_7 z5_7 Fz_7 => some Fz_7))))) else (some F))
set_option maxHeartbeats 4000000 in
set_option maxRecDepth 100000 in
theorem c_X5_payWithLand (l : Launch) (D : va_G) (cI cJ : ClassId) (a b x : Nat → Nat) (G : Nat → Nat → Int32) (g : Nat → Int32) (J : Nat → Nat → Int32) (j : Nat → Int32) (F : Nat → Int32) (p0 : Int32) (p1 : Int32) (F' : Nat → Int32) (rs : va_W) (h : fX5_payWithLand G F p0 p1 = some F') : Cv l yX5_payWithLand wsX5_payWithLand ({ frames := 3, cells := 0, slots := 0, locals := 67 } : Room) D cI cJ ([.ref (x 0), .int p0, .int p1] : List Value) (wl cI a G g ++ (wl cI b J j ++ (xr cI a b x F ++ rs))) (wl cI a G g ++ (wl cI b J j ++ (xr cI a b x F' ++ rs))) := by
  refine Cv.mk (cc := cX5_payWithLand) (maxL := 7) (ret := none) (by decide) rfl (Nat.le_of_ble_eq_true rfl) ?_
  intro p e s m below meth c A ls B hr hlk hK hN hA hP hD hl
  obtain ⟨hx, hb, hml, hown, hts⟩ := id B
  have hi_X0 : ∀ w ∈ wsX00, w ∈ wsX5_payWithLand := fun _ h => List.mem_cons_of_mem _ (List.mem_append_left _ (List.mem_append_left _ (List.mem_append_left _ (List.mem_append_right _ (h)))))
  have hi_X3 : ∀ w ∈ wsX30, w ∈ wsX5_payWithLand := fun _ h => List.mem_cons_of_mem _ (List.mem_append_left _ (List.mem_append_left _ (List.mem_append_left _ (List.mem_append_left _ (List.mem_append_right _ (h))))))
  have hi_X5 : ∀ w ∈ wsX50, w ∈ wsX5_payWithLand := fun _ h => List.mem_cons_of_mem _ (List.mem_append_left _ (List.mem_append_left _ (List.mem_append_left _ (List.mem_append_left _ (List.mem_append_left _ (List.mem_append_right _ (h)))))))
  have hS : va_S A s.heap s.heap [] := va_S.rf
  have hl : lv_has ls 7 [(0, .ref (x 0)), (1, .int p0), (2, .int p1)] := hl
  unfold fX5_payWithLand at h
  refine lv_aload_n hx hb dX5_payWithLand_0 rfl (lv_at hl 0 rfl) ?_
  refine va_get (ci := 8) (v := .ref (a 0)) (C := RX5) (T := TX5) (N := 3) hx hb hts hi_X5 hown hK hP 56 rfl rfl 0 (by decide) (hts (.fieldLink RX5 10 "WishWell" "well" "LWishWell$Well;") (List.mem_of_getElem? (i := 1) rfl)) (fun _ h9 => h9) rfl dX5_payWithLand_1 ?_
  refine va_get (ci := 6) (v := .ref (a 1)) (C := RX3) (T := TX3) (N := 9) hx hb hts hi_X3 hown hK hP 0 rfl rfl 0 (by decide) (hts (.fieldLink RX5 41 "WishWell$Well" "lands" "LWishWell$Lands;") (List.mem_of_getElem? (i := 2) rfl)) (fun _ h9 => h9) rfl dX5_payWithLand_4 ?_
  refine va_get (ci := 3) (v := .ref (a 5)) (C := RX0) (T := TX0) (N := 6) hx hb hts hi_X0 hown hK hP 1 rfl rfl 0 (by decide) (hts (.fieldLink RX5 205 "WishWell$Lands" "values" "LWishWell$Row;") (List.mem_of_getElem? (i := 3) rfl)) (fun _ h9 => h9) rfl dX5_payWithLand_7 ?_
  refine lv_iload_n hx hb dX5_payWithLand_10 rfl (lv_at hl 1 rfl) ?_
  refine kVi (As := [.int p0]) (rest := []) B hK hN hP hD hS hA (c_X2_at l D cI cJ _ _ _ 6 (G 1) 5 17 rfl rfl (by decide) p0) (cwV 1 hts gX5_payWithLand_X2_at rfl rfl rfl (by decide +kernel) ⟨(Nat.le_of_ble_eq_true rfl), (Nat.le_of_ble_eq_true rfl)⟩) 5 5 rfl rfl rfl hl.1 rfl (Nat.le_of_ble_eq_true rfl) dX5_payWithLand_11 ⟨(Nat.le_of_ble_eq_true rfl), (Nat.le_of_ble_eq_true rfl)⟩ rfl (fun H locs hP hD hS => ?_)
  obtain ⟨y3_1, ey3_1, h⟩ := lt_I h
  rw [← ey3_1]
  refine lv_istore_n (lv' := [(3, .int y3_1), (0, .ref (x 0)), (1, .int p0), (2, .int p1)]) hx hb dX5_payWithLand_14 rfl hl (by decide) rfl (fun ls hl => ?_)
  refine lv_iload_n hx hb dX5_payWithLand_15 rfl (lv_at hl 0 rfl) ?_
  refine lv_if_gt (tgt := 20) hx hb dX5_payWithLand_16 (by decide) (fun c_2 => ?_) (fun c_2 => ?_)
  · have h := ip_ h c_2
    refine lv_aload_n hx hb dX5_payWithLand_20 rfl (lv_at hl 1 rfl) ?_
    refine va_get (ci := 8) (v := .ref (a 0)) (C := RX5) (T := TX5) (N := 3) hx hb hts hi_X5 hown hK hP 56 rfl rfl 0 (by decide) (hts (.fieldLink RX5 10 "WishWell" "well" "LWishWell$Well;") (List.mem_of_getElem? (i := 1) rfl)) (fun _ h9 => h9) rfl dX5_payWithLand_21 ?_
    refine va_get (ci := 6) (v := .ref (a 3)) (C := RX3) (T := TX3) (N := 9) hx hb hts hi_X3 hown hK hP 0 rfl rfl 2 (by decide) (hts (.fieldLink RX5 133 "WishWell$Well" "layers" "LWishWell$Layers;") (List.mem_of_getElem? (i := 4) rfl)) (fun _ h9 => h9) rfl dX5_payWithLand_24 ?_
    refine lv_iload_n hx hb dX5_payWithLand_27 rfl (lv_at hl 2 rfl) ?_
    obtain ⟨r_3, hx_4, h⟩ := bd_I h
    refine kVi (As := [.int p0]) (rest := []) B hK hN hP hD hS hA (c_X1_coinsOf l D cI cJ a G g p0 r_3 (wl cI b J j ++ (xr cI a b x F ++ rs)) hx_4) (cwV 1 hts gX5_payWithLand_X1_coinsOf rfl rfl rfl (by decide +kernel) ⟨(Nat.le_of_ble_eq_true rfl), (Nat.le_of_ble_eq_true rfl)⟩) 4 3 rfl rfl rfl hl.1 rfl (Nat.le_of_ble_eq_true rfl) dX5_payWithLand_28 ⟨(Nat.le_of_ble_eq_true rfl), (Nat.le_of_ble_eq_true rfl)⟩ rfl (fun H locs hP hD hS => ?_)
    refine lv_iload_n hx hb dX5_payWithLand_31 rfl (lv_at hl 3 rfl) ?_
    refine lv_iload_n hx hb dX5_payWithLand_32 rfl (lv_at hl 0 rfl) ?_
    obtain ⟨c_5, h⟩ := gd_I h
    refine lv_idiv hx hb dX5_payWithLand_33 c_5 ?_
    refine va_mmin hx hb (hml.trans hl.1.symm) hown (hts (.methodLink RX5 211 Lib.Math.min.name) (List.mem_of_getElem? (i := 5) rfl)) (hts (.static Lib.Math.min.name) (List.mem_of_getElem? (i := 6) rfl)) (hts (.initialized "java/lang/Math") (List.mem_of_getElem? (i := 7) rfl)) (hts (.code Lib.Math.min.name Lib.Math.min.code 2 (some .int)) (List.mem_of_getElem? (i := 8) rfl)) (Nat.le_of_ble_eq_true rfl) (Nat.le_of_ble_eq_true rfl) (Nat.le_of_ble_eq_true rfl) (Nat.le_of_ble_eq_true rfl) dX5_payWithLand_34 ?_
    obtain ⟨y4_6, ey4_6, h⟩ := lt_I h
    rw [← ey4_6]
    refine lv_istore (lv' := [(4, .int y4_6), (3, .int y3_1), (0, .ref (x 0)), (1, .int p0), (2, .int p1)]) hx hb dX5_payWithLand_37 hl (by decide) rfl (fun ls hl => ?_)
    refine lv_iconst (v := 1) hx hb dX5_payWithLand_39 (by decide) ?_
    refine lv_istore (lv' := [(5, .int 1), (4, .int y4_6), (3, .int y3_1), (0, .ref (x 0)), (1, .int p0), (2, .int p1)]) hx hb dX5_payWithLand_40 hl (by decide) rfl (fun ls hl => ?_)
    have L42_7 : ∀ (n : Nat) (x4_7 : Int32) (x5_7 : Int32) (F_7 : Nat → Int32) (z4_7 : Int32) (z5_7 : Int32) (Fz_7 : Nat → Int32) (_ : lp (fun s => fX5_payWithLand_B42 p1 y3_1 s.1 s.2.1 s.2.2) n (x4_7, x5_7, F_7) = some (z4_7, z5_7, Fz_7)) (_ : ∀ (H : Heap) (locs : List Loc) (ls : Array Slot), va_P D vwCl (wl cI a G g ++ (wl cI b J j ++ (xr cI a b x Fz_7 ++ rs))) H → va_D A (wl cI a G g ++ (wl cI b J j ++ (xr cI a b x Fz_7 ++ rs))) → va_S A s.heap H locs → lv_has ls 7 [(0, .ref (x 0)), (1, .int p0), (2, .int p1), (3, .int y3_1), (4, .int z4_7), (5, .int z5_7)] → W p l e (headSpec wsX5_payWithLand ({ frames := 3, cells := 0, slots := 0, locals := 67 } : Room)).room s m ([.ref (x 0), .int p0, .int p1] : List Value).toArray below meth c H locs (0) (0) (QV below D (wl cI a G g ++ (wl cI b J j ++ (xr cI a b x F' ++ rs))) ([.ref (x 0), .int p0, .int p1] : List Value).toArray s 0 0 A) (F0 m 92 ls [])) (H : Heap) (locs : List Loc) (ls : Array Slot), va_P D vwCl (wl cI a G g ++ (wl cI b J j ++ (xr cI a b x F_7 ++ rs))) H → va_D A (wl cI a G g ++ (wl cI b J j ++ (xr cI a b x F_7 ++ rs))) → va_S A s.heap H locs → lv_has ls 7 [(0, .ref (x 0)), (1, .int p0), (2, .int p1), (3, .int y3_1), (4, .int x4_7), (5, .int x5_7)] → W p l e (headSpec wsX5_payWithLand ({ frames := 3, cells := 0, slots := 0, locals := 67 } : Room)).room s m ([.ref (x 0), .int p0, .int p1] : List Value).toArray below meth c H locs (0) (0) (QV below D (wl cI a G g ++ (wl cI b J j ++ (xr cI a b x F' ++ rs))) ([.ref (x 0), .int p0, .int p1] : List Value).toArray s 0 0 A) (F0 m 42 ls []) := by
      intro n
      induction n with
      | zero => intro x4_7 x5_7 F_7 z4_7 z5_7 Fz_7 h; exact (lp_0 h).elim
      | succ n ih =>
        intro x4_7 x5_7 F_7 z4_7 z5_7 Fz_7 h kk H locs ls hP hD hS hl
        obtain ⟨z, h, hz⟩ := lp_walk h
        have h : fX5_payWithLand_B42 p1 y3_1 x4_7 x5_7 F_7 = some z := h
        unfold fX5_payWithLand_B42 at h
        refine lv_iload hx hb dX5_payWithLand_42 (lv_at hl 5 rfl) ?_
        refine lv_sipush (v := 300) hx hb dX5_payWithLand_44 (by decide) ?_
        refine lv_icmp_gt (tgt := 92) hx hb dX5_payWithLand_47 (by decide) (fun c_8 => ?_) (fun c_8 => ?_)
        · have h := ip_ h c_8
          cases lz_e h hz
          exact kk _ _ _ hP hD hS (lv_sub hl [0, 1, 2, 3, 4, 5] rfl)
        · have h := in_ h c_8
          refine lv_iload hx hb dX5_payWithLand_50 (lv_at hl 4 rfl) ?_
          refine lv_if_le (tgt := 92) hx hb dX5_payWithLand_52 (by decide) (fun c_9 => ?_) (fun c_9 => ?_)
          · have h := ip_ h c_9
            cases lz_e h hz
            exact kk _ _ _ hP hD hS (lv_sub hl [0, 1, 2, 3, 4, 5] rfl)
          · have h := in_ h c_9
            refine lv_iload hx hb dX5_payWithLand_55 (lv_at hl 5 rfl) ?_
            refine lv_iload hx hb dX5_payWithLand_57 (lv_at hl 4 rfl) ?_
            refine va_mmin hx hb (hml.trans hl.1.symm) hown (hts (.methodLink RX5 211 Lib.Math.min.name) (List.mem_of_getElem? (i := 5) rfl)) (hts (.static Lib.Math.min.name) (List.mem_of_getElem? (i := 6) rfl)) (hts (.initialized "java/lang/Math") (List.mem_of_getElem? (i := 7) rfl)) (hts (.code Lib.Math.min.name Lib.Math.min.code 2 (some .int)) (List.mem_of_getElem? (i := 8) rfl)) (Nat.le_of_ble_eq_true rfl) (Nat.le_of_ble_eq_true rfl) (Nat.le_of_ble_eq_true rfl) (Nat.le_of_ble_eq_true rfl) dX5_payWithLand_59 ?_
            obtain ⟨y6_10, ey6_10, h⟩ := lt_I h
            rw [← ey6_10]
            refine lv_istore (lv' := [(6, .int y6_10), (0, .ref (x 0)), (1, .int p0), (2, .int p1), (3, .int y3_1), (4, .int x4_7), (5, .int x5_7)]) hx hb dX5_payWithLand_62 hl (by decide) rfl (fun ls hl => ?_)
            refine lv_aload_n hx hb dX5_payWithLand_64 rfl (lv_at hl 1 rfl) ?_
            refine lv_iload hx hb dX5_payWithLand_65 (lv_at hl 0 rfl) ?_
            refine lv_iload hx hb dX5_payWithLand_67 (lv_at hl 0 rfl) ?_
            refine lv_iload_n hx hb dX5_payWithLand_69 rfl (lv_at hl 4 rfl) ?_
            refine lv_imul hx hb dX5_payWithLand_70 ?_
            refine lv_iload_n hx hb dX5_payWithLand_71 rfl (lv_at hl 3 rfl) ?_
            obtain ⟨F_11, hx_12, h⟩ := bd_I h
            refine kVv (As := [.int y6_10, .int (y6_10 * y3_1), .int p1]) (rest := []) B hK hN hP hD hS hA (c_X5_payWithBundle l D cI cJ a b x G g J j F_7 y6_10 (y6_10 * y3_1) p1 F_11 rs hx_12) (cwV 3 hts gX5_payWithLand_X5_payWithBundle rfl rfl rfl (by decide +kernel) ⟨(Nat.le_of_ble_eq_true rfl), (Nat.le_of_ble_eq_true rfl)⟩) 8 56 rfl rfl rfl hl.1 rfl (Nat.le_of_ble_eq_true rfl) dX5_payWithLand_72 ⟨(Nat.le_of_ble_eq_true rfl), (Nat.le_of_ble_eq_true rfl)⟩ rfl (fun H locs hP hD hS => ?_)
            refine lv_iload hx hb dX5_payWithLand_75 (lv_at hl 5 rfl) ?_
            refine lv_iload hx hb dX5_payWithLand_77 (lv_at hl 0 rfl) ?_
            refine lv_isub hx hb dX5_payWithLand_79 ?_
            obtain ⟨y4_13, ey4_13, h⟩ := lt_I h
            rw [← ey4_13]
            refine lv_istore (lv' := [(4, .int y4_13), (6, .int y6_10), (0, .ref (x 0)), (1, .int p0), (2, .int p1), (3, .int y3_1), (5, .int x5_7)]) hx hb dX5_payWithLand_80 hl (by decide) rfl (fun ls hl => ?_)
            refine lv_iload hx hb dX5_payWithLand_82 (lv_at hl 6 rfl) ?_
            refine lv_iload hx hb dX5_payWithLand_84 (lv_at hl 6 rfl) ?_
            refine lv_iadd hx hb dX5_payWithLand_86 ?_
            obtain ⟨y5_14, ey5_14, h⟩ := lt_I h
            rw [← ey5_14]
            refine lv_istore (lv' := [(5, .int y5_14), (4, .int y4_13), (6, .int y6_10), (0, .ref (x 0)), (1, .int p0), (2, .int p1), (3, .int y3_1)]) hx hb dX5_payWithLand_87 hl (by decide) rfl (fun ls hl => ?_)
            refine lv_goto (tgt := 42) hx hb dX5_payWithLand_89 (by decide) ?_
            exact ih y4_13 y5_14 F_11 _ _ _ (lz_c h hz) kk _ _ _ hP hD hS (lv_sub hl [3, 4, 5, 6, 1, 0] rfl)
    obtain ⟨z4_7, z5_7, Fz_7, hl_7, h⟩ := b3_I h
    refine L42_7 11 y4_6 1 F z4_7 z5_7 Fz_7 hl_7 (fun H locs ls hP hD hS hl => ?_) _ _ _ hP hD hS (lv_sub hl [3, 4, 5, 2, 1, 0] rfl)
    have h0 := o1 h
    exact eV hx hb hr hlk hP hS dX5_payWithLand_92 (Nat.le_of_ble_eq_true rfl) (Nat.le_of_ble_eq_true rfl) (by rw [h0])
  · have h := in_ h c_2
    have h0 := o1 h
    exact eV hx hb hr hlk hP hS dX5_payWithLand_19 (Nat.le_of_ble_eq_true rfl) (Nat.le_of_ble_eq_true rfl) (by rw [h0])
noncomputable def fX5_digestLands_B23 (G : Nat → Nat → Int32) (x5_1 : Int32) (x3_3 : Int64) (x6_3 : Int32)  : Option ((Int64 × Int32) ⊕ (Int64 × Int32)) := if 4 < x6_3 then (some (.inr (x3_3, x6_3))) else (Option.bind (fX3_landFigure G x5_1 x6_3) (fun r_5 => lt_ ((x3_3 * 31) + r_5.toInt64) (fun y3_7 => some (.inl (y3_7, x6_3 + 1)))))
noncomputable def fX5_digestLands_B5 (G : Nat → Nat → Int32) (g : Nat → Int32) (x3_1 : Int64) (x5_1 : Int32)  : Option ((Int64 × Int32) ⊕ (Int64 × Int32)) := if (g 5) ≤ x5_1 then (some (.inr (x3_1, x5_1))) else (b2 (lp (fun s => fX5_digestLands_B23 G x5_1 s.1 s.2) 6 (x3_1, 0)) (fun z3_3 z6_3 => Option.bind (fX3_missingCoins G x5_1) (fun r_8 => lt_ ((z3_3 * 31) + r_8.toInt64) (fun y3_10 => some (.inl (y3_10, x5_1 + 1))))))
noncomputable def fX5_digestLands (G : Nat → Nat → Int32) (g : Nat → Int32) (p0 : Int64) : Option (Int64) := b2 (lp (fun s => fX5_digestLands_B5 G g s.1 s.2) 7 (p0, 0)) (fun z3_1 z5_1 => some z3_1)
set_option maxHeartbeats 4000000 in
set_option maxRecDepth 100000 in
theorem c_X5_digestLands (l : Launch) (D : va_G) (cI cJ : ClassId) (a b x : Nat → Nat) (G : Nat → Nat → Int32) (g : Nat → Int32) (J : Nat → Nat → Int32) (j : Nat → Int32) (F : Nat → Int32) (p0 : Int64) (r' : Int64) (rs : va_W) (h : fX5_digestLands G g p0 = some r') : Cl l yX5_digestLands wsX5_digestLands ({ frames := 4, cells := 0, slots := 0, locals := 89 } : Room) D cI cJ ([.ref (x 0), .long p0] : List Value) (wl cI a G g ++ (wl cI b J j ++ (xr cI a b x F ++ rs))) r' (wl cI a G g ++ (wl cI b J j ++ (xr cI a b x F ++ rs))) := by
  refine Cl.mk (cc := cX5_digestLands) (maxL := 7) (ret := (some .long)) (by decide) rfl (Nat.le_of_ble_eq_true rfl) ?_
  intro p e s m below meth c A ls B hr hlk hK hN hA hP hD hl
  obtain ⟨hx, hb, hml, hown, hts⟩ := id B
  have hi_X0 : ∀ w ∈ wsX00, w ∈ wsX5_digestLands := fun _ h => List.mem_cons_of_mem _ (List.mem_append_left _ (List.mem_append_left _ (List.mem_append_left _ (List.mem_append_right _ (h)))))
  have hi_X3 : ∀ w ∈ wsX30, w ∈ wsX5_digestLands := fun _ h => List.mem_cons_of_mem _ (List.mem_append_left _ (List.mem_append_left _ (List.mem_append_left _ (List.mem_append_left _ (List.mem_append_right _ (h))))))
  have hi_X5 : ∀ w ∈ wsX50, w ∈ wsX5_digestLands := fun _ h => List.mem_cons_of_mem _ (List.mem_append_left _ (List.mem_append_left _ (List.mem_append_left _ (List.mem_append_left _ (List.mem_append_left _ (List.mem_append_right _ (h)))))))
  have hS : va_S A s.heap s.heap [] := va_S.rf
  have hl : lv_has ls 7 [(0, .ref (x 0)), (1, .long p0)] := hl
  unfold fX5_digestLands at h
  refine lv_lload_n hx hb dX5_digestLands_0 rfl (lv_at hl 1 rfl) ?_
  refine lv_lstore_n (lv' := [(3, .long p0), (0, .ref (x 0)), (1, .long p0)]) hx hb dX5_digestLands_1 rfl hl (by decide) rfl (fun ls hl => ?_)
  refine lv_iconst (v := 0) hx hb dX5_digestLands_2 (by decide) ?_
  refine lv_istore (lv' := [(5, .int 0), (3, .long p0), (0, .ref (x 0)), (1, .long p0)]) hx hb dX5_digestLands_3 hl (by decide) rfl (fun ls hl => ?_)
  have L5_1 : ∀ (n : Nat) (x3_1 : Int64) (x5_1 : Int32)  (z3_1 : Int64) (z5_1 : Int32)  (_ : lp (fun s => fX5_digestLands_B5 G g s.1 s.2) n (x3_1, x5_1) = some (z3_1, z5_1)) (_ : ∀ (H : Heap) (locs : List Loc) (ls : Array Slot), va_P D vwCl (wl cI a G g ++ (wl cI b J j ++ (xr cI a b x F ++ rs))) H → va_D A (wl cI a G g ++ (wl cI b J j ++ (xr cI a b x F ++ rs))) → va_S A s.heap H locs → lv_has ls 7 [(0, .ref (x 0)), (1, .long p0), (3, .long z3_1), (5, .int z5_1)] → W p l e (headSpec wsX5_digestLands ({ frames := 4, cells := 0, slots := 0, locals := 89 } : Room)).room s m ([.ref (x 0), .long p0] : List Value).toArray below meth c H locs (0) (0) (QL below D (wl cI a G g ++ (wl cI b J j ++ (xr cI a b x F ++ rs))) r' ([.ref (x 0), .long p0] : List Value).toArray s 0 0 A) (F0 m 77 ls [])) (H : Heap) (locs : List Loc) (ls : Array Slot), va_P D vwCl (wl cI a G g ++ (wl cI b J j ++ (xr cI a b x F ++ rs))) H → va_D A (wl cI a G g ++ (wl cI b J j ++ (xr cI a b x F ++ rs))) → va_S A s.heap H locs → lv_has ls 7 [(0, .ref (x 0)), (1, .long p0), (3, .long x3_1), (5, .int x5_1)] → W p l e (headSpec wsX5_digestLands ({ frames := 4, cells := 0, slots := 0, locals := 89 } : Room)).room s m ([.ref (x 0), .long p0] : List Value).toArray below meth c H locs (0) (0) (QL below D (wl cI a G g ++ (wl cI b J j ++ (xr cI a b x F ++ rs))) r' ([.ref (x 0), .long p0] : List Value).toArray s 0 0 A) (F0 m 5 ls []) := by
    intro n
    induction n with
    | zero => intro x3_1 x5_1 z3_1 z5_1 h; exact (lp_0 h).elim
    | succ n ih =>
      intro x3_1 x5_1 z3_1 z5_1 h kk H locs ls hP hD hS hl
      obtain ⟨z, h, hz⟩ := lp_walk h
      have h : fX5_digestLands_B5 G g x3_1 x5_1 = some z := h
      unfold fX5_digestLands_B5 at h
      refine lv_iload hx hb dX5_digestLands_5 (lv_at hl 3 rfl) ?_
      refine lv_aload_n hx hb dX5_digestLands_7 rfl (lv_at hl 0 rfl) ?_
      refine va_get (ci := 8) (v := .ref (a 0)) (C := RX5) (T := TX5) (N := 3) hx hb hts hi_X5 hown hK hP 56 rfl rfl 0 (by decide) (hts (.fieldLink RX5 10 "WishWell" "well" "LWishWell$Well;") (List.mem_of_getElem? (i := 1) rfl)) (fun _ h9 => h9) rfl dX5_digestLands_8 ?_
      refine va_get (ci := 6) (v := .ref (a 1)) (C := RX3) (T := TX3) (N := 9) hx hb hts hi_X3 hown hK hP 0 rfl rfl 0 (by decide) (hts (.fieldLink RX5 41 "WishWell$Well" "lands" "LWishWell$Lands;") (List.mem_of_getElem? (i := 2) rfl)) (fun _ h9 => h9) rfl dX5_digestLands_11 ?_
      refine va_get (ci := 3) (v := .int (g 5)) (C := RX0) (T := TX0) (N := 6) hx hb hts hi_X0 hown hK hP 1 rfl rfl 5 (by decide) (hts (.fieldLink RX5 45 "WishWell$Lands" "size" "I") (List.mem_of_getElem? (i := 3) rfl)) (fun _ h9 => h9) rfl dX5_digestLands_14 ?_
      refine lv_icmp_ge (tgt := 77) hx hb dX5_digestLands_17 (by decide) (fun c_2 => ?_) (fun c_2 => ?_)
      · have h := ip_ h c_2
        cases lz_e h hz
        exact kk _ _ _ hP hD hS (lv_sub hl [0, 1, 2, 3] rfl)
      · have h := in_ h c_2
        refine lv_iconst (v := 0) hx hb dX5_digestLands_20 (by decide) ?_
        refine lv_istore (lv' := [(6, .int 0), (0, .ref (x 0)), (1, .long p0), (3, .long x3_1), (5, .int x5_1)]) hx hb dX5_digestLands_21 hl (by decide) rfl (fun ls hl => ?_)
        have L23_3 : ∀ (n : Nat) (x3_3 : Int64) (x6_3 : Int32)  (z3_3 : Int64) (z6_3 : Int32)  (_ : lp (fun s => fX5_digestLands_B23 G x5_1 s.1 s.2) n (x3_3, x6_3) = some (z3_3, z6_3)) (_ : ∀ (H : Heap) (locs : List Loc) (ls : Array Slot), va_P D vwCl (wl cI a G g ++ (wl cI b J j ++ (xr cI a b x F ++ rs))) H → va_D A (wl cI a G g ++ (wl cI b J j ++ (xr cI a b x F ++ rs))) → va_S A s.heap H locs → lv_has ls 7 [(0, .ref (x 0)), (1, .long p0), (3, .long z3_3), (5, .int x5_1), (6, .int z6_3)] → W p l e (headSpec wsX5_digestLands ({ frames := 4, cells := 0, slots := 0, locals := 89 } : Room)).room s m ([.ref (x 0), .long p0] : List Value).toArray below meth c H locs (0) (0) (QL below D (wl cI a G g ++ (wl cI b J j ++ (xr cI a b x F ++ rs))) r' ([.ref (x 0), .long p0] : List Value).toArray s 0 0 A) (F0 m 54 ls [])) (H : Heap) (locs : List Loc) (ls : Array Slot), va_P D vwCl (wl cI a G g ++ (wl cI b J j ++ (xr cI a b x F ++ rs))) H → va_D A (wl cI a G g ++ (wl cI b J j ++ (xr cI a b x F ++ rs))) → va_S A s.heap H locs → lv_has ls 7 [(0, .ref (x 0)), (1, .long p0), (3, .long x3_3), (5, .int x5_1), (6, .int x6_3)] → W p l e (headSpec wsX5_digestLands ({ frames := 4, cells := 0, slots := 0, locals := 89 } : Room)).room s m ([.ref (x 0), .long p0] : List Value).toArray below meth c H locs (0) (0) (QL below D (wl cI a G g ++ (wl cI b J j ++ (xr cI a b x F ++ rs))) r' ([.ref (x 0), .long p0] : List Value).toArray s 0 0 A) (F0 m 23 ls []) := by
          intro n
          induction n with
          | zero => intro x3_3 x6_3 z3_3 z6_3 h; exact (lp_0 h).elim
          | succ n ih =>
            intro x3_3 x6_3 z3_3 z6_3 h kk H locs ls hP hD hS hl
            obtain ⟨z, h, hz⟩ := lp_walk h
            have h : fX5_digestLands_B23 G x5_1 x3_3 x6_3 = some z := h
            unfold fX5_digestLands_B23 at h
            refine lv_iload hx hb dX5_digestLands_23 (lv_at hl 4 rfl) ?_
            refine lv_iconst (v := 4) hx hb dX5_digestLands_25 (by decide) ?_
            refine lv_icmp_gt (tgt := 54) hx hb dX5_digestLands_26 (by decide) (fun c_4 => ?_) (fun c_4 => ?_)
            · have h := ip_ h c_4
              cases lz_e h hz
              exact kk _ _ _ hP hD hS (lv_sub hl [0, 1, 2, 3, 4] rfl)
            · have h := in_ h c_4
              refine lv_lload_n hx hb dX5_digestLands_29 rfl (lv_at hl 2 rfl) ?_
              refine lv_ldc2 (v := 31) hx hb hown (hts (.constantLong RX5 189 (31)) (List.mem_of_getElem? (i := 4) rfl)) dX5_digestLands_30 ?_
              refine lv_lmul hx hb dX5_digestLands_33 ?_
              refine lv_aload_n hx hb dX5_digestLands_34 rfl (lv_at hl 0 rfl) ?_
              refine va_get (ci := 8) (v := .ref (a 0)) (C := RX5) (T := TX5) (N := 3) hx hb hts hi_X5 hown hK hP 56 rfl rfl 0 (by decide) (hts (.fieldLink RX5 10 "WishWell" "well" "LWishWell$Well;") (List.mem_of_getElem? (i := 1) rfl)) (fun _ h9 => h9) rfl dX5_digestLands_35 ?_
              refine lv_iload hx hb dX5_digestLands_38 (lv_at hl 3 rfl) ?_
              refine lv_iload hx hb dX5_digestLands_40 (lv_at hl 4 rfl) ?_
              obtain ⟨r_5, hx_6, h⟩ := bd_I h
              refine kVi (As := [.int x5_1, .int x6_3]) (rest := [.long (x3_3 * 31)]) B hK hN hP hD hS hA (c_X3_landFigure l D cI cJ a G g x5_1 x6_3 r_5 (wl cI b J j ++ (xr cI a b x F ++ rs)) hx_6) (cwV 2 hts gX5_digestLands_X3_landFigure rfl rfl rfl (by decide +kernel) ⟨(Nat.le_of_ble_eq_true rfl), (Nat.le_of_ble_eq_true rfl)⟩) 6 0 rfl rfl rfl hl.1 rfl (Nat.le_of_ble_eq_true rfl) dX5_digestLands_42 ⟨(Nat.le_of_ble_eq_true rfl), (Nat.le_of_ble_eq_true rfl)⟩ rfl (fun H locs hP hD hS => ?_)
              refine lv_i2l hx hb dX5_digestLands_45 rfl ?_
              refine lv_ladd hx hb dX5_digestLands_46 ?_
              obtain ⟨y3_7, ey3_7, h⟩ := lt_I h
              rw [← ey3_7]
              refine lv_lstore_n (lv' := [(3, .long y3_7), (0, .ref (x 0)), (1, .long p0), (5, .int x5_1), (6, .int x6_3)]) hx hb dX5_digestLands_47 rfl hl (by decide) rfl (fun ls hl => ?_)
              refine lv_iinc (v := x6_3 + 1) (lv' := [(6, .int (x6_3 + 1)), (3, .long y3_7), (0, .ref (x 0)), (1, .long p0), (5, .int x5_1)]) hx hb dX5_digestLands_48 hl (k := 4) rfl rfl (by decide) rfl (fun ls hl => ?_)
              refine lv_goto (tgt := 23) hx hb dX5_digestLands_51 (by decide) ?_
              exact ih y3_7 (x6_3 + 1) _ _ (lz_c h hz) kk _ _ _ hP hD hS (lv_sub hl [2, 3, 1, 4, 0] rfl)
        obtain ⟨z3_3, z6_3, hl_3, h⟩ := b2_I h
        refine L23_3 6 x3_1 0  z3_3 z6_3 hl_3 (fun H locs ls hP hD hS hl => ?_) _ _ _ hP hD hS (lv_sub hl [1, 2, 3, 4, 0] rfl)
        refine lv_lload_n hx hb dX5_digestLands_54 rfl (lv_at hl 2 rfl) ?_
        refine lv_ldc2 (v := 31) hx hb hown (hts (.constantLong RX5 189 (31)) (List.mem_of_getElem? (i := 4) rfl)) dX5_digestLands_55 ?_
        refine lv_lmul hx hb dX5_digestLands_58 ?_
        refine lv_aload_n hx hb dX5_digestLands_59 rfl (lv_at hl 0 rfl) ?_
        refine va_get (ci := 8) (v := .ref (a 0)) (C := RX5) (T := TX5) (N := 3) hx hb hts hi_X5 hown hK hP 56 rfl rfl 0 (by decide) (hts (.fieldLink RX5 10 "WishWell" "well" "LWishWell$Well;") (List.mem_of_getElem? (i := 1) rfl)) (fun _ h9 => h9) rfl dX5_digestLands_60 ?_
        refine lv_iload hx hb dX5_digestLands_63 (lv_at hl 3 rfl) ?_
        obtain ⟨r_8, hx_9, h⟩ := bd_I h
        refine kVi (As := [.int x5_1]) (rest := [.long (z3_3 * 31)]) B hK hN hP hD hS hA (c_X3_missingCoins l D cI cJ a G g x5_1 r_8 (wl cI b J j ++ (xr cI a b x F ++ rs)) hx_9) (cwV 1 hts gX5_digestLands_X3_missingCoins rfl rfl rfl (by decide +kernel) ⟨(Nat.le_of_ble_eq_true rfl), (Nat.le_of_ble_eq_true rfl)⟩) 6 0 rfl rfl rfl hl.1 rfl (Nat.le_of_ble_eq_true rfl) dX5_digestLands_65 ⟨(Nat.le_of_ble_eq_true rfl), (Nat.le_of_ble_eq_true rfl)⟩ rfl (fun H locs hP hD hS => ?_)
        refine lv_i2l hx hb dX5_digestLands_68 rfl ?_
        refine lv_ladd hx hb dX5_digestLands_69 ?_
        obtain ⟨y3_10, ey3_10, h⟩ := lt_I h
        rw [← ey3_10]
        refine lv_lstore_n (lv' := [(3, .long y3_10), (0, .ref (x 0)), (1, .long p0), (5, .int x5_1), (6, .int z6_3)]) hx hb dX5_digestLands_70 rfl hl (by decide) rfl (fun ls hl => ?_)
        refine lv_iinc (v := x5_1 + 1) (lv' := [(5, .int (x5_1 + 1)), (3, .long y3_10), (0, .ref (x 0)), (1, .long p0), (6, .int z6_3)]) hx hb dX5_digestLands_71 hl (k := 3) rfl rfl (by decide) rfl (fun ls hl => ?_)
        refine lv_goto (tgt := 5) hx hb dX5_digestLands_74 (by decide) ?_
        exact ih y3_10 (x5_1 + 1) _ _ (lz_c h hz) kk _ _ _ hP hD hS (lv_sub hl [2, 3, 1, 0] rfl)
  obtain ⟨z3_1, z5_1, hl_1, h⟩ := b2_I h
  refine L5_1 7 p0 0  z3_1 z5_1 hl_1 (fun H locs ls hP hD hS hl => ?_) _ _ _ hP hD hS (lv_sub hl [2, 3, 1, 0] rfl)
  refine lv_lload_n hx hb dX5_digestLands_77 rfl (lv_at hl 2 rfl) ?_
  have h0 := o1 h
  exact eL hx hb hr hlk hP hS dX5_digestLands_78 (Nat.le_of_ble_eq_true rfl) (Nat.le_of_ble_eq_true rfl) h0 rfl
noncomputable def fX5_digestLayers_B14 (G : Nat → Nat → Int32) (g : Nat → Int32) (x5_1 : Int32) (x3_3 : Int64) (x6_3 : Int32)  : Option ((Int64 × Int32) ⊕ (Int64 × Int32)) := if (g 5) ≤ x6_3 then (some (.inr (x3_3, x6_3))) else (lt_ ((x3_3 * 31) + (((fX1_at G x5_1 x6_3)).toInt64)) (fun y3_5 => some (.inl (y3_5, x6_3 + 1))))
noncomputable def fX5_digestLayers_B5 (G : Nat → Nat → Int32) (g : Nat → Int32) (x3_1 : Int64) (x5_1 : Int32)  : Option ((Int64 × Int32) ⊕ (Int64 × Int32)) := if 5 ≤ x5_1 then (some (.inr (x3_1, x5_1))) else (b2 (lp (fun s => fX5_digestLayers_B14 G g x5_1 s.1 s.2) 7 (x3_1, 0)) (fun z3_3 z6_3 => some (.inl (z3_3, x5_1 + 1))))
noncomputable def fX5_digestLayers (G : Nat → Nat → Int32) (g : Nat → Int32) (p0 : Int64) : Option (Int64) := b2 (lp (fun s => fX5_digestLayers_B5 G g s.1 s.2) 6 (p0, 0)) (fun z3_1 z5_1 => some z3_1)
set_option maxHeartbeats 4000000 in
set_option maxRecDepth 100000 in
theorem c_X5_digestLayers (l : Launch) (D : va_G) (cI cJ : ClassId) (a b x : Nat → Nat) (G : Nat → Nat → Int32) (g : Nat → Int32) (J : Nat → Nat → Int32) (j : Nat → Int32) (F : Nat → Int32) (p0 : Int64) (r' : Int64) (rs : va_W) (h : fX5_digestLayers G g p0 = some r') : Cl l yX5_digestLayers wsX5_digestLayers ({ frames := 2, cells := 0, slots := 0, locals := 44 } : Room) D cI cJ ([.ref (x 0), .long p0] : List Value) (wl cI a G g ++ (wl cI b J j ++ (xr cI a b x F ++ rs))) r' (wl cI a G g ++ (wl cI b J j ++ (xr cI a b x F ++ rs))) := by
  refine Cl.mk (cc := cX5_digestLayers) (maxL := 7) (ret := (some .long)) (by decide) rfl (Nat.le_of_ble_eq_true rfl) ?_
  intro p e s m below meth c A ls B hr hlk hK hN hA hP hD hl
  obtain ⟨hx, hb, hml, hown, hts⟩ := id B
  have hi_X0 : ∀ w ∈ wsX00, w ∈ wsX5_digestLayers := fun _ h => List.mem_cons_of_mem _ (List.mem_append_left _ (List.mem_append_left _ (List.mem_append_left _ (List.mem_append_right _ (h)))))
  have hi_X3 : ∀ w ∈ wsX30, w ∈ wsX5_digestLayers := fun _ h => List.mem_cons_of_mem _ (List.mem_append_left _ (List.mem_append_left _ (List.mem_append_left _ (List.mem_append_left _ (List.mem_append_right _ (h))))))
  have hi_X5 : ∀ w ∈ wsX50, w ∈ wsX5_digestLayers := fun _ h => List.mem_cons_of_mem _ (List.mem_append_left _ (List.mem_append_left _ (List.mem_append_left _ (List.mem_append_left _ (List.mem_append_left _ (List.mem_append_right _ (h)))))))
  have hS : va_S A s.heap s.heap [] := va_S.rf
  have hl : lv_has ls 7 [(0, .ref (x 0)), (1, .long p0)] := hl
  unfold fX5_digestLayers at h
  refine lv_lload_n hx hb dX5_digestLayers_0 rfl (lv_at hl 1 rfl) ?_
  refine lv_lstore_n (lv' := [(3, .long p0), (0, .ref (x 0)), (1, .long p0)]) hx hb dX5_digestLayers_1 rfl hl (by decide) rfl (fun ls hl => ?_)
  refine lv_iconst (v := 0) hx hb dX5_digestLayers_2 (by decide) ?_
  refine lv_istore (lv' := [(5, .int 0), (3, .long p0), (0, .ref (x 0)), (1, .long p0)]) hx hb dX5_digestLayers_3 hl (by decide) rfl (fun ls hl => ?_)
  have L5_1 : ∀ (n : Nat) (x3_1 : Int64) (x5_1 : Int32)  (z3_1 : Int64) (z5_1 : Int32)  (_ : lp (fun s => fX5_digestLayers_B5 G g s.1 s.2) n (x3_1, x5_1) = some (z3_1, z5_1)) (_ : ∀ (H : Heap) (locs : List Loc) (ls : Array Slot), va_P D vwCl (wl cI a G g ++ (wl cI b J j ++ (xr cI a b x F ++ rs))) H → va_D A (wl cI a G g ++ (wl cI b J j ++ (xr cI a b x F ++ rs))) → va_S A s.heap H locs → lv_has ls 7 [(0, .ref (x 0)), (1, .long p0), (3, .long z3_1), (5, .int z5_1)] → W p l e (headSpec wsX5_digestLayers ({ frames := 2, cells := 0, slots := 0, locals := 44 } : Room)).room s m ([.ref (x 0), .long p0] : List Value).toArray below meth c H locs (0) (0) (QL below D (wl cI a G g ++ (wl cI b J j ++ (xr cI a b x F ++ rs))) r' ([.ref (x 0), .long p0] : List Value).toArray s 0 0 A) (F0 m 63 ls [])) (H : Heap) (locs : List Loc) (ls : Array Slot), va_P D vwCl (wl cI a G g ++ (wl cI b J j ++ (xr cI a b x F ++ rs))) H → va_D A (wl cI a G g ++ (wl cI b J j ++ (xr cI a b x F ++ rs))) → va_S A s.heap H locs → lv_has ls 7 [(0, .ref (x 0)), (1, .long p0), (3, .long x3_1), (5, .int x5_1)] → W p l e (headSpec wsX5_digestLayers ({ frames := 2, cells := 0, slots := 0, locals := 44 } : Room)).room s m ([.ref (x 0), .long p0] : List Value).toArray below meth c H locs (0) (0) (QL below D (wl cI a G g ++ (wl cI b J j ++ (xr cI a b x F ++ rs))) r' ([.ref (x 0), .long p0] : List Value).toArray s 0 0 A) (F0 m 5 ls []) := by
    intro n
    induction n with
    | zero => intro x3_1 x5_1 z3_1 z5_1 h; exact (lp_0 h).elim
    | succ n ih =>
      intro x3_1 x5_1 z3_1 z5_1 h kk H locs ls hP hD hS hl
      obtain ⟨z, h, hz⟩ := lp_walk h
      have h : fX5_digestLayers_B5 G g x3_1 x5_1 = some z := h
      unfold fX5_digestLayers_B5 at h
      refine lv_iload hx hb dX5_digestLayers_5 (lv_at hl 3 rfl) ?_
      refine lv_iconst (v := 5) hx hb dX5_digestLayers_7 (by decide) ?_
      refine lv_icmp_ge (tgt := 63) hx hb dX5_digestLayers_8 (by decide) (fun c_2 => ?_) (fun c_2 => ?_)
      · have h := ip_ h c_2
        cases lz_e h hz
        exact kk _ _ _ hP hD hS (lv_sub hl [0, 1, 2, 3] rfl)
      · have h := in_ h c_2
        refine lv_iconst (v := 0) hx hb dX5_digestLayers_11 (by decide) ?_
        refine lv_istore (lv' := [(6, .int 0), (0, .ref (x 0)), (1, .long p0), (3, .long x3_1), (5, .int x5_1)]) hx hb dX5_digestLayers_12 hl (by decide) rfl (fun ls hl => ?_)
        have L14_3 : ∀ (n : Nat) (x3_3 : Int64) (x6_3 : Int32)  (z3_3 : Int64) (z6_3 : Int32)  (_ : lp (fun s => fX5_digestLayers_B14 G g x5_1 s.1 s.2) n (x3_3, x6_3) = some (z3_3, z6_3)) (_ : ∀ (H : Heap) (locs : List Loc) (ls : Array Slot), va_P D vwCl (wl cI a G g ++ (wl cI b J j ++ (xr cI a b x F ++ rs))) H → va_D A (wl cI a G g ++ (wl cI b J j ++ (xr cI a b x F ++ rs))) → va_S A s.heap H locs → lv_has ls 7 [(0, .ref (x 0)), (1, .long p0), (3, .long z3_3), (5, .int x5_1), (6, .int z6_3)] → W p l e (headSpec wsX5_digestLayers ({ frames := 2, cells := 0, slots := 0, locals := 44 } : Room)).room s m ([.ref (x 0), .long p0] : List Value).toArray below meth c H locs (0) (0) (QL below D (wl cI a G g ++ (wl cI b J j ++ (xr cI a b x F ++ rs))) r' ([.ref (x 0), .long p0] : List Value).toArray s 0 0 A) (F0 m 57 ls [])) (H : Heap) (locs : List Loc) (ls : Array Slot), va_P D vwCl (wl cI a G g ++ (wl cI b J j ++ (xr cI a b x F ++ rs))) H → va_D A (wl cI a G g ++ (wl cI b J j ++ (xr cI a b x F ++ rs))) → va_S A s.heap H locs → lv_has ls 7 [(0, .ref (x 0)), (1, .long p0), (3, .long x3_3), (5, .int x5_1), (6, .int x6_3)] → W p l e (headSpec wsX5_digestLayers ({ frames := 2, cells := 0, slots := 0, locals := 44 } : Room)).room s m ([.ref (x 0), .long p0] : List Value).toArray below meth c H locs (0) (0) (QL below D (wl cI a G g ++ (wl cI b J j ++ (xr cI a b x F ++ rs))) r' ([.ref (x 0), .long p0] : List Value).toArray s 0 0 A) (F0 m 14 ls []) := by
          intro n
          induction n with
          | zero => intro x3_3 x6_3 z3_3 z6_3 h; exact (lp_0 h).elim
          | succ n ih =>
            intro x3_3 x6_3 z3_3 z6_3 h kk H locs ls hP hD hS hl
            obtain ⟨z, h, hz⟩ := lp_walk h
            have h : fX5_digestLayers_B14 G g x5_1 x3_3 x6_3 = some z := h
            unfold fX5_digestLayers_B14 at h
            refine lv_iload hx hb dX5_digestLayers_14 (lv_at hl 4 rfl) ?_
            refine lv_aload_n hx hb dX5_digestLayers_16 rfl (lv_at hl 0 rfl) ?_
            refine va_get (ci := 8) (v := .ref (a 0)) (C := RX5) (T := TX5) (N := 3) hx hb hts hi_X5 hown hK hP 56 rfl rfl 0 (by decide) (hts (.fieldLink RX5 10 "WishWell" "well" "LWishWell$Well;") (List.mem_of_getElem? (i := 1) rfl)) (fun _ h9 => h9) rfl dX5_digestLayers_17 ?_
            refine va_get (ci := 6) (v := .ref (a 1)) (C := RX3) (T := TX3) (N := 9) hx hb hts hi_X3 hown hK hP 0 rfl rfl 0 (by decide) (hts (.fieldLink RX5 41 "WishWell$Well" "lands" "LWishWell$Lands;") (List.mem_of_getElem? (i := 2) rfl)) (fun _ h9 => h9) rfl dX5_digestLayers_20 ?_
            refine va_get (ci := 3) (v := .int (g 5)) (C := RX0) (T := TX0) (N := 6) hx hb hts hi_X0 hown hK hP 1 rfl rfl 5 (by decide) (hts (.fieldLink RX5 45 "WishWell$Lands" "size" "I") (List.mem_of_getElem? (i := 3) rfl)) (fun _ h9 => h9) rfl dX5_digestLayers_23 ?_
            refine lv_icmp_ge (tgt := 57) hx hb dX5_digestLayers_26 (by decide) (fun c_4 => ?_) (fun c_4 => ?_)
            · have h := ip_ h c_4
              cases lz_e h hz
              exact kk _ _ _ hP hD hS (lv_sub hl [0, 1, 2, 3, 4] rfl)
            · have h := in_ h c_4
              refine lv_lload_n hx hb dX5_digestLayers_29 rfl (lv_at hl 2 rfl) ?_
              refine lv_ldc2 (v := 31) hx hb hown (hts (.constantLong RX5 189 (31)) (List.mem_of_getElem? (i := 4) rfl)) dX5_digestLayers_30 ?_
              refine lv_lmul hx hb dX5_digestLayers_33 ?_
              refine lv_aload_n hx hb dX5_digestLayers_34 rfl (lv_at hl 0 rfl) ?_
              refine va_get (ci := 8) (v := .ref (a 0)) (C := RX5) (T := TX5) (N := 3) hx hb hts hi_X5 hown hK hP 56 rfl rfl 0 (by decide) (hts (.fieldLink RX5 10 "WishWell" "well" "LWishWell$Well;") (List.mem_of_getElem? (i := 1) rfl)) (fun _ h9 => h9) rfl dX5_digestLayers_35 ?_
              refine va_get (ci := 6) (v := .ref (a 3)) (C := RX3) (T := TX3) (N := 9) hx hb hts hi_X3 hown hK hP 0 rfl rfl 2 (by decide) (hts (.fieldLink RX5 133 "WishWell$Well" "layers" "LWishWell$Layers;") (List.mem_of_getElem? (i := 5) rfl)) (fun _ h9 => h9) rfl dX5_digestLayers_38 ?_
              refine lv_iload hx hb dX5_digestLayers_41 (lv_at hl 3 rfl) ?_
              refine lv_iload hx hb dX5_digestLayers_43 (lv_at hl 4 rfl) ?_
              refine kVi (As := [.int x5_1, .int x6_3]) (rest := [.long (x3_3 * 31)]) B hK hN hP hD hS hA (c_X1_at l D cI cJ a G g x5_1 x6_3 (wl cI b J j ++ (xr cI a b x F ++ rs)) _ rfl) (cwV 2 hts gX5_digestLayers_X1_at rfl rfl rfl (by decide +kernel) ⟨(Nat.le_of_ble_eq_true rfl), (Nat.le_of_ble_eq_true rfl)⟩) 4 3 rfl rfl rfl hl.1 rfl (Nat.le_of_ble_eq_true rfl) dX5_digestLayers_45 ⟨(Nat.le_of_ble_eq_true rfl), (Nat.le_of_ble_eq_true rfl)⟩ rfl (fun H locs hP hD hS => ?_)
              refine lv_i2l hx hb dX5_digestLayers_48 rfl ?_
              refine lv_ladd hx hb dX5_digestLayers_49 ?_
              obtain ⟨y3_5, ey3_5, h⟩ := lt_I h
              rw [← ey3_5]
              refine lv_lstore_n (lv' := [(3, .long y3_5), (0, .ref (x 0)), (1, .long p0), (5, .int x5_1), (6, .int x6_3)]) hx hb dX5_digestLayers_50 rfl hl (by decide) rfl (fun ls hl => ?_)
              refine lv_iinc (v := x6_3 + 1) (lv' := [(6, .int (x6_3 + 1)), (3, .long y3_5), (0, .ref (x 0)), (1, .long p0), (5, .int x5_1)]) hx hb dX5_digestLayers_51 hl (k := 4) rfl rfl (by decide) rfl (fun ls hl => ?_)
              refine lv_goto (tgt := 14) hx hb dX5_digestLayers_54 (by decide) ?_
              exact ih y3_5 (x6_3 + 1) _ _ (lz_c h hz) kk _ _ _ hP hD hS (lv_sub hl [2, 3, 1, 4, 0] rfl)
        obtain ⟨z3_3, z6_3, hl_3, h⟩ := b2_I h
        refine L14_3 7 x3_1 0  z3_3 z6_3 hl_3 (fun H locs ls hP hD hS hl => ?_) _ _ _ hP hD hS (lv_sub hl [1, 2, 3, 4, 0] rfl)
        refine lv_iinc (v := x5_1 + 1) (lv' := [(5, .int (x5_1 + 1)), (0, .ref (x 0)), (1, .long p0), (3, .long z3_3), (6, .int z6_3)]) hx hb dX5_digestLayers_57 hl (k := 3) rfl rfl (by decide) rfl (fun ls hl => ?_)
        refine lv_goto (tgt := 5) hx hb dX5_digestLayers_60 (by decide) ?_
        exact ih z3_3 (x5_1 + 1) _ _ (lz_c h hz) kk _ _ _ hP hD hS (lv_sub hl [1, 2, 3, 0] rfl)
  obtain ⟨z3_1, z5_1, hl_1, h⟩ := b2_I h
  refine L5_1 6 p0 0  z3_1 z5_1 hl_1 (fun H locs ls hP hD hS hl => ?_) _ _ _ hP hD hS (lv_sub hl [2, 3, 1, 0] rfl)
  refine lv_lload_n hx hb dX5_digestLayers_63 rfl (lv_at hl 2 rfl) ?_
  have h0 := o1 h
  exact eL hx hb hr hlk hP hS dX5_digestLayers_64 (Nat.le_of_ble_eq_true rfl) (Nat.le_of_ble_eq_true rfl) h0 rfl
noncomputable def fX5_digestWishes_B23 (G : Nat → Nat → Int32) (x5_1 : Int32) (x3_3 : Int64) (x6_3 : Int32)  : Option ((Int64 × Int32) ⊕ (Int64 × Int32)) := if 4 < x6_3 then (some (.inr (x3_3, x6_3))) else (lt_ ((x3_3 * 31) + (((fX4_figure G x5_1 x6_3)).toInt64)) (fun y3_5 => some (.inl (y3_5, x6_3 + 1))))
noncomputable def fX5_digestWishes_B5 (G : Nat → Nat → Int32) (g : Nat → Int32) (x3_1 : Int64) (x5_1 : Int32)  : Option ((Int64 × Int32) ⊕ (Int64 × Int32)) := if (g 6) ≤ x5_1 then (some (.inr (x3_1, x5_1))) else (b2 (lp (fun s => fX5_digestWishes_B23 G x5_1 s.1 s.2) 6 (x3_1, 0)) (fun z3_3 z6_3 => some (.inl (z3_3, x5_1 + 1))))
noncomputable def fX5_digestWishes (G : Nat → Nat → Int32) (g : Nat → Int32) (p0 : Int64) : Option (Int64) := b2 (lp (fun s => fX5_digestWishes_B5 G g s.1 s.2) 25 (p0, 0)) (fun z3_1 z5_1 => some z3_1)
set_option maxHeartbeats 4000000 in
set_option maxRecDepth 100000 in
theorem c_X5_digestWishes (l : Launch) (D : va_G) (cI cJ : ClassId) (a b x : Nat → Nat) (G : Nat → Nat → Int32) (g : Nat → Int32) (J : Nat → Nat → Int32) (j : Nat → Int32) (F : Nat → Int32) (p0 : Int64) (r' : Int64) (rs : va_W) (h : fX5_digestWishes G g p0 = some r') : Cl l yX5_digestWishes wsX5_digestWishes ({ frames := 2, cells := 0, slots := 0, locals := 43 } : Room) D cI cJ ([.ref (x 0), .long p0] : List Value) (wl cI a G g ++ (wl cI b J j ++ (xr cI a b x F ++ rs))) r' (wl cI a G g ++ (wl cI b J j ++ (xr cI a b x F ++ rs))) := by
  refine Cl.mk (cc := cX5_digestWishes) (maxL := 7) (ret := (some .long)) (by decide) rfl (Nat.le_of_ble_eq_true rfl) ?_
  intro p e s m below meth c A ls B hr hlk hK hN hA hP hD hl
  obtain ⟨hx, hb, hml, hown, hts⟩ := id B
  have hi_X3 : ∀ w ∈ wsX30, w ∈ wsX5_digestWishes := fun _ h => List.mem_cons_of_mem _ (List.mem_append_left _ (List.mem_append_left _ (List.mem_append_left _ (List.mem_append_right _ (h)))))
  have hi_X4 : ∀ w ∈ wsX40, w ∈ wsX5_digestWishes := fun _ h => List.mem_cons_of_mem _ (List.mem_append_left _ (List.mem_append_left _ (List.mem_append_right _ (h))))
  have hi_X5 : ∀ w ∈ wsX50, w ∈ wsX5_digestWishes := fun _ h => List.mem_cons_of_mem _ (List.mem_append_left _ (List.mem_append_left _ (List.mem_append_left _ (List.mem_append_left _ (List.mem_append_right _ (h))))))
  have hS : va_S A s.heap s.heap [] := va_S.rf
  have hl : lv_has ls 7 [(0, .ref (x 0)), (1, .long p0)] := hl
  unfold fX5_digestWishes at h
  refine lv_lload_n hx hb dX5_digestWishes_0 rfl (lv_at hl 1 rfl) ?_
  refine lv_lstore_n (lv' := [(3, .long p0), (0, .ref (x 0)), (1, .long p0)]) hx hb dX5_digestWishes_1 rfl hl (by decide) rfl (fun ls hl => ?_)
  refine lv_iconst (v := 0) hx hb dX5_digestWishes_2 (by decide) ?_
  refine lv_istore (lv' := [(5, .int 0), (3, .long p0), (0, .ref (x 0)), (1, .long p0)]) hx hb dX5_digestWishes_3 hl (by decide) rfl (fun ls hl => ?_)
  have L5_1 : ∀ (n : Nat) (x3_1 : Int64) (x5_1 : Int32)  (z3_1 : Int64) (z5_1 : Int32)  (_ : lp (fun s => fX5_digestWishes_B5 G g s.1 s.2) n (x3_1, x5_1) = some (z3_1, z5_1)) (_ : ∀ (H : Heap) (locs : List Loc) (ls : Array Slot), va_P D vwCl (wl cI a G g ++ (wl cI b J j ++ (xr cI a b x F ++ rs))) H → va_D A (wl cI a G g ++ (wl cI b J j ++ (xr cI a b x F ++ rs))) → va_S A s.heap H locs → lv_has ls 7 [(0, .ref (x 0)), (1, .long p0), (3, .long z3_1), (5, .int z5_1)] → W p l e (headSpec wsX5_digestWishes ({ frames := 2, cells := 0, slots := 0, locals := 43 } : Room)).room s m ([.ref (x 0), .long p0] : List Value).toArray below meth c H locs (0) (0) (QL below D (wl cI a G g ++ (wl cI b J j ++ (xr cI a b x F ++ rs))) r' ([.ref (x 0), .long p0] : List Value).toArray s 0 0 A) (F0 m 63 ls [])) (H : Heap) (locs : List Loc) (ls : Array Slot), va_P D vwCl (wl cI a G g ++ (wl cI b J j ++ (xr cI a b x F ++ rs))) H → va_D A (wl cI a G g ++ (wl cI b J j ++ (xr cI a b x F ++ rs))) → va_S A s.heap H locs → lv_has ls 7 [(0, .ref (x 0)), (1, .long p0), (3, .long x3_1), (5, .int x5_1)] → W p l e (headSpec wsX5_digestWishes ({ frames := 2, cells := 0, slots := 0, locals := 43 } : Room)).room s m ([.ref (x 0), .long p0] : List Value).toArray below meth c H locs (0) (0) (QL below D (wl cI a G g ++ (wl cI b J j ++ (xr cI a b x F ++ rs))) r' ([.ref (x 0), .long p0] : List Value).toArray s 0 0 A) (F0 m 5 ls []) := by
    intro n
    induction n with
    | zero => intro x3_1 x5_1 z3_1 z5_1 h; exact (lp_0 h).elim
    | succ n ih =>
      intro x3_1 x5_1 z3_1 z5_1 h kk H locs ls hP hD hS hl
      obtain ⟨z, h, hz⟩ := lp_walk h
      have h : fX5_digestWishes_B5 G g x3_1 x5_1 = some z := h
      unfold fX5_digestWishes_B5 at h
      refine lv_iload hx hb dX5_digestWishes_5 (lv_at hl 3 rfl) ?_
      refine lv_aload_n hx hb dX5_digestWishes_7 rfl (lv_at hl 0 rfl) ?_
      refine va_get (ci := 8) (v := .ref (a 0)) (C := RX5) (T := TX5) (N := 3) hx hb hts hi_X5 hown hK hP 56 rfl rfl 0 (by decide) (hts (.fieldLink RX5 10 "WishWell" "well" "LWishWell$Well;") (List.mem_of_getElem? (i := 1) rfl)) (fun _ h9 => h9) rfl dX5_digestWishes_8 ?_
      refine va_get (ci := 6) (v := .ref (a 2)) (C := RX3) (T := TX3) (N := 9) hx hb hts hi_X3 hown hK hP 0 rfl rfl 1 (by decide) (hts (.fieldLink RX5 86 "WishWell$Well" "wishes" "LWishWell$Wishes;") (List.mem_of_getElem? (i := 2) rfl)) (fun _ h9 => h9) rfl dX5_digestWishes_11 ?_
      refine va_get (ci := 7) (v := .int (g 6)) (C := RX4) (T := TX4) (N := 6) hx hb hts hi_X4 hown hK hP 2 rfl rfl 5 (by decide) (hts (.fieldLink RX5 90 "WishWell$Wishes" "size" "I") (List.mem_of_getElem? (i := 3) rfl)) (fun _ h9 => h9) rfl dX5_digestWishes_14 ?_
      refine lv_icmp_ge (tgt := 63) hx hb dX5_digestWishes_17 (by decide) (fun c_2 => ?_) (fun c_2 => ?_)
      · have h := ip_ h c_2
        cases lz_e h hz
        exact kk _ _ _ hP hD hS (lv_sub hl [0, 1, 2, 3] rfl)
      · have h := in_ h c_2
        refine lv_iconst (v := 0) hx hb dX5_digestWishes_20 (by decide) ?_
        refine lv_istore (lv' := [(6, .int 0), (0, .ref (x 0)), (1, .long p0), (3, .long x3_1), (5, .int x5_1)]) hx hb dX5_digestWishes_21 hl (by decide) rfl (fun ls hl => ?_)
        have L23_3 : ∀ (n : Nat) (x3_3 : Int64) (x6_3 : Int32)  (z3_3 : Int64) (z6_3 : Int32)  (_ : lp (fun s => fX5_digestWishes_B23 G x5_1 s.1 s.2) n (x3_3, x6_3) = some (z3_3, z6_3)) (_ : ∀ (H : Heap) (locs : List Loc) (ls : Array Slot), va_P D vwCl (wl cI a G g ++ (wl cI b J j ++ (xr cI a b x F ++ rs))) H → va_D A (wl cI a G g ++ (wl cI b J j ++ (xr cI a b x F ++ rs))) → va_S A s.heap H locs → lv_has ls 7 [(0, .ref (x 0)), (1, .long p0), (3, .long z3_3), (5, .int x5_1), (6, .int z6_3)] → W p l e (headSpec wsX5_digestWishes ({ frames := 2, cells := 0, slots := 0, locals := 43 } : Room)).room s m ([.ref (x 0), .long p0] : List Value).toArray below meth c H locs (0) (0) (QL below D (wl cI a G g ++ (wl cI b J j ++ (xr cI a b x F ++ rs))) r' ([.ref (x 0), .long p0] : List Value).toArray s 0 0 A) (F0 m 57 ls [])) (H : Heap) (locs : List Loc) (ls : Array Slot), va_P D vwCl (wl cI a G g ++ (wl cI b J j ++ (xr cI a b x F ++ rs))) H → va_D A (wl cI a G g ++ (wl cI b J j ++ (xr cI a b x F ++ rs))) → va_S A s.heap H locs → lv_has ls 7 [(0, .ref (x 0)), (1, .long p0), (3, .long x3_3), (5, .int x5_1), (6, .int x6_3)] → W p l e (headSpec wsX5_digestWishes ({ frames := 2, cells := 0, slots := 0, locals := 43 } : Room)).room s m ([.ref (x 0), .long p0] : List Value).toArray below meth c H locs (0) (0) (QL below D (wl cI a G g ++ (wl cI b J j ++ (xr cI a b x F ++ rs))) r' ([.ref (x 0), .long p0] : List Value).toArray s 0 0 A) (F0 m 23 ls []) := by
          intro n
          induction n with
          | zero => intro x3_3 x6_3 z3_3 z6_3 h; exact (lp_0 h).elim
          | succ n ih =>
            intro x3_3 x6_3 z3_3 z6_3 h kk H locs ls hP hD hS hl
            obtain ⟨z, h, hz⟩ := lp_walk h
            have h : fX5_digestWishes_B23 G x5_1 x3_3 x6_3 = some z := h
            unfold fX5_digestWishes_B23 at h
            refine lv_iload hx hb dX5_digestWishes_23 (lv_at hl 4 rfl) ?_
            refine lv_iconst (v := 4) hx hb dX5_digestWishes_25 (by decide) ?_
            refine lv_icmp_gt (tgt := 57) hx hb dX5_digestWishes_26 (by decide) (fun c_4 => ?_) (fun c_4 => ?_)
            · have h := ip_ h c_4
              cases lz_e h hz
              exact kk _ _ _ hP hD hS (lv_sub hl [0, 1, 2, 3, 4] rfl)
            · have h := in_ h c_4
              refine lv_lload_n hx hb dX5_digestWishes_29 rfl (lv_at hl 2 rfl) ?_
              refine lv_ldc2 (v := 31) hx hb hown (hts (.constantLong RX5 189 (31)) (List.mem_of_getElem? (i := 4) rfl)) dX5_digestWishes_30 ?_
              refine lv_lmul hx hb dX5_digestWishes_33 ?_
              refine lv_aload_n hx hb dX5_digestWishes_34 rfl (lv_at hl 0 rfl) ?_
              refine va_get (ci := 8) (v := .ref (a 0)) (C := RX5) (T := TX5) (N := 3) hx hb hts hi_X5 hown hK hP 56 rfl rfl 0 (by decide) (hts (.fieldLink RX5 10 "WishWell" "well" "LWishWell$Well;") (List.mem_of_getElem? (i := 1) rfl)) (fun _ h9 => h9) rfl dX5_digestWishes_35 ?_
              refine va_get (ci := 6) (v := .ref (a 2)) (C := RX3) (T := TX3) (N := 9) hx hb hts hi_X3 hown hK hP 0 rfl rfl 1 (by decide) (hts (.fieldLink RX5 86 "WishWell$Well" "wishes" "LWishWell$Wishes;") (List.mem_of_getElem? (i := 2) rfl)) (fun _ h9 => h9) rfl dX5_digestWishes_38 ?_
              refine lv_iload hx hb dX5_digestWishes_41 (lv_at hl 3 rfl) ?_
              refine lv_iload hx hb dX5_digestWishes_43 (lv_at hl 4 rfl) ?_
              refine kVi (As := [.int x5_1, .int x6_3]) (rest := [.long (x3_3 * 31)]) B hK hN hP hD hS hA (c_X4_figure l D cI cJ a G g x5_1 x6_3 (wl cI b J j ++ (xr cI a b x F ++ rs)) _ rfl) (cwV 2 hts gX5_digestWishes_X4_figure rfl rfl rfl (by decide +kernel) ⟨(Nat.le_of_ble_eq_true rfl), (Nat.le_of_ble_eq_true rfl)⟩) 7 2 rfl rfl rfl hl.1 rfl (Nat.le_of_ble_eq_true rfl) dX5_digestWishes_45 ⟨(Nat.le_of_ble_eq_true rfl), (Nat.le_of_ble_eq_true rfl)⟩ rfl (fun H locs hP hD hS => ?_)
              refine lv_i2l hx hb dX5_digestWishes_48 rfl ?_
              refine lv_ladd hx hb dX5_digestWishes_49 ?_
              obtain ⟨y3_5, ey3_5, h⟩ := lt_I h
              rw [← ey3_5]
              refine lv_lstore_n (lv' := [(3, .long y3_5), (0, .ref (x 0)), (1, .long p0), (5, .int x5_1), (6, .int x6_3)]) hx hb dX5_digestWishes_50 rfl hl (by decide) rfl (fun ls hl => ?_)
              refine lv_iinc (v := x6_3 + 1) (lv' := [(6, .int (x6_3 + 1)), (3, .long y3_5), (0, .ref (x 0)), (1, .long p0), (5, .int x5_1)]) hx hb dX5_digestWishes_51 hl (k := 4) rfl rfl (by decide) rfl (fun ls hl => ?_)
              refine lv_goto (tgt := 23) hx hb dX5_digestWishes_54 (by decide) ?_
              exact ih y3_5 (x6_3 + 1) _ _ (lz_c h hz) kk _ _ _ hP hD hS (lv_sub hl [2, 3, 1, 4, 0] rfl)
        obtain ⟨z3_3, z6_3, hl_3, h⟩ := b2_I h
        refine L23_3 6 x3_1 0  z3_3 z6_3 hl_3 (fun H locs ls hP hD hS hl => ?_) _ _ _ hP hD hS (lv_sub hl [1, 2, 3, 4, 0] rfl)
        refine lv_iinc (v := x5_1 + 1) (lv' := [(5, .int (x5_1 + 1)), (0, .ref (x 0)), (1, .long p0), (3, .long z3_3), (6, .int z6_3)]) hx hb dX5_digestWishes_57 hl (k := 3) rfl rfl (by decide) rfl (fun ls hl => ?_)
        refine lv_goto (tgt := 5) hx hb dX5_digestWishes_60 (by decide) ?_
        exact ih z3_3 (x5_1 + 1) _ _ (lz_c h hz) kk _ _ _ hP hD hS (lv_sub hl [1, 2, 3, 0] rfl)
  obtain ⟨z3_1, z5_1, hl_1, h⟩ := b2_I h
  refine L5_1 25 p0 0  z3_1 z5_1 hl_1 (fun H locs ls hP hD hS hl => ?_) _ _ _ hP hD hS (lv_sub hl [2, 3, 1, 0] rfl)
  refine lv_lload_n hx hb dX5_digestWishes_63 rfl (lv_at hl 2 rfl) ?_
  have h0 := o1 h
  exact eL hx hb hr hlk hP hS dX5_digestWishes_64 (Nat.le_of_ble_eq_true rfl) (Nat.le_of_ble_eq_true rfl) h0 rfl
noncomputable def fX5_digest_B6 (G : Nat → Nat → Int32) (g : Nat → Int32) (x1_1 : Int64) (x3_1 : Int32)  : Option ((Int64 × Int32) ⊕ (Int64 × Int32)) := if 10 < x3_1 then (some (.inr (x1_1, x3_1))) else (Option.bind (fX3_figure G g x3_1) (fun r_3 => lt_ ((x1_1 * 31) + r_3.toInt64) (fun y1_5 => some (.inl (y1_5, x3_1 + 1)))))
noncomputable def fX5_digest_B36 (G : Nat → Nat → Int32) (x1_6 : Int64) (x3_6 : Int32)  : Option ((Int64 × Int32) ⊕ (Int64 × Int32)) := if 7 ≤ x3_6 then (some (.inr (x1_6, x3_6))) else (lt_ ((x1_6 * 31) + (((rAt 7 (G 0) x3_6)).toInt64)) (fun y1_8 => some (.inl (y1_8, x3_6 + 1))))
noncomputable def fX5_digest (G : Nat → Nat → Int32) (g : Nat → Int32) : Option (Int64) := b2 (lp (fun s => fX5_digest_B6 G g s.1 s.2) 12 (821, 0)) (fun z1_1 z3_1 => b2 (lp (fun s => fX5_digest_B36 G s.1 s.2) 8 (z1_1, 0)) (fun z1_6 z3_6 => Option.bind (fX5_digestLands G g z1_6) (fun r_9 => Option.bind (fX5_digestLayers G g r_9) (fun r_11 => Option.bind (fX5_digestWishes G g r_11) (fun r_13 => some r_13)))))
set_option maxHeartbeats 4000000 in
set_option maxRecDepth 100000 in
theorem c_X5_digest (l : Launch) (D : va_G) (cI cJ : ClassId) (a b x : Nat → Nat) (G : Nat → Nat → Int32) (g : Nat → Int32) (J : Nat → Nat → Int32) (j : Nat → Int32) (F : Nat → Int32) (r' : Int64) (rs : va_W) (h : fX5_digest G g = some r') : Cl l yX5_digest wsX5_digest ({ frames := 5, cells := 0, slots := 0, locals := 115 } : Room) D cI cJ ([.ref (x 0)] : List Value) (wl cI a G g ++ (wl cI b J j ++ (xr cI a b x F ++ rs))) r' (wl cI a G g ++ (wl cI b J j ++ (xr cI a b x F ++ rs))) := by
  refine Cl.mk (cc := cX5_digest) (maxL := 4) (ret := (some .long)) (by decide) rfl (Nat.le_of_ble_eq_true rfl) ?_
  intro p e s m below meth c A ls B hr hlk hK hN hA hP hD hl
  obtain ⟨hx, hb, hml, hown, hts⟩ := id B
  have hi_X3 : ∀ w ∈ wsX30, w ∈ wsX5_digest := fun _ h => List.mem_cons_of_mem _ (List.mem_append_left _ (List.mem_append_left _ (List.mem_append_left _ (List.mem_append_left _ (List.mem_append_left _ (List.mem_append_right _ (h)))))))
  have hi_X5 : ∀ w ∈ wsX50, w ∈ wsX5_digest := fun _ h => List.mem_cons_of_mem _ (List.mem_append_left _ (List.mem_append_left _ (List.mem_append_left _ (List.mem_append_left _ (List.mem_append_left _ (List.mem_append_left _ (List.mem_append_right _ (h))))))))
  have hS : va_S A s.heap s.heap [] := va_S.rf
  have hl : lv_has ls 4 [(0, .ref (x 0))] := hl
  unfold fX5_digest at h
  refine lv_ldc2 (v := 821) hx hb hown (hts (.constantLong RX5 187 (821)) (List.mem_of_getElem? (i := 1) rfl)) dX5_digest_0 ?_
  refine lv_lstore_n (lv' := [(1, .long 821), (0, .ref (x 0))]) hx hb dX5_digest_3 rfl hl (by decide) rfl (fun ls hl => ?_)
  refine lv_iconst (v := 0) hx hb dX5_digest_4 (by decide) ?_
  refine lv_istore_n (lv' := [(3, .int 0), (1, .long 821), (0, .ref (x 0))]) hx hb dX5_digest_5 rfl hl (by decide) rfl (fun ls hl => ?_)
  have L6_1 : ∀ (n : Nat) (x1_1 : Int64) (x3_1 : Int32)  (z1_1 : Int64) (z3_1 : Int32)  (_ : lp (fun s => fX5_digest_B6 G g s.1 s.2) n (x1_1, x3_1) = some (z1_1, z3_1)) (_ : ∀ (H : Heap) (locs : List Loc) (ls : Array Slot), va_P D vwCl (wl cI a G g ++ (wl cI b J j ++ (xr cI a b x F ++ rs))) H → va_D A (wl cI a G g ++ (wl cI b J j ++ (xr cI a b x F ++ rs))) → va_S A s.heap H locs → lv_has ls 4 [(0, .ref (x 0)), (1, .long z1_1), (3, .int z3_1)] → W p l e (headSpec wsX5_digest ({ frames := 5, cells := 0, slots := 0, locals := 115 } : Room)).room s m ([.ref (x 0)] : List Value).toArray below meth c H locs (0) (0) (QL below D (wl cI a G g ++ (wl cI b J j ++ (xr cI a b x F ++ rs))) r' ([.ref (x 0)] : List Value).toArray s 0 0 A) (F0 m 34 ls [])) (H : Heap) (locs : List Loc) (ls : Array Slot), va_P D vwCl (wl cI a G g ++ (wl cI b J j ++ (xr cI a b x F ++ rs))) H → va_D A (wl cI a G g ++ (wl cI b J j ++ (xr cI a b x F ++ rs))) → va_S A s.heap H locs → lv_has ls 4 [(0, .ref (x 0)), (1, .long x1_1), (3, .int x3_1)] → W p l e (headSpec wsX5_digest ({ frames := 5, cells := 0, slots := 0, locals := 115 } : Room)).room s m ([.ref (x 0)] : List Value).toArray below meth c H locs (0) (0) (QL below D (wl cI a G g ++ (wl cI b J j ++ (xr cI a b x F ++ rs))) r' ([.ref (x 0)] : List Value).toArray s 0 0 A) (F0 m 6 ls []) := by
    intro n
    induction n with
    | zero => intro x1_1 x3_1 z1_1 z3_1 h; exact (lp_0 h).elim
    | succ n ih =>
      intro x1_1 x3_1 z1_1 z3_1 h kk H locs ls hP hD hS hl
      obtain ⟨z, h, hz⟩ := lp_walk h
      have h : fX5_digest_B6 G g x1_1 x3_1 = some z := h
      unfold fX5_digest_B6 at h
      refine lv_iload_n hx hb dX5_digest_6 rfl (lv_at hl 2 rfl) ?_
      refine lv_bipush (v := 10) hx hb dX5_digest_7 (by decide) ?_
      refine lv_icmp_gt (tgt := 34) hx hb dX5_digest_9 (by decide) (fun c_2 => ?_) (fun c_2 => ?_)
      · have h := ip_ h c_2
        cases lz_e h hz
        exact kk _ _ _ hP hD hS (lv_sub hl [0, 1, 2] rfl)
      · have h := in_ h c_2
        refine lv_lload_n hx hb dX5_digest_12 rfl (lv_at hl 1 rfl) ?_
        refine lv_ldc2 (v := 31) hx hb hown (hts (.constantLong RX5 189 (31)) (List.mem_of_getElem? (i := 2) rfl)) dX5_digest_13 ?_
        refine lv_lmul hx hb dX5_digest_16 ?_
        refine lv_aload_n hx hb dX5_digest_17 rfl (lv_at hl 0 rfl) ?_
        refine va_get (ci := 8) (v := .ref (a 0)) (C := RX5) (T := TX5) (N := 3) hx hb hts hi_X5 hown hK hP 56 rfl rfl 0 (by decide) (hts (.fieldLink RX5 10 "WishWell" "well" "LWishWell$Well;") (List.mem_of_getElem? (i := 3) rfl)) (fun _ h9 => h9) rfl dX5_digest_18 ?_
        refine lv_iload_n hx hb dX5_digest_21 rfl (lv_at hl 2 rfl) ?_
        obtain ⟨r_3, hx_4, h⟩ := bd_I h
        refine kVi (As := [.int x3_1]) (rest := [.long (x1_1 * 31)]) B hK hN hP hD hS hA (c_X3_figure l D cI cJ a G g x3_1 r_3 (wl cI b J j ++ (xr cI a b x F ++ rs)) hx_4) (cwV 1 hts gX5_digest_X3_figure rfl rfl rfl (by decide +kernel) ⟨(Nat.le_of_ble_eq_true rfl), (Nat.le_of_ble_eq_true rfl)⟩) 6 0 rfl rfl rfl hl.1 rfl (Nat.le_of_ble_eq_true rfl) dX5_digest_22 ⟨(Nat.le_of_ble_eq_true rfl), (Nat.le_of_ble_eq_true rfl)⟩ rfl (fun H locs hP hD hS => ?_)
        refine lv_i2l hx hb dX5_digest_25 rfl ?_
        refine lv_ladd hx hb dX5_digest_26 ?_
        obtain ⟨y1_5, ey1_5, h⟩ := lt_I h
        rw [← ey1_5]
        refine lv_lstore_n (lv' := [(1, .long y1_5), (0, .ref (x 0)), (3, .int x3_1)]) hx hb dX5_digest_27 rfl hl (by decide) rfl (fun ls hl => ?_)
        refine lv_iinc (v := x3_1 + 1) (lv' := [(3, .int (x3_1 + 1)), (1, .long y1_5), (0, .ref (x 0))]) hx hb dX5_digest_28 hl (k := 2) rfl rfl (by decide) rfl (fun ls hl => ?_)
        refine lv_goto (tgt := 6) hx hb dX5_digest_31 (by decide) ?_
        exact ih y1_5 (x3_1 + 1) _ _ (lz_c h hz) kk _ _ _ hP hD hS (lv_sub hl [2, 1, 0] rfl)
  obtain ⟨z1_1, z3_1, hl_1, h⟩ := b2_I h
  refine L6_1 12 821 0  z1_1 z3_1 hl_1 (fun H locs ls hP hD hS hl => ?_) _ _ _ hP hD hS (lv_sub hl [2, 1, 0] rfl)
  refine lv_iconst (v := 0) hx hb dX5_digest_34 (by decide) ?_
  refine lv_istore_n (lv' := [(3, .int 0), (0, .ref (x 0)), (1, .long z1_1)]) hx hb dX5_digest_35 rfl hl (by decide) rfl (fun ls hl => ?_)
  have L36_6 : ∀ (n : Nat) (x1_6 : Int64) (x3_6 : Int32)  (z1_6 : Int64) (z3_6 : Int32)  (_ : lp (fun s => fX5_digest_B36 G s.1 s.2) n (x1_6, x3_6) = some (z1_6, z3_6)) (_ : ∀ (H : Heap) (locs : List Loc) (ls : Array Slot), va_P D vwCl (wl cI a G g ++ (wl cI b J j ++ (xr cI a b x F ++ rs))) H → va_D A (wl cI a G g ++ (wl cI b J j ++ (xr cI a b x F ++ rs))) → va_S A s.heap H locs → lv_has ls 4 [(0, .ref (x 0)), (1, .long z1_6), (3, .int z3_6)] → W p l e (headSpec wsX5_digest ({ frames := 5, cells := 0, slots := 0, locals := 115 } : Room)).room s m ([.ref (x 0)] : List Value).toArray below meth c H locs (0) (0) (QL below D (wl cI a G g ++ (wl cI b J j ++ (xr cI a b x F ++ rs))) r' ([.ref (x 0)] : List Value).toArray s 0 0 A) (F0 m 67 ls [])) (H : Heap) (locs : List Loc) (ls : Array Slot), va_P D vwCl (wl cI a G g ++ (wl cI b J j ++ (xr cI a b x F ++ rs))) H → va_D A (wl cI a G g ++ (wl cI b J j ++ (xr cI a b x F ++ rs))) → va_S A s.heap H locs → lv_has ls 4 [(0, .ref (x 0)), (1, .long x1_6), (3, .int x3_6)] → W p l e (headSpec wsX5_digest ({ frames := 5, cells := 0, slots := 0, locals := 115 } : Room)).room s m ([.ref (x 0)] : List Value).toArray below meth c H locs (0) (0) (QL below D (wl cI a G g ++ (wl cI b J j ++ (xr cI a b x F ++ rs))) r' ([.ref (x 0)] : List Value).toArray s 0 0 A) (F0 m 36 ls []) := by
    intro n
    induction n with
    | zero => intro x1_6 x3_6 z1_6 z3_6 h; exact (lp_0 h).elim
    | succ n ih =>
      intro x1_6 x3_6 z1_6 z3_6 h kk H locs ls hP hD hS hl
      obtain ⟨z, h, hz⟩ := lp_walk h
      have h : fX5_digest_B36 G x1_6 x3_6 = some z := h
      unfold fX5_digest_B36 at h
      refine lv_iload_n hx hb dX5_digest_36 rfl (lv_at hl 2 rfl) ?_
      refine lv_bipush (v := 7) hx hb dX5_digest_37 (by decide) ?_
      refine lv_icmp_ge (tgt := 67) hx hb dX5_digest_39 (by decide) (fun c_7 => ?_) (fun c_7 => ?_)
      · have h := ip_ h c_7
        cases lz_e h hz
        exact kk _ _ _ hP hD hS (lv_sub hl [0, 1, 2] rfl)
      · have h := in_ h c_7
        refine lv_lload_n hx hb dX5_digest_42 rfl (lv_at hl 1 rfl) ?_
        refine lv_ldc2 (v := 31) hx hb hown (hts (.constantLong RX5 189 (31)) (List.mem_of_getElem? (i := 2) rfl)) dX5_digest_43 ?_
        refine lv_lmul hx hb dX5_digest_46 ?_
        refine lv_aload_n hx hb dX5_digest_47 rfl (lv_at hl 0 rfl) ?_
        refine va_get (ci := 8) (v := .ref (a 0)) (C := RX5) (T := TX5) (N := 3) hx hb hts hi_X5 hown hK hP 56 rfl rfl 0 (by decide) (hts (.fieldLink RX5 10 "WishWell" "well" "LWishWell$Well;") (List.mem_of_getElem? (i := 3) rfl)) (fun _ h9 => h9) rfl dX5_digest_48 ?_
        refine va_get (ci := 6) (v := .ref (a 4)) (C := RX3) (T := TX3) (N := 9) hx hb hts hi_X3 hown hK hP 0 rfl rfl 3 (by decide) (hts (.fieldLink RX5 67 "WishWell$Well" "tide" "LWishWell$Row;") (List.mem_of_getElem? (i := 4) rfl)) (fun _ h9 => h9) rfl dX5_digest_51 ?_
        refine lv_iload_n hx hb dX5_digest_54 rfl (lv_at hl 2 rfl) ?_
        refine kVi (As := [.int x3_6]) (rest := [.long (x1_6 * 31)]) B hK hN hP hD hS hA (c_X2_at l D cI cJ _ _ _ 7 (G 0) 4 16 rfl rfl (by decide) x3_6) (cwV 1 hts gX5_digest_X2_at rfl rfl rfl (by decide +kernel) ⟨(Nat.le_of_ble_eq_true rfl), (Nat.le_of_ble_eq_true rfl)⟩) 5 4 rfl rfl rfl hl.1 rfl (Nat.le_of_ble_eq_true rfl) dX5_digest_55 ⟨(Nat.le_of_ble_eq_true rfl), (Nat.le_of_ble_eq_true rfl)⟩ rfl (fun H locs hP hD hS => ?_)
        refine lv_i2l hx hb dX5_digest_58 rfl ?_
        refine lv_ladd hx hb dX5_digest_59 ?_
        obtain ⟨y1_8, ey1_8, h⟩ := lt_I h
        rw [← ey1_8]
        refine lv_lstore_n (lv' := [(1, .long y1_8), (0, .ref (x 0)), (3, .int x3_6)]) hx hb dX5_digest_60 rfl hl (by decide) rfl (fun ls hl => ?_)
        refine lv_iinc (v := x3_6 + 1) (lv' := [(3, .int (x3_6 + 1)), (1, .long y1_8), (0, .ref (x 0))]) hx hb dX5_digest_61 hl (k := 2) rfl rfl (by decide) rfl (fun ls hl => ?_)
        refine lv_goto (tgt := 36) hx hb dX5_digest_64 (by decide) ?_
        exact ih y1_8 (x3_6 + 1) _ _ (lz_c h hz) kk _ _ _ hP hD hS (lv_sub hl [2, 1, 0] rfl)
  obtain ⟨z1_6, z3_6, hl_6, h⟩ := b2_I h
  refine L36_6 8 z1_1 0  z1_6 z3_6 hl_6 (fun H locs ls hP hD hS hl => ?_) _ _ _ hP hD hS (lv_sub hl [1, 2, 0] rfl)
  refine lv_aload_n hx hb dX5_digest_67 rfl (lv_at hl 0 rfl) ?_
  refine lv_aload_n hx hb dX5_digest_68 rfl (lv_at hl 0 rfl) ?_
  refine lv_aload_n hx hb dX5_digest_69 rfl (lv_at hl 0 rfl) ?_
  refine lv_lload_n hx hb dX5_digest_70 rfl (lv_at hl 1 rfl) ?_
  obtain ⟨r_9, hx_10, h⟩ := bd_I h
  refine kVl (As := [.long z1_6]) (rest := [.ref (x 0), .ref (x 0)]) B hK hN hP hD hS hA (c_X5_digestLands l D cI cJ a b x G g J j F z1_6 r_9 rs hx_10) (cwV 1 hts gX5_digest_X5_digestLands rfl rfl rfl (by decide +kernel) ⟨(Nat.le_of_ble_eq_true rfl), (Nat.le_of_ble_eq_true rfl)⟩) 8 56 rfl rfl rfl hl.1 rfl (Nat.le_of_ble_eq_true rfl) dX5_digest_71 ⟨(Nat.le_of_ble_eq_true rfl), (Nat.le_of_ble_eq_true rfl)⟩ rfl (fun H locs hP hD hS => ?_)
  obtain ⟨r_11, hx_12, h⟩ := bd_I h
  refine kVl (As := [.long r_9]) (rest := [.ref (x 0)]) B hK hN hP hD hS hA (c_X5_digestLayers l D cI cJ a b x G g J j F r_9 r_11 rs hx_12) (cwV 1 hts gX5_digest_X5_digestLayers rfl rfl rfl (by decide +kernel) ⟨(Nat.le_of_ble_eq_true rfl), (Nat.le_of_ble_eq_true rfl)⟩) 8 56 rfl rfl rfl hl.1 rfl (Nat.le_of_ble_eq_true rfl) dX5_digest_74 ⟨(Nat.le_of_ble_eq_true rfl), (Nat.le_of_ble_eq_true rfl)⟩ rfl (fun H locs hP hD hS => ?_)
  obtain ⟨r_13, hx_14, h⟩ := bd_I h
  refine kVl (As := [.long r_11]) (rest := []) B hK hN hP hD hS hA (c_X5_digestWishes l D cI cJ a b x G g J j F r_11 r_13 rs hx_14) (cwV 1 hts gX5_digest_X5_digestWishes rfl rfl rfl (by decide +kernel) ⟨(Nat.le_of_ble_eq_true rfl), (Nat.le_of_ble_eq_true rfl)⟩) 8 56 rfl rfl rfl hl.1 rfl (Nat.le_of_ble_eq_true rfl) dX5_digest_77 ⟨(Nat.le_of_ble_eq_true rfl), (Nat.le_of_ble_eq_true rfl)⟩ rfl (fun H locs hP hD hS => ?_)
  have h0 := o1 h
  exact eL hx hb hr hlk hP hS dX5_digest_80 (Nat.le_of_ble_eq_true rfl) (Nat.le_of_ble_eq_true rfl) h0 rfl
noncomputable def fX5_daysTillGranted_B13 (p0 : Int32) (x2_4 : Int32) (J_4 : Nat → Nat → Int32) (j_4 : Nat → Int32) : Option ((Int32 × (Nat → Nat → Int32) × (Nat → Int32)) ⊕ ((Int32 × (Nat → Nat → Int32) × (Nat → Int32)) ⊕ (Int32 × (Nat → Nat → Int32) × (Nat → Int32)))) := if 200 < x2_4 then (some (.inr (.inl (x2_4, J_4, j_4)))) else (b3 (fX3_liveDay J_4 j_4) (fun r_6 J_7 j_8 => if (rAt 24 (J_7 9) p0) = 1 then (some (.inr (.inr (x2_4, J_7, j_8)))) else (some (.inl (x2_4 + 1, J_7, j_8)))))
noncomputable def fX5_daysTillGranted (G : Nat → Nat → Int32) (g : Nat → Int32) (J : Nat → Nat → Int32) (j : Nat → Int32) (p0 : Int32) : Option (Int32 × (Nat → Nat → Int32) × (Nat → Int32)) := b2 (fX3_takeOver G g J j) (fun J_1 j_2 => ((lp (fun s => fX5_daysTillGranted_B13 p0 s.1 s.2.1 s.2.2) 201 (1, J_1, j_2))).bind (fun zz_4 => se zz_4 (fun t_4 => some ((-1), t_4.2.1, t_4.2.2))))
set_option maxHeartbeats 4000000 in
set_option maxRecDepth 100000 in
theorem c_X5_daysTillGranted (l : Launch) (D : va_G) (cI cJ : ClassId) (a b x : Nat → Nat) (G : Nat → Nat → Int32) (g : Nat → Int32) (J : Nat → Nat → Int32) (j : Nat → Int32) (F : Nat → Int32) (p0 : Int32) (r' : Int32) (J' : Nat → Nat → Int32) (j' : Nat → Int32) (rs : va_W) (h : fX5_daysTillGranted G g J j p0 = some (r', J', j')) : Ci l yX5_daysTillGranted wsX5_daysTillGranted ({ frames := 5, cells := 0, slots := 0, locals := 123 } : Room) D cI cJ ([.ref (x 0), .int p0] : List Value) (wl cI a G g ++ (wl cI b J j ++ (xr cI a b x F ++ rs))) r' (wl cI a G g ++ (wl cI b J' j' ++ (xr cI a b x F ++ rs))) := by
  refine Ci.mk (cc := cX5_daysTillGranted) (maxL := 3) (ret := (some .int)) (by decide) rfl (Nat.le_of_ble_eq_true rfl) ?_
  intro p e s m below meth c A ls B hr hlk hK hN hA hP hD hl
  obtain ⟨hx, hb, hml, hown, hts⟩ := id B
  have hi_X3 : ∀ w ∈ wsX30, w ∈ wsX5_daysTillGranted := fun _ h => List.mem_cons_of_mem _ (List.mem_append_left _ (List.mem_append_left _ (List.mem_append_left _ (List.mem_append_left _ (List.mem_append_left _ (List.mem_append_right _ (h)))))))
  have hi_X4 : ∀ w ∈ wsX40, w ∈ wsX5_daysTillGranted := fun _ h => List.mem_cons_of_mem _ (List.mem_append_left _ (List.mem_append_left _ (List.mem_append_left _ (List.mem_append_left _ (List.mem_append_right _ (h))))))
  have hi_X5 : ∀ w ∈ wsX50, w ∈ wsX5_daysTillGranted := fun _ h => List.mem_cons_of_mem _ (List.mem_append_left _ (List.mem_append_left _ (List.mem_append_left _ (List.mem_append_left _ (List.mem_append_left _ (List.mem_append_left _ (List.mem_append_right _ (h))))))))
  have hS : va_S A s.heap s.heap [] := va_S.rf
  have hl : lv_has ls 3 [(0, .ref (x 0)), (1, .int p0)] := hl
  unfold fX5_daysTillGranted at h
  refine lv_aload_n hx hb dX5_daysTillGranted_0 rfl (lv_at hl 0 rfl) ?_
  refine va_get (ci := 8) (v := .ref (b 0)) (C := RX5) (T := TX5) (N := 3) hx hb hts hi_X5 hown hK hP 56 rfl rfl 1 (by decide) (hts (.fieldLink RX5 16 "WishWell" "trial" "LWishWell$Well;") (List.mem_of_getElem? (i := 1) rfl)) (fun _ h9 => h9) rfl dX5_daysTillGranted_1 ?_
  refine lv_aload_n hx hb dX5_daysTillGranted_4 rfl (lv_at hl 0 rfl) ?_
  refine va_get (ci := 8) (v := .ref (a 0)) (C := RX5) (T := TX5) (N := 3) hx hb hts hi_X5 hown hK hP 56 rfl rfl 0 (by decide) (hts (.fieldLink RX5 10 "WishWell" "well" "LWishWell$Well;") (List.mem_of_getElem? (i := 2) rfl)) (fun _ h9 => h9) rfl dX5_daysTillGranted_5 ?_
  obtain ⟨J_1, j_2, hx_3, h⟩ := b2_I h
  refine kVv (As := [.ref (a 0)]) (rest := []) B hK hN (P_perm (pm2 _ _ _) hP) (D_perm (pm2 _ _ _) hD) hS hA (c_X3_takeOver l D cI cJ a b G g J j  J_1 j_2 (xr cI a b x F ++ rs) hx_3) (cwV 1 hts gX5_daysTillGranted_X3_takeOver rfl rfl rfl (by decide +kernel) ⟨(Nat.le_of_ble_eq_true rfl), (Nat.le_of_ble_eq_true rfl)⟩) 6 0 rfl rfl rfl hl.1 rfl (Nat.le_of_ble_eq_true rfl) dX5_daysTillGranted_8 ⟨(Nat.le_of_ble_eq_true rfl), (Nat.le_of_ble_eq_true rfl)⟩ rfl (fun H locs hP hD hS => ?_)
  have hP := P_perm (pm2 _ _ _) hP
  have hD := D_perm (pm2 _ _ _) hD
  refine lv_iconst (v := 1) hx hb dX5_daysTillGranted_11 (by decide) ?_
  refine lv_istore_n (lv' := [(2, .int 1), (0, .ref (x 0)), (1, .int p0)]) hx hb dX5_daysTillGranted_12 rfl hl (by decide) rfl (fun ls hl => ?_)
  have L13_4 : ∀ (n : Nat) (x2_4 : Int32) (J_4 : Nat → Nat → Int32) (j_4 : Nat → Int32) (zz : (Int32 × (Nat → Nat → Int32) × (Nat → Int32)) ⊕ (Int32 × (Nat → Nat → Int32) × (Nat → Int32))) (_ : lp (fun s => fX5_daysTillGranted_B13 p0 s.1 s.2.1 s.2.2) n (x2_4, J_4, j_4) = some zz) (_ : ∀ (z2_4 : Int32) (Jz_4 : Nat → Nat → Int32) (jz_4 : Nat → Int32), zz = .inl (z2_4, Jz_4, jz_4) → ∀ (H : Heap) (locs : List Loc) (ls : Array Slot), va_P D vwCl (wl cI a G g ++ (wl cI b Jz_4 jz_4 ++ (xr cI a b x F ++ rs))) H → va_D A (wl cI a G g ++ (wl cI b Jz_4 jz_4 ++ (xr cI a b x F ++ rs))) → va_S A s.heap H locs → lv_has ls 3 [(0, .ref (x 0)), (1, .int p0), (2, .int z2_4)] → W p l e (headSpec wsX5_daysTillGranted ({ frames := 5, cells := 0, slots := 0, locals := 123 } : Room)).room s m ([.ref (x 0), .int p0] : List Value).toArray below meth c H locs (0) (0) (QI below D (wl cI a G g ++ (wl cI b J' j' ++ (xr cI a b x F ++ rs))) r' ([.ref (x 0), .int p0] : List Value).toArray s 0 0 A) (F0 m 54 ls [])) (_ : ∀ o, zz = .inr o → o = (r', J', j')) (H : Heap) (locs : List Loc) (ls : Array Slot), va_P D vwCl (wl cI a G g ++ (wl cI b J_4 j_4 ++ (xr cI a b x F ++ rs))) H → va_D A (wl cI a G g ++ (wl cI b J_4 j_4 ++ (xr cI a b x F ++ rs))) → va_S A s.heap H locs → lv_has ls 3 [(0, .ref (x 0)), (1, .int p0), (2, .int x2_4)] → W p l e (headSpec wsX5_daysTillGranted ({ frames := 5, cells := 0, slots := 0, locals := 123 } : Room)).room s m ([.ref (x 0), .int p0] : List Value).toArray below meth c H locs (0) (0) (QI below D (wl cI a G g ++ (wl cI b J' j' ++ (xr cI a b x F ++ rs))) r' ([.ref (x 0), .int p0] : List Value).toArray s 0 0 A) (F0 m 13 ls []) := by
    intro n
    induction n with
    | zero => intro x2_4 J_4 j_4 zz h; exact (lp_0 h).elim
    | succ n ih =>
      intro x2_4 J_4 j_4 zz h kk kr H locs ls hP hD hS hl
      obtain ⟨z, h, hz⟩ := lp_walk h
      have h : fX5_daysTillGranted_B13 p0 x2_4 J_4 j_4 = some z := h
      unfold fX5_daysTillGranted_B13 at h
      refine lv_iload_n hx hb dX5_daysTillGranted_13 rfl (lv_at hl 2 rfl) ?_
      refine lv_sipush (v := 200) hx hb dX5_daysTillGranted_14 (by decide) ?_
      refine lv_icmp_gt (tgt := 54) hx hb dX5_daysTillGranted_17 (by decide) (fun c_5 => ?_) (fun c_5 => ?_)
      · have h := ip_ h c_5
        cases lz_e h hz
        exact kk _ _ _ rfl _ _ _ hP hD hS (lv_sub hl [0, 1, 2] rfl)
      · have h := in_ h c_5
        refine lv_aload_n hx hb dX5_daysTillGranted_20 rfl (lv_at hl 0 rfl) ?_
        refine va_get (ci := 8) (v := .ref (b 0)) (C := RX5) (T := TX5) (N := 3) hx hb hts hi_X5 hown hK hP 56 rfl rfl 1 (by decide) (hts (.fieldLink RX5 16 "WishWell" "trial" "LWishWell$Well;") (List.mem_of_getElem? (i := 1) rfl)) (fun _ h9 => h9) rfl dX5_daysTillGranted_21 ?_
        obtain ⟨r_6, J_7, j_8, hx_9, h⟩ := b3_I h
        refine kVi (As := []) (rest := []) B hK hN (P_perm (pm2 _ _ _) hP) (D_perm (pm2 _ _ _) hD) hS hA (c_X3_liveDay l D cI cJ b J_4 j_4  r_6 J_7 j_8 (wl cI a G g ++ (xr cI a b x F ++ rs)) hx_9) (cwV 0 hts gX5_daysTillGranted_X3_liveDay rfl rfl rfl (by decide +kernel) ⟨(Nat.le_of_ble_eq_true rfl), (Nat.le_of_ble_eq_true rfl)⟩) 6 0 rfl rfl rfl hl.1 rfl (Nat.le_of_ble_eq_true rfl) dX5_daysTillGranted_24 ⟨(Nat.le_of_ble_eq_true rfl), (Nat.le_of_ble_eq_true rfl)⟩ rfl (fun H locs hP hD hS => ?_)
        have hP := P_perm (pm2 _ _ _) hP
        have hD := D_perm (pm2 _ _ _) hD
        refine lv_pop hx hb dX5_daysTillGranted_27 rfl ?_
        refine lv_aload_n hx hb dX5_daysTillGranted_28 rfl (lv_at hl 0 rfl) ?_
        refine va_get (ci := 8) (v := .ref (b 0)) (C := RX5) (T := TX5) (N := 3) hx hb hts hi_X5 hown hK hP 56 rfl rfl 1 (by decide) (hts (.fieldLink RX5 16 "WishWell" "trial" "LWishWell$Well;") (List.mem_of_getElem? (i := 1) rfl)) (fun _ h9 => h9) rfl dX5_daysTillGranted_29 ?_
        refine va_get (ci := 6) (v := .ref (b 2)) (C := RX3) (T := TX3) (N := 9) hx hb hts hi_X3 hown hK hP 28 rfl rfl 1 (by decide) (hts (.fieldLink RX5 86 "WishWell$Well" "wishes" "LWishWell$Wishes;") (List.mem_of_getElem? (i := 3) rfl)) (fun _ h9 => h9) rfl dX5_daysTillGranted_32 ?_
        refine va_get (ci := 7) (v := .ref (b 13)) (C := RX4) (T := TX4) (N := 6) hx hb hts hi_X4 hown hK hP 30 rfl rfl 3 (by decide) (hts (.fieldLink RX5 107 "WishWell$Wishes" "fates" "LWishWell$Row;") (List.mem_of_getElem? (i := 4) rfl)) (fun _ h9 => h9) rfl dX5_daysTillGranted_35 ?_
        refine lv_iload_n hx hb dX5_daysTillGranted_38 rfl (lv_at hl 1 rfl) ?_
        refine kVi (As := [.int p0]) (rest := []) B hK hN hP hD hS hA (c_X2_at l D cI cJ _ _ _ 24 (J_7 9) 41 53 rfl rfl (by decide) p0) (cwV 1 hts gX5_daysTillGranted_X2_at rfl rfl rfl (by decide +kernel) ⟨(Nat.le_of_ble_eq_true rfl), (Nat.le_of_ble_eq_true rfl)⟩) 5 41 rfl rfl rfl hl.1 rfl (Nat.le_of_ble_eq_true rfl) dX5_daysTillGranted_39 ⟨(Nat.le_of_ble_eq_true rfl), (Nat.le_of_ble_eq_true rfl)⟩ rfl (fun H locs hP hD hS => ?_)
        refine lv_iconst (v := 1) hx hb dX5_daysTillGranted_42 (by decide) ?_
        refine lv_icmp_ne (tgt := 48) hx hb dX5_daysTillGranted_43 (by decide) (fun c_10 => ?_) (fun c_10 => ?_)
        · have h := in_ h c_10
          refine lv_iinc (v := x2_4 + 1) (lv' := [(2, .int (x2_4 + 1)), (0, .ref (x 0)), (1, .int p0)]) hx hb dX5_daysTillGranted_48 hl (k := 2) rfl rfl (by decide) rfl (fun ls hl => ?_)
          refine lv_goto (tgt := 13) hx hb dX5_daysTillGranted_51 (by decide) ?_
          exact ih (x2_4 + 1) J_7 j_8 _ (lz_c h hz) kk kr _ _ _ hP hD hS (lv_sub hl [1, 2, 0] rfl)
        · have h := ip_ h c_10
          refine lv_iload_n hx hb dX5_daysTillGranted_46 rfl (lv_at hl 2 rfl) ?_
          have h := kr _ (lz_e h hz).symm
          have h := congrArg some h
          obtain ⟨h0, h1, h2⟩ := o3 h
          exact eI hx hb hr hlk hP hS dX5_daysTillGranted_47 (Nat.le_of_ble_eq_true rfl) (Nat.le_of_ble_eq_true rfl) h0 (by rw [h1, h2])
  obtain ⟨zz_4, hl_4, h⟩ := bd_I h
  refine L13_4 201 1 J_1 j_2 zz_4 hl_4 (fun z2_4 Jz_4 jz_4 ez H locs ls hP hD hS hl => ?_) (fun o ez => by subst ez; exact Option.some.inj h) _ _ _ hP hD hS (lv_sub hl [1, 2, 0] rfl)
  subst ez
  replace h : _ = _ := h
  simp only [se] at h
  refine lv_iconst (v := (-1)) hx hb dX5_daysTillGranted_54 (by decide) ?_
  obtain ⟨h0, h1, h2⟩ := o3 h
  exact eI hx hb hr hlk hP hS dX5_daysTillGranted_55 (Nat.le_of_ble_eq_true rfl) (Nat.le_of_ble_eq_true rfl) h0 (by rw [h1, h2])
noncomputable def fX5_mean (G : Nat → Nat → Int32) (g : Nat → Int32) : Option (UInt64) := Option.bind (fX4_meanWait G g) (fun r_1 => some r_1)
set_option maxHeartbeats 4000000 in
set_option maxRecDepth 100000 in
theorem c_X5_mean (l : Launch) (D : va_G) (cI cJ : ClassId) (a b x : Nat → Nat) (G : Nat → Nat → Int32) (g : Nat → Int32) (J : Nat → Nat → Int32) (j : Nat → Int32) (F : Nat → Int32) (r' : UInt64) (rs : va_W) (h : fX5_mean G g = some r') : Cd l yX5_mean wsX5_mean ({ frames := 2, cells := 0, slots := 0, locals := 44 } : Room) D cI cJ ([.ref (x 0)] : List Value) (wl cI a G g ++ (wl cI b J j ++ (xr cI a b x F ++ rs))) r' (wl cI a G g ++ (wl cI b J j ++ (xr cI a b x F ++ rs))) := by
  refine Cd.mk (cc := cX5_mean) (maxL := 1) (ret := (some .double)) (by decide) rfl (Nat.le_of_ble_eq_true rfl) ?_
  intro p e s m below meth c A ls B hr hlk hK hN hA hP hD hl
  obtain ⟨hx, hb, hml, hown, hts⟩ := id B
  have hi_X3 : ∀ w ∈ wsX30, w ∈ wsX5_mean := fun _ h => List.mem_cons_of_mem _ (List.mem_append_left _ (List.mem_append_left _ (List.mem_append_left _ (List.mem_append_right _ (h)))))
  have hi_X5 : ∀ w ∈ wsX50, w ∈ wsX5_mean := fun _ h => List.mem_cons_of_mem _ (List.mem_append_left _ (List.mem_append_left _ (List.mem_append_left _ (List.mem_append_left _ (List.mem_append_right _ (h))))))
  have hS : va_S A s.heap s.heap [] := va_S.rf
  have hl : lv_has ls 1 [(0, .ref (x 0))] := hl
  unfold fX5_mean at h
  refine lv_aload_n hx hb dX5_mean_0 rfl (lv_at hl 0 rfl) ?_
  refine va_get (ci := 8) (v := .ref (a 0)) (C := RX5) (T := TX5) (N := 3) hx hb hts hi_X5 hown hK hP 56 rfl rfl 0 (by decide) (hts (.fieldLink RX5 10 "WishWell" "well" "LWishWell$Well;") (List.mem_of_getElem? (i := 1) rfl)) (fun _ h9 => h9) rfl dX5_mean_1 ?_
  refine va_get (ci := 6) (v := .ref (a 2)) (C := RX3) (T := TX3) (N := 9) hx hb hts hi_X3 hown hK hP 0 rfl rfl 1 (by decide) (hts (.fieldLink RX5 86 "WishWell$Well" "wishes" "LWishWell$Wishes;") (List.mem_of_getElem? (i := 2) rfl)) (fun _ h9 => h9) rfl dX5_mean_4 ?_
  obtain ⟨r_1, hx_2, h⟩ := bd_I h
  refine kVd (As := []) (rest := []) B hK hN hP hD hS hA (c_X4_meanWait l D cI cJ a G g  r_1 (wl cI b J j ++ (xr cI a b x F ++ rs)) hx_2) (cwV 0 hts gX5_mean_X4_meanWait rfl rfl rfl (by decide +kernel) ⟨(Nat.le_of_ble_eq_true rfl), (Nat.le_of_ble_eq_true rfl)⟩) 7 2 rfl rfl rfl hl.1 rfl (Nat.le_of_ble_eq_true rfl) dX5_mean_7 ⟨(Nat.le_of_ble_eq_true rfl), (Nat.le_of_ble_eq_true rfl)⟩ rfl (fun H locs hP hD hS => ?_)
  have h0 := o1 h
  exact eD hx hb hr hlk hP hS dX5_mean_10 (Nat.le_of_ble_eq_true rfl) (Nat.le_of_ble_eq_true rfl) h0 rfl
