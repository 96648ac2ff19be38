/-! laid by wip/whole/gen.py -/
noncomputable def fX7_counted_B6 (T : Nat → Nat → Int32) (k : Nat → Int32) (x3_3 : Int32) (N1_3 : Nat → Int32) : Option ((Int32 × (Nat → Int32)) ⊕ (Int32 × (Nat → Int32))) := if (k 2) ≤ x3_3 then (some (.inr (x3_3, N1_3))) else (gd (vp_in x3_3 24) (gd (vp_in (T 2 (Int32.toNatClampNeg x3_3)) 3) (gd (vp_in (T 2 (Int32.toNatClampNeg x3_3)) 3) (lt_ (upd N1_3 (Int32.toNatClampNeg (T 2 (Int32.toNatClampNeg x3_3))) ((N1_3 (Int32.toNatClampNeg (T 2 (Int32.toNatClampNeg x3_3)))) + 1)) (fun N1_8 => some (.inl (x3_3 + 1, N1_8)))))))
noncomputable def fX7_counted_B40 (T : Nat → Nat → Int32) (x3_9 : Int32) (x4_9 : Int32)  : Option ((Int32 × Int32) ⊕ (Int32 × Int32)) := if 5 ≤ x4_9 then (some (.inr (x3_9, x4_9))) else (Option.bind (fX6_coins T x4_9) (fun r_11 => lt_ (x3_9 + r_11) (fun y3_13 => some (.inl (y3_13, x4_9 + 1)))))
noncomputable def fX7_counted (T : Nat → Nat → Int32) (t : Nat → Int32) (M : Nat → Nat → Int32) (k : Nat → Int32) (p0 : Int32) : Option (Int32) := lt_ (fun _ => 0 : Nat → Int32) (fun N1_2 => b2 (lp (fun s => fX7_counted_B6 T k s.1 s.2) 25 (0, N1_2)) (fun z3_3 N1z_3 => b2 (lp (fun s => fX7_counted_B40 T s.1 s.2) 6 (0, 0)) (fun z3_9 z4_9 => lt_ (fun _ => 0 : Nat → Int32) (fun N2_15 => gd (vp_in 0 11) (lt_ (upd N2_15 (Int32.toNatClampNeg 0) (t 0)) (fun N2_17 => gd (vp_in 1 11) (lt_ (upd N2_17 (Int32.toNatClampNeg 1) (k 1)) (fun N2_19 => gd (vp_in 2 11) (lt_ (upd N2_19 (Int32.toNatClampNeg 2) (k 2)) (fun N2_21 => gd (vp_in 0 3) (gd (vp_in 3 11) (lt_ (upd N2_21 (Int32.toNatClampNeg 3) (N1z_3 (Int32.toNatClampNeg 0))) (fun N2_24 => gd (vp_in 1 3) (gd (vp_in 4 11) (lt_ (upd N2_24 (Int32.toNatClampNeg 4) (N1z_3 (Int32.toNatClampNeg 1))) (fun N2_27 => gd (vp_in 5 11) (lt_ (upd N2_27 (Int32.toNatClampNeg 5) (t 1)) (fun N2_29 => gd (vp_in 6 11) (lt_ (upd N2_29 (Int32.toNatClampNeg 6) (t 2)) (fun N2_31 => gd (vp_in 7 11) (lt_ (upd N2_31 (Int32.toNatClampNeg 7) z3_9) (fun N2_33 => Option.bind (fX6_allWorth T M) (fun r_34 => gd (vp_in 8 11) (lt_ (upd N2_33 (Int32.toNatClampNeg 8) r_34) (fun N2_37 => gd (vp_in 9 11) (lt_ (upd N2_37 (Int32.toNatClampNeg 9) (k 3)) (fun N2_39 => gd (vp_in 10 11) (lt_ (upd N2_39 (Int32.toNatClampNeg 10) (k 4)) (fun N2_41 => gd (vp_in p0 11) (some (N2_41 (Int32.toNatClampNeg p0))))))))))))))))))))))))))))))))
set_option maxHeartbeats 4000000 in
set_option maxRecDepth 100000 in
theorem c_X7_counted (l : Launch) (D : va_G) (cI cJ : ClassId) (q u o : Nat → Nat) (T : Nat → Nat → Int32) (t : Nat → Int32) (M : Nat → Nat → Int32) (k : Nat → Int32) (V : Nat → Nat → Int32) (v : Nat → Int32) (p0 : Int32) (r' : Int32) (rs : va_W) (h : fX7_counted T t M k p0 = some r') : Ci l yX7_counted wsX7_counted ({ frames := 2, cells := 2, slots := 14, locals := 45 } : Room) D cI cJ ([.ref (o 0), .int p0] : List Value) (ms cI q o T t ++ (mo cI o (q 0) (u 0) M k ++ (ms cI u o V v ++ rs))) r' (ms cI q o T t ++ (mo cI o (q 0) (u 0) M k ++ (ms cI u o V v ++ rs))) := by
  refine Ci.mk (cc := cX7_counted) (maxL := 5) (ret := (some .int)) (by decide) rfl (Nat.le_of_ble_eq_true rfl) ?_
  intro p e s m below meth c A ls B hr hlk hK hN hA hP hD hl
  obtain ⟨hx, hb, hml, hown, hts⟩ := id B
  have hi_X6 : ∀ w ∈ wsX60, w ∈ wsX7_counted := fun _ h => List.mem_cons_of_mem _ (List.mem_append_left _ (List.mem_append_right _ (h)))
  have hi_X7 : ∀ w ∈ wsX70, w ∈ wsX7_counted := fun _ h => List.mem_cons_of_mem _ (List.mem_append_left _ (List.mem_append_left _ (List.mem_append_right _ (h))))
  have hS : va_S A s.heap s.heap [] := va_S.rf
  have hl : lv_has ls 5 [(0, .ref (o 0)), (1, .int p0)] := hl
  unfold fX7_counted at h
  refine lv_iconst (v := 3) hx hb dX7_counted_0 (by decide) ?_
  refine va_newa (atype := .int) (n := 3) (N' := 3) (a0 := (3, .inl (fun _ => 0))) hx hb (hts (.arrayClass .int) (List.mem_of_getElem? (i := 1) rfl)) rfl hK hP hD hS hA (fun cA => rfl) (by decide) rfl (by decide) (Nat.le_of_ble_eq_true rfl) (Nat.le_of_ble_eq_true rfl) dX7_counted_1 (fun q_1 cA_1 H hK' hP hD hS => ?_)
  have hP : va_P D vwCl (ms cI q o T t ++ (mo cI o (q 0) (u 0) M k ++ (ms cI u o V v ++ ((q_1, ai cA_1 3 (fun _ => 0)) :: rs)))) H := P_perm (pmx3 _ _ _ _ _) hP
  have hD : va_D A (ms cI q o T t ++ (mo cI o (q 0) (u 0) M k ++ (ms cI u o V v ++ ((q_1, ai cA_1 3 (fun _ => 0)) :: rs)))) := D_perm (pmx3 _ _ _ _ _) hD
  obtain ⟨N1_2, eN1_2, h⟩ := lt_I h
  have hP : va_P D vwCl (ms cI q o T t ++ (mo cI o (q 0) (u 0) M k ++ (ms cI u o V v ++ ((q_1, ai cA_1 3 N1_2) :: rs)))) H := by rw [eN1_2]; exact hP
  have hD : va_D A (ms cI q o T t ++ (mo cI o (q 0) (u 0) M k ++ (ms cI u o V v ++ ((q_1, ai cA_1 3 N1_2) :: rs)))) := by rw [eN1_2]; exact hD
  refine lv_astore_n (lv' := [(2, .ref q_1), (0, .ref (o 0)), (1, .int p0)]) hx hb dX7_counted_3 rfl hl (by decide) rfl (fun ls hl => ?_)
  refine lv_iconst (v := 0) hx hb dX7_counted_4 (by decide) ?_
  refine lv_istore_n (lv' := [(3, .int 0), (2, .ref q_1), (0, .ref (o 0)), (1, .int p0)]) hx hb dX7_counted_5 rfl hl (by decide) rfl (fun ls hl => ?_)
  have L6_3 : ∀ (n : Nat) (x3_3 : Int32) (N1_3 : Nat → Int32) (z3_3 : Int32) (N1z_3 : Nat → Int32) (_ : lp (fun s => fX7_counted_B6 T k s.1 s.2) n (x3_3, N1_3) = some (z3_3, N1z_3)) (_ : ∀ (H : Heap) (locs : List Loc) (ls : Array Slot), va_P D vwCl (ms cI q o T t ++ (mo cI o (q 0) (u 0) M k ++ (ms cI u o V v ++ ((q_1, ai cA_1 3 N1z_3) :: rs)))) H → va_D A (ms cI q o T t ++ (mo cI o (q 0) (u 0) M k ++ (ms cI u o V v ++ ((q_1, ai cA_1 3 N1z_3) :: rs)))) → va_S A s.heap H locs → lv_has ls 5 [(0, .ref (o 0)), (1, .int p0), (2, .ref q_1), (3, .int z3_3)] → W p l e (headSpec wsX7_counted ({ frames := 2, cells := 2, slots := 14, locals := 45 } : Room)).room s m ([.ref (o 0), .int p0] : List Value).toArray below meth c H locs (1) (3) (QI below D (ms cI q o T t ++ (mo cI o (q 0) (u 0) M k ++ (ms cI u o V v ++ rs))) r' ([.ref (o 0), .int p0] : List Value).toArray s 2 14 A) (F0 m 35 ls [])) (H : Heap) (locs : List Loc) (ls : Array Slot), va_P D vwCl (ms cI q o T t ++ (mo cI o (q 0) (u 0) M k ++ (ms cI u o V v ++ ((q_1, ai cA_1 3 N1_3) :: rs)))) H → va_D A (ms cI q o T t ++ (mo cI o (q 0) (u 0) M k ++ (ms cI u o V v ++ ((q_1, ai cA_1 3 N1_3) :: rs)))) → va_S A s.heap H locs → lv_has ls 5 [(0, .ref (o 0)), (1, .int p0), (2, .ref q_1), (3, .int x3_3)] → W p l e (headSpec wsX7_counted ({ frames := 2, cells := 2, slots := 14, locals := 45 } : Room)).room s m ([.ref (o 0), .int p0] : List Value).toArray below meth c H locs (1) (3) (QI below D (ms cI q o T t ++ (mo cI o (q 0) (u 0) M k ++ (ms cI u o V v ++ rs))) r' ([.ref (o 0), .int p0] : List Value).toArray s 2 14 A) (F0 m 6 ls []) := by
    intro n
    induction n with
    | zero => intro x3_3 N1_3 z3_3 N1z_3 h; exact (lp_0 h).elim
    | succ n ih =>
      intro x3_3 N1_3 z3_3 N1z_3 h kk H locs ls hP hD hS hl
      obtain ⟨z, h, hz⟩ := lp_walk h
      have h : fX7_counted_B6 T k x3_3 N1_3 = some z := h
      unfold fX7_counted_B6 at h
      refine lv_iload_n hx hb dX7_counted_6 rfl (lv_at hl 3 rfl) ?_
      refine lv_aload_n hx hb dX7_counted_7 rfl (lv_at hl 0 rfl) ?_
      refine va_get (ci := 10) (v := .int (k 2)) (C := RX7) (T := TX7) (N := 15) hx hb hts hi_X7 hown hK hP 5 rfl rfl 7 (by decide) (hts (.fieldLink RX7 57 "WishWellModel" "wishes" "I") (List.mem_of_getElem? (i := 2) rfl)) (fun _ h9 => h9) rfl dX7_counted_8 ?_
      refine lv_icmp_ge (tgt := 35) hx hb dX7_counted_11 (by decide) (fun c_4 => ?_) (fun c_4 => ?_)
      · have h := ip_ h c_4
        cases lz_e h hz
        exact kk _ _ _ hP hD hS (lv_sub hl [0, 1, 2, 3] rfl)
      · have h := in_ h c_4
        refine lv_aload_n hx hb dX7_counted_14 rfl (lv_at hl 2 rfl) ?_
        refine lv_aload_n hx hb dX7_counted_15 rfl (lv_at hl 0 rfl) ?_
        refine va_get (ci := 10) (v := .ref (q 0)) (C := RX7) (T := TX7) (N := 15) hx hb hts hi_X7 hown hK hP 5 rfl rfl 13 (by decide) (hts (.fieldLink RX7 39 "WishWellModel" "s" "LWishWellModel$State;") (List.mem_of_getElem? (i := 3) rfl)) (fun _ h9 => h9) rfl dX7_counted_16 ?_
        refine va_getN (own := RX7) (ref := "WishWellModel$State") (host := "WishWellModel") (index := 81) (ci := 9) (v := .ref (q 3)) (C := RX6) (T := TX6) (N := 8) hx hb hts hi_X6 hown hK hP 0 rfl rfl 5 (by decide) (nF_5 hN) (fun _ h9 => h9) rfl dX7_counted_19 ?_
        refine lv_iload_n hx hb dX7_counted_22 rfl (lv_at hl 3 rfl) ?_
        obtain ⟨c_5, h⟩ := gd_I h
        refine va_iald hx hb hK hP 3 0 rfl rfl c_5 dX7_counted_23 ?_
        refine lv_dup2_11 hx hb dX7_counted_24 rfl rfl ?_
        obtain ⟨c_6, h⟩ := gd_I h
        refine va_iald hx hb hK' hP 19 2 rfl rfl c_6 dX7_counted_25 ?_
        refine lv_iconst (v := 1) hx hb dX7_counted_26 (by decide) ?_
        refine lv_iadd hx hb dX7_counted_27 ?_
        obtain ⟨c_7, h⟩ := gd_I h
        refine va_iast hx hb hK' hP hD hS 19 2 rfl rfl c_7 dX7_counted_28 (fun H locs hP hD hS => ?_)
        obtain ⟨N1_8, eN1_8, h⟩ := lt_I h
        have hP : va_P D vwCl (ms cI q o T t ++ (mo cI o (q 0) (u 0) M k ++ (ms cI u o V v ++ ((q_1, ai cA_1 3 N1_8) :: rs)))) H := by rw [eN1_8]; exact hP
        have hD : va_D A (ms cI q o T t ++ (mo cI o (q 0) (u 0) M k ++ (ms cI u o V v ++ ((q_1, ai cA_1 3 N1_8) :: rs)))) := by rw [eN1_8]; exact hD
        refine lv_iinc (v := x3_3 + 1) (lv' := [(3, .int (x3_3 + 1)), (0, .ref (o 0)), (1, .int p0), (2, .ref q_1)]) hx hb dX7_counted_29 hl (k := 3) rfl rfl (by decide) rfl (fun ls hl => ?_)
        refine lv_goto (tgt := 6) hx hb dX7_counted_32 (by decide) ?_
        exact ih (x3_3 + 1) N1_8 _ _ (lz_c h hz) kk _ _ _ hP hD hS (lv_sub hl [1, 2, 3, 0] rfl)
  obtain ⟨z3_3, N1z_3, hl_3, h⟩ := b2_I h
  refine L6_3 25 0 N1_2 z3_3 N1z_3 hl_3 (fun H locs ls hP hD hS hl => ?_) _ _ _ hP hD hS (lv_sub hl [2, 3, 1, 0] rfl)
  refine lv_iconst (v := 0) hx hb dX7_counted_35 (by decide) ?_
  refine lv_istore_n (lv' := [(3, .int 0), (0, .ref (o 0)), (1, .int p0), (2, .ref q_1)]) hx hb dX7_counted_36 rfl hl (by decide) rfl (fun ls hl => ?_)
  refine lv_iconst (v := 0) hx hb dX7_counted_37 (by decide) ?_
  refine lv_istore (lv' := [(4, .int 0), (3, .int 0), (0, .ref (o 0)), (1, .int p0), (2, .ref q_1)]) hx hb dX7_counted_38 hl (by decide) rfl (fun ls hl => ?_)
  have L40_9 : ∀ (n : Nat) (x3_9 : Int32) (x4_9 : Int32)  (z3_9 : Int32) (z4_9 : Int32)  (_ : lp (fun s => fX7_counted_B40 T s.1 s.2) n (x3_9, x4_9) = some (z3_9, z4_9)) (_ : ∀ (H : Heap) (locs : List Loc) (ls : Array Slot), va_P D vwCl (ms cI q o T t ++ (mo cI o (q 0) (u 0) M k ++ (ms cI u o V v ++ ((q_1, ai cA_1 3 N1z_3) :: rs)))) H → va_D A (ms cI q o T t ++ (mo cI o (q 0) (u 0) M k ++ (ms cI u o V v ++ ((q_1, ai cA_1 3 N1z_3) :: rs)))) → va_S A s.heap H locs → lv_has ls 5 [(0, .ref (o 0)), (1, .int p0), (2, .ref q_1), (3, .int z3_9), (4, .int z4_9)] → W p l e (headSpec wsX7_counted ({ frames := 2, cells := 2, slots := 14, locals := 45 } : Room)).room s m ([.ref (o 0), .int p0] : List Value).toArray below meth c H locs (1) (3) (QI below D (ms cI q o T t ++ (mo cI o (q 0) (u 0) M k ++ (ms cI u o V v ++ rs))) r' ([.ref (o 0), .int p0] : List Value).toArray s 2 14 A) (F0 m 64 ls [])) (H : Heap) (locs : List Loc) (ls : Array Slot), va_P D vwCl (ms cI q o T t ++ (mo cI o (q 0) (u 0) M k ++ (ms cI u o V v ++ ((q_1, ai cA_1 3 N1z_3) :: rs)))) H → va_D A (ms cI q o T t ++ (mo cI o (q 0) (u 0) M k ++ (ms cI u o V v ++ ((q_1, ai cA_1 3 N1z_3) :: rs)))) → va_S A s.heap H locs → lv_has ls 5 [(0, .ref (o 0)), (1, .int p0), (2, .ref q_1), (3, .int x3_9), (4, .int x4_9)] → W p l e (headSpec wsX7_counted ({ frames := 2, cells := 2, slots := 14, locals := 45 } : Room)).room s m ([.ref (o 0), .int p0] : List Value).toArray below meth c H locs (1) (3) (QI below D (ms cI q o T t ++ (mo cI o (q 0) (u 0) M k ++ (ms cI u o V v ++ rs))) r' ([.ref (o 0), .int p0] : List Value).toArray s 2 14 A) (F0 m 40 ls []) := by
    intro n
    induction n with
    | zero => intro x3_9 x4_9 z3_9 z4_9 h; exact (lp_0 h).elim
    | succ n ih =>
      intro x3_9 x4_9 z3_9 z4_9 h kk H locs ls hP hD hS hl
      obtain ⟨z, h, hz⟩ := lp_walk h
      have h : fX7_counted_B40 T x3_9 x4_9 = some z := h
      unfold fX7_counted_B40 at h
      refine lv_iload hx hb dX7_counted_40 (lv_at hl 4 rfl) ?_
      refine lv_iconst (v := 5) hx hb dX7_counted_42 (by decide) ?_
      refine lv_icmp_ge (tgt := 64) hx hb dX7_counted_43 (by decide) (fun c_10 => ?_) (fun c_10 => ?_)
      · have h := ip_ h c_10
        cases lz_e h hz
        exact kk _ _ _ hP hD hS (lv_sub hl [0, 1, 2, 3, 4] rfl)
      · have h := in_ h c_10
        refine lv_iload_n hx hb dX7_counted_46 rfl (lv_at hl 3 rfl) ?_
        refine lv_aload_n hx hb dX7_counted_47 rfl (lv_at hl 0 rfl) ?_
        refine va_get (ci := 10) (v := .ref (q 0)) (C := RX7) (T := TX7) (N := 15) hx hb hts hi_X7 hown hK hP 5 rfl rfl 13 (by decide) (hts (.fieldLink RX7 39 "WishWellModel" "s" "LWishWellModel$State;") (List.mem_of_getElem? (i := 3) rfl)) (fun _ h9 => h9) rfl dX7_counted_48 ?_
        refine lv_iload hx hb dX7_counted_51 (lv_at hl 4 rfl) ?_
        obtain ⟨r_11, hx_12, h⟩ := bd_I h
        refine kVi (As := [.int x4_9]) (rest := [.int x3_9]) B hK hN hP hD hS hA (c_X6_coins l D cI cJ q o (q 0) (u 0) T t M k x4_9 r_11 (ms cI u o V v ++ ((q_1, ai cA_1 3 N1z_3) :: rs)) hx_12) (cwV 1 hts gX7_counted_X6_coins rfl rfl rfl (by decide +kernel) ⟨(Nat.le_of_ble_eq_true rfl), (Nat.le_of_ble_eq_true rfl)⟩) 9 0 rfl rfl rfl hl.1 rfl (Nat.le_of_ble_eq_true rfl) dX7_counted_53 ⟨(Nat.le_of_ble_eq_true rfl), (Nat.le_of_ble_eq_true rfl)⟩ rfl (fun H locs hP hD hS => ?_)
        refine lv_iadd hx hb dX7_counted_56 ?_
        obtain ⟨y3_13, ey3_13, h⟩ := lt_I h
        rw [← ey3_13]
        refine lv_istore_n (lv' := [(3, .int y3_13), (0, .ref (o 0)), (1, .int p0), (2, .ref q_1), (4, .int x4_9)]) hx hb dX7_counted_57 rfl hl (by decide) rfl (fun ls hl => ?_)
        refine lv_iinc (v := x4_9 + 1) (lv' := [(4, .int (x4_9 + 1)), (3, .int y3_13), (0, .ref (o 0)), (1, .int p0), (2, .ref q_1)]) hx hb dX7_counted_58 hl (k := 4) rfl rfl (by decide) rfl (fun ls hl => ?_)
        refine lv_goto (tgt := 40) hx hb dX7_counted_61 (by decide) ?_
        exact ih y3_13 (x4_9 + 1) _ _ (lz_c h hz) kk _ _ _ hP hD hS (lv_sub hl [2, 3, 4, 1, 0] rfl)
  obtain ⟨z3_9, z4_9, hl_9, h⟩ := b2_I h
  refine L40_9 6 0 0  z3_9 z4_9 hl_9 (fun H locs ls hP hD hS hl => ?_) _ _ _ hP hD hS (lv_sub hl [2, 3, 4, 1, 0] rfl)
  refine lv_bipush (v := 11) hx hb dX7_counted_64 (by decide) ?_
  refine va_newa (atype := .int) (n := 11) (N' := 11) (a0 := (11, .inl (fun _ => 0))) hx hb (hts (.arrayClass .int) (List.mem_of_getElem? (i := 1) rfl)) rfl hK' hP hD hS hA (fun cA => rfl) (by decide) rfl (by decide) (Nat.le_of_ble_eq_true rfl) (Nat.le_of_ble_eq_true rfl) dX7_counted_66 (fun q_14 cA_14 H hK' hP hD hS => ?_)
  have hP : va_P D vwCl (ms cI q o T t ++ (mo cI o (q 0) (u 0) M k ++ (ms cI u o V v ++ ((q_14, ai cA_14 11 (fun _ => 0)) :: ((q_1, ai cA_1 3 N1z_3) :: rs))))) H := P_perm (pmx3 _ _ _ _ _) hP
  have hD : va_D A (ms cI q o T t ++ (mo cI o (q 0) (u 0) M k ++ (ms cI u o V v ++ ((q_14, ai cA_14 11 (fun _ => 0)) :: ((q_1, ai cA_1 3 N1z_3) :: rs))))) := D_perm (pmx3 _ _ _ _ _) hD
  obtain ⟨N2_15, eN2_15, h⟩ := lt_I h
  have hP : va_P D vwCl (ms cI q o T t ++ (mo cI o (q 0) (u 0) M k ++ (ms cI u o V v ++ ((q_14, ai cA_14 11 N2_15) :: ((q_1, ai cA_1 3 N1z_3) :: rs))))) H := by rw [eN2_15]; exact hP
  have hD : va_D A (ms cI q o T t ++ (mo cI o (q 0) (u 0) M k ++ (ms cI u o V v ++ ((q_14, ai cA_14 11 N2_15) :: ((q_1, ai cA_1 3 N1z_3) :: rs))))) := by rw [eN2_15]; exact hD
  refine lv_dup hx hb dX7_counted_68 rfl ?_
  refine lv_iconst (v := 0) hx hb dX7_counted_69 (by decide) ?_
  refine lv_aload_n hx hb dX7_counted_70 rfl (lv_at hl 0 rfl) ?_
  refine va_get (ci := 10) (v := .ref (q 0)) (C := RX7) (T := TX7) (N := 15) hx hb hts hi_X7 hown hK hP 5 rfl rfl 13 (by decide) (hts (.fieldLink RX7 39 "WishWellModel" "s" "LWishWellModel$State;") (List.mem_of_getElem? (i := 3) rfl)) (fun _ h9 => h9) rfl dX7_counted_71 ?_
  refine va_getN (own := RX7) (ref := "WishWellModel$State") (host := "WishWellModel") (index := 68) (ci := 9) (v := .int (t 0)) (C := RX6) (T := TX6) (N := 8) hx hb hts hi_X6 hown hK hP 0 rfl rfl 0 (by decide) (nF_0 hN) (fun _ h9 => h9) rfl dX7_counted_74 ?_
  obtain ⟨c_16, h⟩ := gd_I h
  refine va_iast hx hb hK' hP hD hS 19 3 rfl rfl c_16 dX7_counted_77 (fun H locs hP hD hS => ?_)
  obtain ⟨N2_17, eN2_17, h⟩ := lt_I h
  have hP : va_P D vwCl (ms cI q o T t ++ (mo cI o (q 0) (u 0) M k ++ (ms cI u o V v ++ ((q_14, ai cA_14 11 N2_17) :: ((q_1, ai cA_1 3 N1z_3) :: rs))))) H := by rw [eN2_17]; exact hP
  have hD : va_D A (ms cI q o T t ++ (mo cI o (q 0) (u 0) M k ++ (ms cI u o V v ++ ((q_14, ai cA_14 11 N2_17) :: ((q_1, ai cA_1 3 N1z_3) :: rs))))) := by rw [eN2_17]; exact hD
  refine lv_dup hx hb dX7_counted_78 rfl ?_
  refine lv_iconst (v := 1) hx hb dX7_counted_79 (by decide) ?_
  refine lv_aload_n hx hb dX7_counted_80 rfl (lv_at hl 0 rfl) ?_
  refine va_get (ci := 10) (v := .int (k 1)) (C := RX7) (T := TX7) (N := 15) hx hb hts hi_X7 hown hK hP 5 rfl rfl 1 (by decide) (hts (.fieldLink RX7 50 "WishWellModel" "lands" "I") (List.mem_of_getElem? (i := 4) rfl)) (fun _ h9 => h9) rfl dX7_counted_81 ?_
  obtain ⟨c_18, h⟩ := gd_I h
  refine va_iast hx hb hK' hP hD hS 19 3 rfl rfl c_18 dX7_counted_84 (fun H locs hP hD hS => ?_)
  obtain ⟨N2_19, eN2_19, h⟩ := lt_I h
  have hP : va_P D vwCl (ms cI q o T t ++ (mo cI o (q 0) (u 0) M k ++ (ms cI u o V v ++ ((q_14, ai cA_14 11 N2_19) :: ((q_1, ai cA_1 3 N1z_3) :: rs))))) H := by rw [eN2_19]; exact hP
  have hD : va_D A (ms cI q o T t ++ (mo cI o (q 0) (u 0) M k ++ (ms cI u o V v ++ ((q_14, ai cA_14 11 N2_19) :: ((q_1, ai cA_1 3 N1z_3) :: rs))))) := by rw [eN2_19]; exact hD
  refine lv_dup hx hb dX7_counted_85 rfl ?_
  refine lv_iconst (v := 2) hx hb dX7_counted_86 (by decide) ?_
  refine lv_aload_n hx hb dX7_counted_87 rfl (lv_at hl 0 rfl) ?_
  refine va_get (ci := 10) (v := .int (k 2)) (C := RX7) (T := TX7) (N := 15) hx hb hts hi_X7 hown hK hP 5 rfl rfl 7 (by decide) (hts (.fieldLink RX7 57 "WishWellModel" "wishes" "I") (List.mem_of_getElem? (i := 2) rfl)) (fun _ h9 => h9) rfl dX7_counted_88 ?_
  obtain ⟨c_20, h⟩ := gd_I h
  refine va_iast hx hb hK' hP hD hS 19 3 rfl rfl c_20 dX7_counted_91 (fun H locs hP hD hS => ?_)
  obtain ⟨N2_21, eN2_21, h⟩ := lt_I h
  have hP : va_P D vwCl (ms cI q o T t ++ (mo cI o (q 0) (u 0) M k ++ (ms cI u o V v ++ ((q_14, ai cA_14 11 N2_21) :: ((q_1, ai cA_1 3 N1z_3) :: rs))))) H := by rw [eN2_21]; exact hP
  have hD : va_D A (ms cI q o T t ++ (mo cI o (q 0) (u 0) M k ++ (ms cI u o V v ++ ((q_14, ai cA_14 11 N2_21) :: ((q_1, ai cA_1 3 N1z_3) :: rs))))) := by rw [eN2_21]; exact hD
  refine lv_dup hx hb dX7_counted_92 rfl ?_
  refine lv_iconst (v := 3) hx hb dX7_counted_93 (by decide) ?_
  refine lv_aload_n hx hb dX7_counted_94 rfl (lv_at hl 2 rfl) ?_
  refine lv_iconst (v := 0) hx hb dX7_counted_95 (by decide) ?_
  obtain ⟨c_22, h⟩ := gd_I h
  refine va_iald hx hb hK' hP 20 2 rfl rfl c_22 dX7_counted_96 ?_
  obtain ⟨c_23, h⟩ := gd_I h
  refine va_iast hx hb hK' hP hD hS 19 3 rfl rfl c_23 dX7_counted_97 (fun H locs hP hD hS => ?_)
  obtain ⟨N2_24, eN2_24, h⟩ := lt_I h
  have hP : va_P D vwCl (ms cI q o T t ++ (mo cI o (q 0) (u 0) M k ++ (ms cI u o V v ++ ((q_14, ai cA_14 11 N2_24) :: ((q_1, ai cA_1 3 N1z_3) :: rs))))) H := by rw [eN2_24]; exact hP
  have hD : va_D A (ms cI q o T t ++ (mo cI o (q 0) (u 0) M k ++ (ms cI u o V v ++ ((q_14, ai cA_14 11 N2_24) :: ((q_1, ai cA_1 3 N1z_3) :: rs))))) := by rw [eN2_24]; exact hD
  refine lv_dup hx hb dX7_counted_98 rfl ?_
  refine lv_iconst (v := 4) hx hb dX7_counted_99 (by decide) ?_
  refine lv_aload_n hx hb dX7_counted_100 rfl (lv_at hl 2 rfl) ?_
  refine lv_iconst (v := 1) hx hb dX7_counted_101 (by decide) ?_
  obtain ⟨c_25, h⟩ := gd_I h
  refine va_iald hx hb hK' hP 20 2 rfl rfl c_25 dX7_counted_102 ?_
  obtain ⟨c_26, h⟩ := gd_I h
  refine va_iast hx hb hK' hP hD hS 19 3 rfl rfl c_26 dX7_counted_103 (fun H locs hP hD hS => ?_)
  obtain ⟨N2_27, eN2_27, h⟩ := lt_I h
  have hP : va_P D vwCl (ms cI q o T t ++ (mo cI o (q 0) (u 0) M k ++ (ms cI u o V v ++ ((q_14, ai cA_14 11 N2_27) :: ((q_1, ai cA_1 3 N1z_3) :: rs))))) H := by rw [eN2_27]; exact hP
  have hD : va_D A (ms cI q o T t ++ (mo cI o (q 0) (u 0) M k ++ (ms cI u o V v ++ ((q_14, ai cA_14 11 N2_27) :: ((q_1, ai cA_1 3 N1z_3) :: rs))))) := by rw [eN2_27]; exact hD
  refine lv_dup hx hb dX7_counted_104 rfl ?_
  refine lv_iconst (v := 5) hx hb dX7_counted_105 (by decide) ?_
  refine lv_aload_n hx hb dX7_counted_106 rfl (lv_at hl 0 rfl) ?_
  refine va_get (ci := 10) (v := .ref (q 0)) (C := RX7) (T := TX7) (N := 15) hx hb hts hi_X7 hown hK hP 5 rfl rfl 13 (by decide) (hts (.fieldLink RX7 39 "WishWellModel" "s" "LWishWellModel$State;") (List.mem_of_getElem? (i := 3) rfl)) (fun _ h9 => h9) rfl dX7_counted_107 ?_
  refine va_getN (own := RX7) (ref := "WishWellModel$State") (host := "WishWellModel") (index := 84) (ci := 9) (v := .int (t 1)) (C := RX6) (T := TX6) (N := 8) hx hb hts hi_X6 hown hK hP 0 rfl rfl 1 (by decide) (nF_1 hN) (fun _ h9 => h9) rfl dX7_counted_110 ?_
  obtain ⟨c_28, h⟩ := gd_I h
  refine va_iast hx hb hK' hP hD hS 19 3 rfl rfl c_28 dX7_counted_113 (fun H locs hP hD hS => ?_)
  obtain ⟨N2_29, eN2_29, h⟩ := lt_I h
  have hP : va_P D vwCl (ms cI q o T t ++ (mo cI o (q 0) (u 0) M k ++ (ms cI u o V v ++ ((q_14, ai cA_14 11 N2_29) :: ((q_1, ai cA_1 3 N1z_3) :: rs))))) H := by rw [eN2_29]; exact hP
  have hD : va_D A (ms cI q o T t ++ (mo cI o (q 0) (u 0) M k ++ (ms cI u o V v ++ ((q_14, ai cA_14 11 N2_29) :: ((q_1, ai cA_1 3 N1z_3) :: rs))))) := by rw [eN2_29]; exact hD
  refine lv_dup hx hb dX7_counted_114 rfl ?_
  refine lv_bipush (v := 6) hx hb dX7_counted_115 (by decide) ?_
  refine lv_aload_n hx hb dX7_counted_117 rfl (lv_at hl 0 rfl) ?_
  refine va_get (ci := 10) (v := .ref (q 0)) (C := RX7) (T := TX7) (N := 15) hx hb hts hi_X7 hown hK hP 5 rfl rfl 13 (by decide) (hts (.fieldLink RX7 39 "WishWellModel" "s" "LWishWellModel$State;") (List.mem_of_getElem? (i := 3) rfl)) (fun _ h9 => h9) rfl dX7_counted_118 ?_
  refine va_getN (own := RX7) (ref := "WishWellModel$State") (host := "WishWellModel") (index := 126) (ci := 9) (v := .int (t 2)) (C := RX6) (T := TX6) (N := 8) hx hb hts hi_X6 hown hK hP 0 rfl rfl 2 (by decide) (nF_2 hN) (fun _ h9 => h9) rfl dX7_counted_121 ?_
  obtain ⟨c_30, h⟩ := gd_I h
  refine va_iast hx hb hK' hP hD hS 19 3 rfl rfl c_30 dX7_counted_124 (fun H locs hP hD hS => ?_)
  obtain ⟨N2_31, eN2_31, h⟩ := lt_I h
  have hP : va_P D vwCl (ms cI q o T t ++ (mo cI o (q 0) (u 0) M k ++ (ms cI u o V v ++ ((q_14, ai cA_14 11 N2_31) :: ((q_1, ai cA_1 3 N1z_3) :: rs))))) H := by rw [eN2_31]; exact hP
  have hD : va_D A (ms cI q o T t ++ (mo cI o (q 0) (u 0) M k ++ (ms cI u o V v ++ ((q_14, ai cA_14 11 N2_31) :: ((q_1, ai cA_1 3 N1z_3) :: rs))))) := by rw [eN2_31]; exact hD
  refine lv_dup hx hb dX7_counted_125 rfl ?_
  refine lv_bipush (v := 7) hx hb dX7_counted_126 (by decide) ?_
  refine lv_iload_n hx hb dX7_counted_128 rfl (lv_at hl 3 rfl) ?_
  obtain ⟨c_32, h⟩ := gd_I h
  refine va_iast hx hb hK' hP hD hS 19 3 rfl rfl c_32 dX7_counted_129 (fun H locs hP hD hS => ?_)
  obtain ⟨N2_33, eN2_33, h⟩ := lt_I h
  have hP : va_P D vwCl (ms cI q o T t ++ (mo cI o (q 0) (u 0) M k ++ (ms cI u o V v ++ ((q_14, ai cA_14 11 N2_33) :: ((q_1, ai cA_1 3 N1z_3) :: rs))))) H := by rw [eN2_33]; exact hP
  have hD : va_D A (ms cI q o T t ++ (mo cI o (q 0) (u 0) M k ++ (ms cI u o V v ++ ((q_14, ai cA_14 11 N2_33) :: ((q_1, ai cA_1 3 N1z_3) :: rs))))) := by rw [eN2_33]; exact hD
  refine lv_dup hx hb dX7_counted_130 rfl ?_
  refine lv_bipush (v := 8) hx hb dX7_counted_131 (by decide) ?_
  refine lv_aload_n hx hb dX7_counted_133 rfl (lv_at hl 0 rfl) ?_
  refine va_get (ci := 10) (v := .ref (q 0)) (C := RX7) (T := TX7) (N := 15) hx hb hts hi_X7 hown hK hP 5 rfl rfl 13 (by decide) (hts (.fieldLink RX7 39 "WishWellModel" "s" "LWishWellModel$State;") (List.mem_of_getElem? (i := 3) rfl)) (fun _ h9 => h9) rfl dX7_counted_134 ?_
  obtain ⟨r_34, hx_35, h⟩ := bd_I h
  refine kVi (As := []) (rest := [.int 8, .ref q_14, .ref q_14]) B hK hN hP hD hS hA (c_X6_allWorth l D cI cJ q o (q 0) (u 0) T t M k  r_34 (ms cI u o V v ++ ((q_14, ai cA_14 11 N2_33) :: ((q_1, ai cA_1 3 N1z_3) :: rs))) hx_35) (cwV 0 hts gX7_counted_X6_allWorth rfl rfl rfl (by decide +kernel) ⟨(Nat.le_of_ble_eq_true rfl), (Nat.le_of_ble_eq_true rfl)⟩) 9 0 rfl rfl rfl hl.1 rfl (Nat.le_of_ble_eq_true rfl) dX7_counted_137 ⟨(Nat.le_of_ble_eq_true rfl), (Nat.le_of_ble_eq_true rfl)⟩ rfl (fun H locs hP hD hS => ?_)
  obtain ⟨c_36, h⟩ := gd_I h
  refine va_iast hx hb hK' hP hD hS 19 3 rfl rfl c_36 dX7_counted_140 (fun H locs hP hD hS => ?_)
  obtain ⟨N2_37, eN2_37, h⟩ := lt_I h
  have hP : va_P D vwCl (ms cI q o T t ++ (mo cI o (q 0) (u 0) M k ++ (ms cI u o V v ++ ((q_14, ai cA_14 11 N2_37) :: ((q_1, ai cA_1 3 N1z_3) :: rs))))) H := by rw [eN2_37]; exact hP
  have hD : va_D A (ms cI q o T t ++ (mo cI o (q 0) (u 0) M k ++ (ms cI u o V v ++ ((q_14, ai cA_14 11 N2_37) :: ((q_1, ai cA_1 3 N1z_3) :: rs))))) := by rw [eN2_37]; exact hD
  refine lv_dup hx hb dX7_counted_141 rfl ?_
  refine lv_bipush (v := 9) hx hb dX7_counted_142 (by decide) ?_
  refine lv_aload_n hx hb dX7_counted_144 rfl (lv_at hl 0 rfl) ?_
  refine va_get (ci := 10) (v := .int (k 3)) (C := RX7) (T := TX7) (N := 15) hx hb hts hi_X7 hown hK hP 5 rfl rfl 11 (by decide) (hts (.fieldLink RX7 105 "WishWellModel" "purse" "I") (List.mem_of_getElem? (i := 5) rfl)) (fun _ h9 => h9) rfl dX7_counted_145 ?_
  obtain ⟨c_38, h⟩ := gd_I h
  refine va_iast hx hb hK' hP hD hS 19 3 rfl rfl c_38 dX7_counted_148 (fun H locs hP hD hS => ?_)
  obtain ⟨N2_39, eN2_39, h⟩ := lt_I h
  have hP : va_P D vwCl (ms cI q o T t ++ (mo cI o (q 0) (u 0) M k ++ (ms cI u o V v ++ ((q_14, ai cA_14 11 N2_39) :: ((q_1, ai cA_1 3 N1z_3) :: rs))))) H := by rw [eN2_39]; exact hP
  have hD : va_D A (ms cI q o T t ++ (mo cI o (q 0) (u 0) M k ++ (ms cI u o V v ++ ((q_14, ai cA_14 11 N2_39) :: ((q_1, ai cA_1 3 N1z_3) :: rs))))) := by rw [eN2_39]; exact hD
  refine lv_dup hx hb dX7_counted_149 rfl ?_
  refine lv_bipush (v := 10) hx hb dX7_counted_150 (by decide) ?_
  refine lv_aload_n hx hb dX7_counted_152 rfl (lv_at hl 0 rfl) ?_
  refine va_get (ci := 10) (v := .int (k 4)) (C := RX7) (T := TX7) (N := 15) hx hb hts hi_X7 hown hK hP 5 rfl rfl 12 (by decide) (hts (.fieldLink RX7 99 "WishWellModel" "fished" "I") (List.mem_of_getElem? (i := 6) rfl)) (fun _ h9 => h9) rfl dX7_counted_153 ?_
  obtain ⟨c_40, h⟩ := gd_I h
  refine va_iast hx hb hK' hP hD hS 19 3 rfl rfl c_40 dX7_counted_156 (fun H locs hP hD hS => ?_)
  obtain ⟨N2_41, eN2_41, h⟩ := lt_I h
  have hP : va_P D vwCl (ms cI q o T t ++ (mo cI o (q 0) (u 0) M k ++ (ms cI u o V v ++ ((q_14, ai cA_14 11 N2_41) :: ((q_1, ai cA_1 3 N1z_3) :: rs))))) H := by rw [eN2_41]; exact hP
  have hD : va_D A (ms cI q o T t ++ (mo cI o (q 0) (u 0) M k ++ (ms cI u o V v ++ ((q_14, ai cA_14 11 N2_41) :: ((q_1, ai cA_1 3 N1z_3) :: rs))))) := by rw [eN2_41]; exact hD
  refine lv_astore (lv' := [(4, .ref q_14), (0, .ref (o 0)), (1, .int p0), (2, .ref q_1), (3, .int z3_9)]) hx hb dX7_counted_157 hl (by decide) rfl (fun ls hl => ?_)
  refine lv_aload hx hb dX7_counted_159 (lv_at hl 0 rfl) ?_
  refine lv_iload_n hx hb dX7_counted_161 rfl (lv_at hl 2 rfl) ?_
  obtain ⟨c_42, h⟩ := gd_I h
  refine va_iald hx hb hK' hP 19 3 rfl rfl c_42 dX7_counted_162 ?_
  have hP := drop3 hP
  have hP := drop3 hP
  have h0 := o1 h
  exact eI hx hb hr hlk hP hS dX7_counted_163 (Nat.le_of_ble_eq_true rfl) (Nat.le_of_ble_eq_true rfl) h0 rfl
noncomputable def fX7_count (T : Nat → Nat → Int32) (t : Nat → Int32) (M : Nat → Nat → Int32) (k : Nat → Int32) (p0 : Int32) : Option (Int32 × (Nat → Int32)) := lt_ (uS k 0 0) (fun k_1 => if (fX7_isIn p0 0 10) = 0 then (b2 (fX7_no k_1 1) (fun r_3 k_4 => some (r_3, k_4))) else (Option.bind (fX7_counted T t M k_1 p0) (fun r_6 => some (r_6, k_1))))
set_option maxHeartbeats 4000000 in
set_option maxRecDepth 100000 in
theorem c_X7_count (l : Launch) (D : va_G) (cI cJ : ClassId) (q u o : Nat → Nat) (T : Nat → Nat → Int32) (t : Nat → Int32) (M : Nat → Nat → Int32) (k : Nat → Int32) (V : Nat → Nat → Int32) (v : Nat → Int32) (p0 : Int32) (r' : Int32) (k' : Nat → Int32) (rs : va_W) (h : fX7_count T t M k p0 = some (r', k')) : Ci l yX7_count wsX7_count ({ frames := 3, cells := 2, slots := 14, locals := 69 } : Room) D cI cJ ([.ref (o 0), .int p0] : List Value) (ms cI q o T t ++ (mo cI o (q 0) (u 0) M k ++ (ms cI u o V v ++ rs))) r' (ms cI q o T t ++ (mo cI o (q 0) (u 0) M k' ++ (ms cI u o V v ++ rs))) := by
  refine Ci.mk (cc := cX7_count) (maxL := 2) (ret := (some .int)) (by decide) rfl (Nat.le_of_ble_eq_true rfl) ?_
  intro p e s m below meth c A ls B hr hlk hK hN hA hP hD hl
  obtain ⟨hx, hb, hml, hown, hts⟩ := id B
  have hi_X7 : ∀ w ∈ wsX70, w ∈ wsX7_count := fun _ h => List.mem_cons_of_mem _ (List.mem_append_left _ (List.mem_append_left _ (List.mem_append_right _ (h))))
  have hS : va_S A s.heap s.heap [] := va_S.rf
  have hl : lv_has ls 2 [(0, .ref (o 0)), (1, .int p0)] := hl
  unfold fX7_count at h
  refine lv_aload_n hx hb dX7_count_0 rfl (lv_at hl 0 rfl) ?_
  refine lv_iconst (v := 0) hx hb dX7_count_1 (by decide) ?_
  refine va_put (D := D) (ci := 10) (v := .int 0) (ty := .int) (C := RX7) (T := TX7) (N := 15) hx hb hts hi_X7 tyX7 tyX7_ok nmX7 hown hK hP hD hS 5 rfl rfl 0 (by decide) (hts (.fieldLink RX7 46 "WishWellModel" "thrown" "I") (List.mem_of_getElem? (i := 1) rfl)) (fun _ h9 => h9) rfl (by decide +kernel) rfl rfl (Nat.le_of_ble_eq_true rfl) dX7_count_2 (fun H locs hP hD hS => ?_)
  obtain ⟨k_1, ek_1, h⟩ := lt_I h
  have hP : va_P D vwCl (ms cI q o T t ++ (mo cI o (q 0) (u 0) M k_1 ++ (ms cI u o V v ++ rs))) H := by rw [ek_1]; exact hP
  have hD : va_D A (ms cI q o T t ++ (mo cI o (q 0) (u 0) M k_1 ++ (ms cI u o V v ++ rs))) := by rw [ek_1]; exact hD
  refine lv_iload_n hx hb dX7_count_5 rfl (lv_at hl 1 rfl) ?_
  refine lv_iconst (v := 0) hx hb dX7_count_6 (by decide) ?_
  refine lv_bipush (v := 10) hx hb dX7_count_7 (by decide) ?_
  refine kSi (As := [.int p0, .int 0, .int 10]) (rest := []) B hK hN hP hD hS hA (c_X7_isIn l D cI cJ  p0 0 10 (ms cI q o T t ++ (mo cI o (q 0) (u 0) M k_1 ++ (ms cI u o V v ++ rs))) _ rfl) (va_cwS 3 hts gX7_count_X7_isIn rfl rfl rfl (by decide +kernel) ⟨(Nat.le_of_ble_eq_true rfl), (Nat.le_of_ble_eq_true rfl)⟩) rfl hl.1 rfl (Nat.le_of_ble_eq_true rfl) dX7_count_9 ⟨(Nat.le_of_ble_eq_true rfl), (Nat.le_of_ble_eq_true rfl)⟩ rfl (fun H locs hP hD hS => ?_)
  refine lv_if_eq (tgt := 23) hx hb dX7_count_12 (by decide) (fun c_2 => ?_) (fun c_2 => ?_)
  · have h := ip_ h c_2
    refine lv_aload_n hx hb dX7_count_23 rfl (lv_at hl 0 rfl) ?_
    refine lv_iconst (v := 1) hx hb dX7_count_24 (by decide) ?_
    obtain ⟨r_3, k_4, hx_5, h⟩ := b2_I h
    refine kVi (As := [.int 1]) (rest := []) B hK hN hP hD hS hA (c_X7_no l D cI cJ q u o T t M k_1 V v 1 r_3 k_4 rs hx_5) (cwV 1 hts gX7_count_X7_no rfl rfl rfl (by decide +kernel) ⟨(Nat.le_of_ble_eq_true rfl), (Nat.le_of_ble_eq_true rfl)⟩) 10 5 rfl rfl rfl hl.1 rfl (Nat.le_of_ble_eq_true rfl) dX7_count_25 ⟨(Nat.le_of_ble_eq_true rfl), (Nat.le_of_ble_eq_true rfl)⟩ rfl (fun H locs hP hD hS => ?_)
    obtain ⟨h0, h1⟩ := o2 h
    exact eI hx hb hr hlk hP hS dX7_count_28 (Nat.le_of_ble_eq_true rfl) (Nat.le_of_ble_eq_true rfl) h0 (by rw [h1])
  · have h := in_ h c_2
    refine lv_aload_n hx hb dX7_count_15 rfl (lv_at hl 0 rfl) ?_
    refine lv_iload_n hx hb dX7_count_16 rfl (lv_at hl 1 rfl) ?_
    obtain ⟨r_6, hx_7, h⟩ := bd_I h
    refine kVi (As := [.int p0]) (rest := []) B hK hN hP hD hS hA (c_X7_counted l D cI cJ q u o T t M k_1 V v p0 r_6 rs hx_7) (cwV 1 hts gX7_count_X7_counted rfl rfl rfl (by decide +kernel) ⟨(Nat.le_of_ble_eq_true rfl), (Nat.le_of_ble_eq_true rfl)⟩) 10 5 rfl rfl rfl hl.1 rfl (Nat.le_of_ble_eq_true rfl) dX7_count_17 ⟨(Nat.le_of_ble_eq_true rfl), (Nat.le_of_ble_eq_true rfl)⟩ rfl (fun H locs hP hD hS => ?_)
    refine lv_goto (tgt := 28) hx hb dX7_count_20 (by decide) ?_
    obtain ⟨h0, h1⟩ := o2 h
    exact eI hx hb hr hlk hP hS dX7_count_28 (Nat.le_of_ble_eq_true rfl) (Nat.le_of_ble_eq_true rfl) h0 (by rw [h1])
noncomputable def fX7_pass_B25 (M : Nat → Nat → Int32) (p0 : Int32) (k_1 : Nat → Int32) (x2_3 : Int32) (x3_3 : Int32) (T_3 : Nat → Nat → Int32) (t_3 : Nat → Int32) : Option ((Int32 × Int32 × (Nat → Nat → Int32) × (Nat → Int32)) ⊕ (Int32 × Int32 × (Nat → Nat → Int32) × (Nat → Int32))) := if p0 ≤ x3_3 then (some (.inr (x2_3, x3_3, T_3, t_3))) else (b3 (fX6_pass T_3 t_3 M k_1) (fun r_5 T_6 t_7 => if r_5 = 0 then (lt_ (x2_3 + 0) (fun y2_10 => some (.inl (y2_10, x3_3 + 1, T_6, t_7)))) else (lt_ (x2_3 + 1) (fun y2_11 => some (.inl (y2_11, x3_3 + 1, T_6, t_7))))))
noncomputable def fX7_pass (T : Nat → Nat → Int32) (t : Nat → Int32) (M : Nat → Nat → Int32) (k : Nat → Int32) (p0 : Int32) : Option (Int32 × (Nat → Nat → Int32) × (Nat → Int32) × (Nat → Int32)) := lt_ (uS k 0 0) (fun k_1 => if (fX7_isIn p0 1 100) = 0 then (b2 (fX7_no k_1 1) (fun r_12 k_13 => some (r_12, T, t, k_13))) else (b4 (lp (fun s => fX7_pass_B25 M p0 k_1 s.1 s.2.1 s.2.2.1 s.2.2.2) 101 (0, 0, T, t)) (fun z2_3 z3_3 Tz_3 tz_3 => some (z2_3, Tz_3, tz_3, k_1))))
set_option maxHeartbeats 4000000 in
set_option maxRecDepth 100000 in
theorem c_X7_pass (l : Launch) (D : va_G) (cI cJ : ClassId) (q u o : Nat → Nat) (T : Nat → Nat → Int32) (t : Nat → Int32) (M : Nat → Nat → Int32) (k : Nat → Int32) (V : Nat → Nat → Int32) (v : Nat → Int32) (p0 : Int32) (r' : Int32) (T' : Nat → Nat → Int32) (t' : Nat → Int32) (k' : Nat → Int32) (rs : va_W) (h : fX7_pass T t M k p0 = some (r', T', t', k')) : Ci l yX7_pass wsX7_pass ({ frames := 3, cells := 0, slots := 0, locals := 64 } : Room) D cI cJ ([.ref (o 0), .int p0] : List Value) (ms cI q o T t ++ (mo cI o (q 0) (u 0) M k ++ (ms cI u o V v ++ rs))) r' (ms cI q o T' t' ++ (mo cI o (q 0) (u 0) M k' ++ (ms cI u o V v ++ rs))) := by
  refine Ci.mk (cc := cX7_pass) (maxL := 4) (ret := (some .int)) (by decide) rfl (Nat.le_of_ble_eq_true rfl) ?_
  intro p e s m below meth c A ls B hr hlk hK hN hA hP hD hl
  obtain ⟨hx, hb, hml, hown, hts⟩ := id B
  have hi_X7 : ∀ w ∈ wsX70, w ∈ wsX7_pass := fun _ h => List.mem_cons_of_mem _ (List.mem_append_left _ (List.mem_append_left _ (List.mem_append_right _ (h))))
  have hS : va_S A s.heap s.heap [] := va_S.rf
  have hl : lv_has ls 4 [(0, .ref (o 0)), (1, .int p0)] := hl
  unfold fX7_pass at h
  refine lv_aload_n hx hb dX7_pass_0 rfl (lv_at hl 0 rfl) ?_
  refine lv_iconst (v := 0) hx hb dX7_pass_1 (by decide) ?_
  refine va_put (D := D) (ci := 10) (v := .int 0) (ty := .int) (C := RX7) (T := TX7) (N := 15) hx hb hts hi_X7 tyX7 tyX7_ok nmX7 hown hK hP hD hS 5 rfl rfl 0 (by decide) (hts (.fieldLink RX7 46 "WishWellModel" "thrown" "I") (List.mem_of_getElem? (i := 1) rfl)) (fun _ h9 => h9) rfl (by decide +kernel) rfl rfl (Nat.le_of_ble_eq_true rfl) dX7_pass_2 (fun H locs hP hD hS => ?_)
  obtain ⟨k_1, ek_1, h⟩ := lt_I h
  have hP : va_P D vwCl (ms cI q o T t ++ (mo cI o (q 0) (u 0) M k_1 ++ (ms cI u o V v ++ rs))) H := by rw [ek_1]; exact hP
  have hD : va_D A (ms cI q o T t ++ (mo cI o (q 0) (u 0) M k_1 ++ (ms cI u o V v ++ rs))) := by rw [ek_1]; exact hD
  refine lv_iload_n hx hb dX7_pass_5 rfl (lv_at hl 1 rfl) ?_
  refine lv_iconst (v := 1) hx hb dX7_pass_6 (by decide) ?_
  refine lv_bipush (v := 100) hx hb dX7_pass_7 (by decide) ?_
  refine kSi (As := [.int p0, .int 1, .int 100]) (rest := []) B hK hN hP hD hS hA (c_X7_isIn l D cI cJ  p0 1 100 (ms cI q o T t ++ (mo cI o (q 0) (u 0) M k_1 ++ (ms cI u o V v ++ rs))) _ rfl) (va_cwS 3 hts gX7_pass_X7_isIn rfl rfl rfl (by decide +kernel) ⟨(Nat.le_of_ble_eq_true rfl), (Nat.le_of_ble_eq_true rfl)⟩) rfl hl.1 rfl (Nat.le_of_ble_eq_true rfl) dX7_pass_9 ⟨(Nat.le_of_ble_eq_true rfl), (Nat.le_of_ble_eq_true rfl)⟩ rfl (fun H locs hP hD hS => ?_)
  refine lv_if_ne (tgt := 21) hx hb dX7_pass_12 (by decide) (fun c_2 => ?_) (fun c_2 => ?_)
  · have h := in_ h c_2
    refine lv_iconst (v := 0) hx hb dX7_pass_21 (by decide) ?_
    refine lv_istore_n (lv' := [(2, .int 0), (0, .ref (o 0)), (1, .int p0)]) hx hb dX7_pass_22 rfl hl (by decide) rfl (fun ls hl => ?_)
    refine lv_iconst (v := 0) hx hb dX7_pass_23 (by decide) ?_
    refine lv_istore_n (lv' := [(3, .int 0), (2, .int 0), (0, .ref (o 0)), (1, .int p0)]) hx hb dX7_pass_24 rfl hl (by decide) rfl (fun ls hl => ?_)
    have L25_3 : ∀ (n : Nat) (x2_3 : Int32) (x3_3 : Int32) (T_3 : Nat → Nat → Int32) (t_3 : Nat → Int32) (z2_3 : Int32) (z3_3 : Int32) (Tz_3 : Nat → Nat → Int32) (tz_3 : Nat → Int32) (_ : lp (fun s => fX7_pass_B25 M p0 k_1 s.1 s.2.1 s.2.2.1 s.2.2.2) n (x2_3, x3_3, T_3, t_3) = some (z2_3, z3_3, Tz_3, tz_3)) (_ : ∀ (H : Heap) (locs : List Loc) (ls : Array Slot), va_P D vwCl (ms cI q o Tz_3 tz_3 ++ (mo cI o (q 0) (u 0) M k_1 ++ (ms cI u o V v ++ rs))) H → va_D A (ms cI q o Tz_3 tz_3 ++ (mo cI o (q 0) (u 0) M k_1 ++ (ms cI u o V v ++ rs))) → va_S A s.heap H locs → lv_has ls 4 [(0, .ref (o 0)), (1, .int p0), (2, .int z2_3), (3, .int z3_3)] → W p l e (headSpec wsX7_pass ({ frames := 3, cells := 0, slots := 0, locals := 64 } : Room)).room s m ([.ref (o 0), .int p0] : List Value).toArray below meth c H locs (0) (0) (QI below D (ms cI q o T' t' ++ (mo cI o (q 0) (u 0) M k' ++ (ms cI u o V v ++ rs))) r' ([.ref (o 0), .int p0] : List Value).toArray s 0 0 A) (F0 m 54 ls [])) (H : Heap) (locs : List Loc) (ls : Array Slot), va_P D vwCl (ms cI q o T_3 t_3 ++ (mo cI o (q 0) (u 0) M k_1 ++ (ms cI u o V v ++ rs))) H → va_D A (ms cI q o T_3 t_3 ++ (mo cI o (q 0) (u 0) M k_1 ++ (ms cI u o V v ++ rs))) → va_S A s.heap H locs → lv_has ls 4 [(0, .ref (o 0)), (1, .int p0), (2, .int x2_3), (3, .int x3_3)] → W p l e (headSpec wsX7_pass ({ frames := 3, cells := 0, slots := 0, locals := 64 } : Room)).room s m ([.ref (o 0), .int p0] : List Value).toArray below meth c H locs (0) (0) (QI below D (ms cI q o T' t' ++ (mo cI o (q 0) (u 0) M k' ++ (ms cI u o V v ++ rs))) r' ([.ref (o 0), .int p0] : List Value).toArray s 0 0 A) (F0 m 25 ls []) := by
      intro n
      induction n with
      | zero => intro x2_3 x3_3 T_3 t_3 z2_3 z3_3 Tz_3 tz_3 h; exact (lp_0 h).elim
      | succ n ih =>
        intro x2_3 x3_3 T_3 t_3 z2_3 z3_3 Tz_3 tz_3 h kk H locs ls hP hD hS hl
        obtain ⟨z, h, hz⟩ := lp_walk h
        have h : fX7_pass_B25 M p0 k_1 x2_3 x3_3 T_3 t_3 = some z := h
        unfold fX7_pass_B25 at h
        refine lv_iload_n hx hb dX7_pass_25 rfl (lv_at hl 3 rfl) ?_
        refine lv_iload_n hx hb dX7_pass_26 rfl (lv_at hl 1 rfl) ?_
        refine lv_icmp_ge (tgt := 54) hx hb dX7_pass_27 (by decide) (fun c_4 => ?_) (fun c_4 => ?_)
        · have h := ip_ h c_4
          cases lz_e h hz
          exact kk _ _ _ hP hD hS (lv_sub hl [0, 1, 2, 3] rfl)
        · have h := in_ h c_4
          refine lv_iload_n hx hb dX7_pass_30 rfl (lv_at hl 2 rfl) ?_
          refine lv_aload_n hx hb dX7_pass_31 rfl (lv_at hl 0 rfl) ?_
          refine va_get (ci := 10) (v := .ref (q 0)) (C := RX7) (T := TX7) (N := 15) hx hb hts hi_X7 hown hK hP 5 rfl rfl 13 (by decide) (hts (.fieldLink RX7 39 "WishWellModel" "s" "LWishWellModel$State;") (List.mem_of_getElem? (i := 2) rfl)) (fun _ h9 => h9) rfl dX7_pass_32 ?_
          obtain ⟨r_5, T_6, t_7, hx_8, h⟩ := b3_I h
          refine kVi (As := []) (rest := [.int x2_3]) B hK hN hP hD hS hA (c_X6_pass l D cI cJ q o (q 0) (u 0) T_3 t_3 M k_1  r_5 T_6 t_7 (ms cI u o V v ++ rs) hx_8) (cwV 0 hts gX7_pass_X6_pass rfl rfl rfl (by decide +kernel) ⟨(Nat.le_of_ble_eq_true rfl), (Nat.le_of_ble_eq_true rfl)⟩) 9 0 rfl rfl rfl hl.1 rfl (Nat.le_of_ble_eq_true rfl) dX7_pass_35 ⟨(Nat.le_of_ble_eq_true rfl), (Nat.le_of_ble_eq_true rfl)⟩ rfl (fun H locs hP hD hS => ?_)
          refine lv_if_eq (tgt := 45) hx hb dX7_pass_38 (by decide) (fun c_9 => ?_) (fun c_9 => ?_)
          · have h := ip_ h c_9
            refine lv_iconst (v := 0) hx hb dX7_pass_45 (by decide) ?_
            refine lv_iadd hx hb dX7_pass_46 ?_
            obtain ⟨y2_10, ey2_10, h⟩ := lt_I h
            rw [← ey2_10]
            refine lv_istore_n (lv' := [(2, .int y2_10), (0, .ref (o 0)), (1, .int p0), (3, .int x3_3)]) hx hb dX7_pass_47 rfl hl (by decide) rfl (fun ls hl => ?_)
            refine lv_iinc (v := x3_3 + 1) (lv' := [(3, .int (x3_3 + 1)), (2, .int y2_10), (0, .ref (o 0)), (1, .int p0)]) hx hb dX7_pass_48 hl (k := 3) rfl rfl (by decide) rfl (fun ls hl => ?_)
            refine lv_goto (tgt := 25) hx hb dX7_pass_51 (by decide) ?_
            exact ih y2_10 (x3_3 + 1) T_6 t_7 _ _ _ _ (lz_c h hz) kk _ _ _ hP hD hS (lv_sub hl [2, 3, 1, 0] rfl)
          · have h := in_ h c_9
            refine lv_iconst (v := 1) hx hb dX7_pass_41 (by decide) ?_
            refine lv_goto (tgt := 46) hx hb dX7_pass_42 (by decide) ?_
            refine lv_iadd hx hb dX7_pass_46 ?_
            obtain ⟨y2_11, ey2_11, h⟩ := lt_I h
            rw [← ey2_11]
            refine lv_istore_n (lv' := [(2, .int y2_11), (0, .ref (o 0)), (1, .int p0), (3, .int x3_3)]) hx hb dX7_pass_47 rfl hl (by decide) rfl (fun ls hl => ?_)
            refine lv_iinc (v := x3_3 + 1) (lv' := [(3, .int (x3_3 + 1)), (2, .int y2_11), (0, .ref (o 0)), (1, .int p0)]) hx hb dX7_pass_48 hl (k := 3) rfl rfl (by decide) rfl (fun ls hl => ?_)
            refine lv_goto (tgt := 25) hx hb dX7_pass_51 (by decide) ?_
            exact ih y2_11 (x3_3 + 1) T_6 t_7 _ _ _ _ (lz_c h hz) kk _ _ _ hP hD hS (lv_sub hl [2, 3, 1, 0] rfl)
    obtain ⟨z2_3, z3_3, Tz_3, tz_3, hl_3, h⟩ := b4_I h
    refine L25_3 101 0 0 T t z2_3 z3_3 Tz_3 tz_3 hl_3 (fun H locs ls hP hD hS hl => ?_) _ _ _ hP hD hS (lv_sub hl [2, 3, 1, 0] rfl)
    refine lv_iload_n hx hb dX7_pass_54 rfl (lv_at hl 2 rfl) ?_
    obtain ⟨h0, h1, h2, h3⟩ := o4 h
    exact eI hx hb hr hlk hP hS dX7_pass_55 (Nat.le_of_ble_eq_true rfl) (Nat.le_of_ble_eq_true rfl) h0 (by rw [h1, h2, h3])
  · have h := ip_ h c_2
    refine lv_aload_n hx hb dX7_pass_15 rfl (lv_at hl 0 rfl) ?_
    refine lv_iconst (v := 1) hx hb dX7_pass_16 (by decide) ?_
    obtain ⟨r_12, k_13, hx_14, h⟩ := b2_I h
    refine kVi (As := [.int 1]) (rest := []) B hK hN hP hD hS hA (c_X7_no l D cI cJ q u o T t M k_1 V v 1 r_12 k_13 rs hx_14) (cwV 1 hts gX7_pass_X7_no rfl rfl rfl (by decide +kernel) ⟨(Nat.le_of_ble_eq_true rfl), (Nat.le_of_ble_eq_true rfl)⟩) 10 5 rfl rfl rfl hl.1 rfl (Nat.le_of_ble_eq_true rfl) dX7_pass_17 ⟨(Nat.le_of_ble_eq_true rfl), (Nat.le_of_ble_eq_true rfl)⟩ rfl (fun H locs hP hD hS => ?_)
    obtain ⟨h0, h1, h2, h3⟩ := o4 h
    exact eI hx hb hr hlk hP hS dX7_pass_20 (Nat.le_of_ble_eq_true rfl) (Nat.le_of_ble_eq_true rfl) h0 (by rw [h1, h2, h3])
noncomputable def fX7_next (T : Nat → Nat → Int32) (M : Nat → Nat → Int32) (k : Nat → Int32) (p0 : Int32) : Option (Int32 × (Nat → Int32)) := lt_ (uS k 0 0) (fun k_1 => if (fX7_isIn p0 0 3) = 0 then (b2 (fX7_no k_1 1) (fun r_3 k_4 => some (r_3, k_4))) else (Option.bind (fX6_next T M k_1 p0) (fun r_6 => some (r_6, k_1))))
set_option maxHeartbeats 4000000 in
set_option maxRecDepth 100000 in
theorem c_X7_next (l : Launch) (D : va_G) (cI cJ : ClassId) (q u o : Nat → Nat) (T : Nat → Nat → Int32) (t : Nat → Int32) (M : Nat → Nat → Int32) (k : Nat → Int32) (V : Nat → Nat → Int32) (v : Nat → Int32) (p0 : Int32) (r' : Int32) (k' : Nat → Int32) (rs : va_W) (h : fX7_next T M k p0 = some (r', k')) : Ci l yX7_next wsX7_next ({ frames := 1, cells := 0, slots := 0, locals := 23 } : Room) D cI cJ ([.ref (o 0), .int p0] : List Value) (ms cI q o T t ++ (mo cI o (q 0) (u 0) M k ++ (ms cI u o V v ++ rs))) r' (ms cI q o T t ++ (mo cI o (q 0) (u 0) M k' ++ (ms cI u o V v ++ rs))) := by
  refine Ci.mk (cc := cX7_next) (maxL := 2) (ret := (some .int)) (by decide) rfl (Nat.le_of_ble_eq_true rfl) ?_
  intro p e s m below meth c A ls B hr hlk hK hN hA hP hD hl
  obtain ⟨hx, hb, hml, hown, hts⟩ := id B
  have hi_X7 : ∀ w ∈ wsX70, w ∈ wsX7_next := fun _ h => List.mem_cons_of_mem _ (List.mem_append_left _ (List.mem_append_left _ (List.mem_append_right _ (h))))
  have hS : va_S A s.heap s.heap [] := va_S.rf
  have hl : lv_has ls 2 [(0, .ref (o 0)), (1, .int p0)] := hl
  unfold fX7_next at h
  refine lv_aload_n hx hb dX7_next_0 rfl (lv_at hl 0 rfl) ?_
  refine lv_iconst (v := 0) hx hb dX7_next_1 (by decide) ?_
  refine va_put (D := D) (ci := 10) (v := .int 0) (ty := .int) (C := RX7) (T := TX7) (N := 15) hx hb hts hi_X7 tyX7 tyX7_ok nmX7 hown hK hP hD hS 5 rfl rfl 0 (by decide) (hts (.fieldLink RX7 46 "WishWellModel" "thrown" "I") (List.mem_of_getElem? (i := 1) rfl)) (fun _ h9 => h9) rfl (by decide +kernel) rfl rfl (Nat.le_of_ble_eq_true rfl) dX7_next_2 (fun H locs hP hD hS => ?_)
  obtain ⟨k_1, ek_1, h⟩ := lt_I h
  have hP : va_P D vwCl (ms cI q o T t ++ (mo cI o (q 0) (u 0) M k_1 ++ (ms cI u o V v ++ rs))) H := by rw [ek_1]; exact hP
  have hD : va_D A (ms cI q o T t ++ (mo cI o (q 0) (u 0) M k_1 ++ (ms cI u o V v ++ rs))) := by rw [ek_1]; exact hD
  refine lv_iload_n hx hb dX7_next_5 rfl (lv_at hl 1 rfl) ?_
  refine lv_iconst (v := 0) hx hb dX7_next_6 (by decide) ?_
  refine lv_iconst (v := 3) hx hb dX7_next_7 (by decide) ?_
  refine kSi (As := [.int p0, .int 0, .int 3]) (rest := []) B hK hN hP hD hS hA (c_X7_isIn l D cI cJ  p0 0 3 (ms cI q o T t ++ (mo cI o (q 0) (u 0) M k_1 ++ (ms cI u o V v ++ rs))) _ rfl) (va_cwS 3 hts gX7_next_X7_isIn rfl rfl rfl (by decide +kernel) ⟨(Nat.le_of_ble_eq_true rfl), (Nat.le_of_ble_eq_true rfl)⟩) rfl hl.1 rfl (Nat.le_of_ble_eq_true rfl) dX7_next_8 ⟨(Nat.le_of_ble_eq_true rfl), (Nat.le_of_ble_eq_true rfl)⟩ rfl (fun H locs hP hD hS => ?_)
  refine lv_if_eq (tgt := 25) hx hb dX7_next_11 (by decide) (fun c_2 => ?_) (fun c_2 => ?_)
  · have h := ip_ h c_2
    refine lv_aload_n hx hb dX7_next_25 rfl (lv_at hl 0 rfl) ?_
    refine lv_iconst (v := 1) hx hb dX7_next_26 (by decide) ?_
    obtain ⟨r_3, k_4, hx_5, h⟩ := b2_I h
    refine kVi (As := [.int 1]) (rest := []) B hK hN hP hD hS hA (c_X7_no l D cI cJ q u o T t M k_1 V v 1 r_3 k_4 rs hx_5) (cwV 1 hts gX7_next_X7_no rfl rfl rfl (by decide +kernel) ⟨(Nat.le_of_ble_eq_true rfl), (Nat.le_of_ble_eq_true rfl)⟩) 10 5 rfl rfl rfl hl.1 rfl (Nat.le_of_ble_eq_true rfl) dX7_next_27 ⟨(Nat.le_of_ble_eq_true rfl), (Nat.le_of_ble_eq_true rfl)⟩ rfl (fun H locs hP hD hS => ?_)
    obtain ⟨h0, h1⟩ := o2 h
    exact eI hx hb hr hlk hP hS dX7_next_30 (Nat.le_of_ble_eq_true rfl) (Nat.le_of_ble_eq_true rfl) h0 (by rw [h1])
  · have h := in_ h c_2
    refine lv_aload_n hx hb dX7_next_14 rfl (lv_at hl 0 rfl) ?_
    refine va_get (ci := 10) (v := .ref (q 0)) (C := RX7) (T := TX7) (N := 15) hx hb hts hi_X7 hown hK hP 5 rfl rfl 13 (by decide) (hts (.fieldLink RX7 39 "WishWellModel" "s" "LWishWellModel$State;") (List.mem_of_getElem? (i := 2) rfl)) (fun _ h9 => h9) rfl dX7_next_15 ?_
    refine lv_iload_n hx hb dX7_next_18 rfl (lv_at hl 1 rfl) ?_
    obtain ⟨r_6, hx_7, h⟩ := bd_I h
    refine kVi (As := [.int p0]) (rest := []) B hK hN hP hD hS hA (c_X6_next l D cI cJ q o (q 0) (u 0) T t M k_1 p0 r_6 (ms cI u o V v ++ rs) hx_7) (cwV 1 hts gX7_next_X6_next rfl rfl rfl (by decide +kernel) ⟨(Nat.le_of_ble_eq_true rfl), (Nat.le_of_ble_eq_true rfl)⟩) 9 0 rfl rfl rfl hl.1 rfl (Nat.le_of_ble_eq_true rfl) dX7_next_19 ⟨(Nat.le_of_ble_eq_true rfl), (Nat.le_of_ble_eq_true rfl)⟩ rfl (fun H locs hP hD hS => ?_)
    refine lv_goto (tgt := 30) hx hb dX7_next_22 (by decide) ?_
    obtain ⟨h0, h1⟩ := o2 h
    exact eI hx hb hr hlk hP hS dX7_next_30 (Nat.le_of_ble_eq_true rfl) (Nat.le_of_ble_eq_true rfl) h0 (by rw [h1])
noncomputable def fX7_waits_B32 (M : Nat → Nat → Int32) (p0 : Int32) (k_1 : Nat → Int32) (x2_6 : Int32) (V_6 : Nat → Nat → Int32) (v_6 : Nat → Int32) : Option ((Int32 × (Nat → Nat → Int32) × (Nat → Int32)) ⊕ (Int32 × (Nat → Nat → Int32) × (Nat → Int32))) := gd (vp_in p0 24) (if (V_6 2 (Int32.toNatClampNeg p0)) = 0 then (if 200 ≤ x2_6 then (some (.inr (x2_6, V_6, v_6))) else (b3 (fX6_pass V_6 v_6 M k_1) (fun r_10 V_11 v_12 => some (.inl (x2_6 + 1, V_11, v_12))))) else (some (.inr (x2_6, V_6, v_6))))
noncomputable def fX7_waits (T : Nat → Nat → Int32) (t : Nat → Int32) (M : Nat → Nat → Int32) (k : Nat → Int32) (V : Nat → Nat → Int32) (v : Nat → Int32) (p0 : Int32) : Option (Int32 × (Nat → Int32) × (Nat → Nat → Int32) × (Nat → Int32)) := lt_ (uS k 0 0) (fun k_1 => if (fX7_isWish k_1 p0) = 0 then (b2 (fX7_no k_1 1) (fun r_16 k_17 => some (r_16, k_17, V, v))) else (b2 (fX6_become V v T t) (fun V_3 v_4 => b3 (lp (fun s => fX7_waits_B32 M p0 k_1 s.1 s.2.1 s.2.2) 201 (0, V_3, v_4)) (fun z2_6 Vz_6 vz_6 => gd (vp_in p0 24) (if (Vz_6 2 (Int32.toNatClampNeg p0)) = 1 then (some (z2_6, k_1, Vz_6, vz_6)) else (some ((-1), k_1, Vz_6, vz_6)))))))
set_option maxHeartbeats 4000000 in
set_option maxRecDepth 100000 in
theorem c_X7_waits (l : Launch) (D : va_G) (cI cJ : ClassId) (q u o : Nat → Nat) (T : Nat → Nat → Int32) (t : Nat → Int32) (M : Nat → Nat → Int32) (k : Nat → Int32) (V : Nat → Nat → Int32) (v : Nat → Int32) (p0 : Int32) (r' : Int32) (k' : Nat → Int32) (V' : Nat → Nat → Int32) (v' : Nat → Int32) (rs : va_W) (h : fX7_waits T t M k V v p0 = some (r', k', V', v')) : Ci l yX7_waits wsX7_waits ({ frames := 3, cells := 0, slots := 0, locals := 103 } : Room) D cI cJ ([.ref (o 0), .int p0] : List Value) (ms cI q o T t ++ (mo cI o (q 0) (u 0) M k ++ (ms cI u o V v ++ rs))) r' (ms cI q o T t ++ (mo cI o (q 0) (u 0) M k' ++ (ms cI u o V' v' ++ rs))) := by
  refine Ci.mk (cc := cX7_waits) (maxL := 3) (ret := (some .int)) (by decide) rfl (Nat.le_of_ble_eq_true rfl) ?_
  intro p e s m below meth c A ls B hr hlk hK hN hA hP hD hl
  obtain ⟨hx, hb, hml, hown, hts⟩ := id B
  have hi_X6 : ∀ w ∈ wsX60, w ∈ wsX7_waits := fun _ h => List.mem_cons_of_mem _ (List.mem_append_left _ (List.mem_append_right _ (h)))
  have hi_X7 : ∀ w ∈ wsX70, w ∈ wsX7_waits := fun _ h => List.mem_cons_of_mem _ (List.mem_append_left _ (List.mem_append_left _ (List.mem_append_right _ (h))))
  have hS : va_S A s.heap s.heap [] := va_S.rf
  have hl : lv_has ls 3 [(0, .ref (o 0)), (1, .int p0)] := hl
  unfold fX7_waits at h
  refine lv_aload_n hx hb dX7_waits_0 rfl (lv_at hl 0 rfl) ?_
  refine lv_iconst (v := 0) hx hb dX7_waits_1 (by decide) ?_
  refine va_put (D := D) (ci := 10) (v := .int 0) (ty := .int) (C := RX7) (T := TX7) (N := 15) hx hb hts hi_X7 tyX7 tyX7_ok nmX7 hown hK hP hD hS 5 rfl rfl 0 (by decide) (hts (.fieldLink RX7 46 "WishWellModel" "thrown" "I") (List.mem_of_getElem? (i := 1) rfl)) (fun _ h9 => h9) rfl (by decide +kernel) rfl rfl (Nat.le_of_ble_eq_true rfl) dX7_waits_2 (fun H locs hP hD hS => ?_)
  obtain ⟨k_1, ek_1, h⟩ := lt_I h
  have hP : va_P D vwCl (ms cI q o T t ++ (mo cI o (q 0) (u 0) M k_1 ++ (ms cI u o V v ++ rs))) H := by rw [ek_1]; exact hP
  have hD : va_D A (ms cI q o T t ++ (mo cI o (q 0) (u 0) M k_1 ++ (ms cI u o V v ++ rs))) := by rw [ek_1]; exact hD
  refine lv_aload_n hx hb dX7_waits_5 rfl (lv_at hl 0 rfl) ?_
  refine lv_iload_n hx hb dX7_waits_6 rfl (lv_at hl 1 rfl) ?_
  refine kVi (As := [.int p0]) (rest := []) B hK hN hP hD hS hA (c_X7_isWish l D cI cJ q u o T t M k_1 V v p0 rs _ rfl) (cwV 1 hts gX7_waits_X7_isWish rfl rfl rfl (by decide +kernel) ⟨(Nat.le_of_ble_eq_true rfl), (Nat.le_of_ble_eq_true rfl)⟩) 10 5 rfl rfl rfl hl.1 rfl (Nat.le_of_ble_eq_true rfl) dX7_waits_7 ⟨(Nat.le_of_ble_eq_true rfl), (Nat.le_of_ble_eq_true rfl)⟩ rfl (fun H locs hP hD hS => ?_)
  refine lv_if_ne (tgt := 19) hx hb dX7_waits_10 (by decide) (fun c_2 => ?_) (fun c_2 => ?_)
  · have h := in_ h c_2
    refine lv_aload_n hx hb dX7_waits_19 rfl (lv_at hl 0 rfl) ?_
    refine va_get (ci := 10) (v := .ref (u 0)) (C := RX7) (T := TX7) (N := 15) hx hb hts hi_X7 hown hK hP 5 rfl rfl 14 (by decide) (hts (.fieldLink RX7 43 "WishWellModel" "ahead" "LWishWellModel$State;") (List.mem_of_getElem? (i := 2) rfl)) (fun _ h9 => h9) rfl dX7_waits_20 ?_
    refine lv_aload_n hx hb dX7_waits_23 rfl (lv_at hl 0 rfl) ?_
    refine va_get (ci := 10) (v := .ref (q 0)) (C := RX7) (T := TX7) (N := 15) hx hb hts hi_X7 hown hK hP 5 rfl rfl 13 (by decide) (hts (.fieldLink RX7 39 "WishWellModel" "s" "LWishWellModel$State;") (List.mem_of_getElem? (i := 3) rfl)) (fun _ h9 => h9) rfl dX7_waits_24 ?_
    obtain ⟨V_3, v_4, hx_5, h⟩ := b2_I h
    refine kVv (As := [.ref (q 0)]) (rest := []) B hK hN (P_perm (pm3 _ _ _ _) hP) (D_perm (pm3 _ _ _ _) hD) hS hA (c_X6_become l D cI cJ u q o (q 0) (u 0) V v M k_1 T t  V_3 v_4 rs hx_5) (cwV 1 hts gX7_waits_X6_become rfl rfl rfl (by decide +kernel) ⟨(Nat.le_of_ble_eq_true rfl), (Nat.le_of_ble_eq_true rfl)⟩) 9 0 rfl rfl rfl hl.1 rfl (Nat.le_of_ble_eq_true rfl) dX7_waits_27 ⟨(Nat.le_of_ble_eq_true rfl), (Nat.le_of_ble_eq_true rfl)⟩ rfl (fun H locs hP hD hS => ?_)
    have hP := P_perm (pm3 _ _ _ _) hP
    have hD := D_perm (pm3 _ _ _ _) hD
    refine lv_iconst (v := 0) hx hb dX7_waits_30 (by decide) ?_
    refine lv_istore_n (lv' := [(2, .int 0), (0, .ref (o 0)), (1, .int p0)]) hx hb dX7_waits_31 rfl hl (by decide) rfl (fun ls hl => ?_)
    have L32_6 : ∀ (n : Nat) (x2_6 : Int32) (V_6 : Nat → Nat → Int32) (v_6 : Nat → Int32) (z2_6 : Int32) (Vz_6 : Nat → Nat → Int32) (vz_6 : Nat → Int32) (_ : lp (fun s => fX7_waits_B32 M p0 k_1 s.1 s.2.1 s.2.2) n (x2_6, V_6, v_6) = some (z2_6, Vz_6, vz_6)) (_ : ∀ (H : Heap) (locs : List Loc) (ls : Array Slot), va_P D vwCl (ms cI q o T t ++ (mo cI o (q 0) (u 0) M k_1 ++ (ms cI u o Vz_6 vz_6 ++ rs))) H → va_D A (ms cI q o T t ++ (mo cI o (q 0) (u 0) M k_1 ++ (ms cI u o Vz_6 vz_6 ++ rs))) → va_S A s.heap H locs → lv_has ls 3 [(0, .ref (o 0)), (1, .int p0), (2, .int z2_6)] → W p l e (headSpec wsX7_waits ({ frames := 3, cells := 0, slots := 0, locals := 103 } : Room)).room s m ([.ref (o 0), .int p0] : List Value).toArray below meth c H locs (0) (0) (QI below D (ms cI q o T t ++ (mo cI o (q 0) (u 0) M k' ++ (ms cI u o V' v' ++ rs))) r' ([.ref (o 0), .int p0] : List Value).toArray s 0 0 A) (F0 m 65 ls [])) (H : Heap) (locs : List Loc) (ls : Array Slot), va_P D vwCl (ms cI q o T t ++ (mo cI o (q 0) (u 0) M k_1 ++ (ms cI u o V_6 v_6 ++ rs))) H → va_D A (ms cI q o T t ++ (mo cI o (q 0) (u 0) M k_1 ++ (ms cI u o V_6 v_6 ++ rs))) → va_S A s.heap H locs → lv_has ls 3 [(0, .ref (o 0)), (1, .int p0), (2, .int x2_6)] → W p l e (headSpec wsX7_waits ({ frames := 3, cells := 0, slots := 0, locals := 103 } : Room)).room s m ([.ref (o 0), .int p0] : List Value).toArray below meth c H locs (0) (0) (QI below D (ms cI q o T t ++ (mo cI o (q 0) (u 0) M k' ++ (ms cI u o V' v' ++ rs))) r' ([.ref (o 0), .int p0] : List Value).toArray s 0 0 A) (F0 m 32 ls []) := by
      intro n
      induction n with
      | zero => intro x2_6 V_6 v_6 z2_6 Vz_6 vz_6 h; exact (lp_0 h).elim
      | succ n ih =>
        intro x2_6 V_6 v_6 z2_6 Vz_6 vz_6 h kk H locs ls hP hD hS hl
        obtain ⟨z, h, hz⟩ := lp_walk h
        have h : fX7_waits_B32 M p0 k_1 x2_6 V_6 v_6 = some z := h
        unfold fX7_waits_B32 at h
        refine lv_aload_n hx hb dX7_waits_32 rfl (lv_at hl 0 rfl) ?_
        refine va_get (ci := 10) (v := .ref (u 0)) (C := RX7) (T := TX7) (N := 15) hx hb hts hi_X7 hown hK hP 5 rfl rfl 14 (by decide) (hts (.fieldLink RX7 43 "WishWellModel" "ahead" "LWishWellModel$State;") (List.mem_of_getElem? (i := 2) rfl)) (fun _ h9 => h9) rfl dX7_waits_33 ?_
        refine va_getN (own := RX7) (ref := "WishWellModel$State") (host := "WishWellModel") (index := 81) (ci := 9) (v := .ref (u 3)) (C := RX6) (T := TX6) (N := 8) hx hb hts hi_X6 hown hK hP 14 rfl rfl 5 (by decide) (nF_5 hN) (fun _ h9 => h9) rfl dX7_waits_36 ?_
        refine lv_iload_n hx hb dX7_waits_39 rfl (lv_at hl 1 rfl) ?_
        obtain ⟨c_7, h⟩ := gd_I h
        refine va_iald hx hb hK hP 17 0 rfl rfl c_7 dX7_waits_40 ?_
        refine lv_if_ne (tgt := 65) hx hb dX7_waits_41 (by decide) (fun c_8 => ?_) (fun c_8 => ?_)
        · have h := in_ h c_8
          cases lz_e h hz
          exact kk _ _ _ hP hD hS (lv_sub hl [0, 1, 2] rfl)
        · have h := ip_ h c_8
          refine lv_iload_n hx hb dX7_waits_44 rfl (lv_at hl 2 rfl) ?_
          refine lv_sipush (v := 200) hx hb dX7_waits_45 (by decide) ?_
          refine lv_icmp_ge (tgt := 65) hx hb dX7_waits_48 (by decide) (fun c_9 => ?_) (fun c_9 => ?_)
          · have h := ip_ h c_9
            cases lz_e h hz
            exact kk _ _ _ hP hD hS (lv_sub hl [0, 1, 2] rfl)
          · have h := in_ h c_9
            refine lv_aload_n hx hb dX7_waits_51 rfl (lv_at hl 0 rfl) ?_
            refine va_get (ci := 10) (v := .ref (u 0)) (C := RX7) (T := TX7) (N := 15) hx hb hts hi_X7 hown hK hP 5 rfl rfl 14 (by decide) (hts (.fieldLink RX7 43 "WishWellModel" "ahead" "LWishWellModel$State;") (List.mem_of_getElem? (i := 2) rfl)) (fun _ h9 => h9) rfl dX7_waits_52 ?_
            obtain ⟨r_10, V_11, v_12, hx_13, h⟩ := b3_I h
            refine kVi (As := []) (rest := []) B hK hN (P_perm (pm3 _ _ _ _) hP) (D_perm (pm3 _ _ _ _) hD) hS hA (c_X6_pass l D cI cJ u o (q 0) (u 0) V_6 v_6 M k_1  r_10 V_11 v_12 (ms cI q o T t ++ rs) hx_13) (cwV 0 hts gX7_waits_X6_pass rfl rfl rfl (by decide +kernel) ⟨(Nat.le_of_ble_eq_true rfl), (Nat.le_of_ble_eq_true rfl)⟩) 9 0 rfl rfl rfl hl.1 rfl (Nat.le_of_ble_eq_true rfl) dX7_waits_55 ⟨(Nat.le_of_ble_eq_true rfl), (Nat.le_of_ble_eq_true rfl)⟩ rfl (fun H locs hP hD hS => ?_)
            have hP := P_perm (pm3 _ _ _ _) hP
            have hD := D_perm (pm3 _ _ _ _) hD
            refine lv_pop hx hb dX7_waits_58 rfl ?_
            refine lv_iinc (v := x2_6 + 1) (lv' := [(2, .int (x2_6 + 1)), (0, .ref (o 0)), (1, .int p0)]) hx hb dX7_waits_59 hl (k := 2) rfl rfl (by decide) rfl (fun ls hl => ?_)
            refine lv_goto (tgt := 32) hx hb dX7_waits_62 (by decide) ?_
            exact ih (x2_6 + 1) V_11 v_12 _ _ _ (lz_c h hz) kk _ _ _ hP hD hS (lv_sub hl [1, 2, 0] rfl)
    obtain ⟨z2_6, Vz_6, vz_6, hl_6, h⟩ := b3_I h
    refine L32_6 201 0 V_3 v_4 z2_6 Vz_6 vz_6 hl_6 (fun H locs ls hP hD hS hl => ?_) _ _ _ hP hD hS (lv_sub hl [1, 2, 0] rfl)
    refine lv_aload_n hx hb dX7_waits_65 rfl (lv_at hl 0 rfl) ?_
    refine va_get (ci := 10) (v := .ref (u 0)) (C := RX7) (T := TX7) (N := 15) hx hb hts hi_X7 hown hK hP 5 rfl rfl 14 (by decide) (hts (.fieldLink RX7 43 "WishWellModel" "ahead" "LWishWellModel$State;") (List.mem_of_getElem? (i := 2) rfl)) (fun _ h9 => h9) rfl dX7_waits_66 ?_
    refine va_getN (own := RX7) (ref := "WishWellModel$State") (host := "WishWellModel") (index := 81) (ci := 9) (v := .ref (u 3)) (C := RX6) (T := TX6) (N := 8) hx hb hts hi_X6 hown hK hP 14 rfl rfl 5 (by decide) (nF_5 hN) (fun _ h9 => h9) rfl dX7_waits_69 ?_
    refine lv_iload_n hx hb dX7_waits_72 rfl (lv_at hl 1 rfl) ?_
    obtain ⟨c_14, h⟩ := gd_I h
    refine va_iald hx hb hK hP 17 0 rfl rfl c_14 dX7_waits_73 ?_
    refine lv_iconst (v := 1) hx hb dX7_waits_74 (by decide) ?_
    refine lv_icmp_ne (tgt := 82) hx hb dX7_waits_75 (by decide) (fun c_15 => ?_) (fun c_15 => ?_)
    · have h := in_ h c_15
      refine lv_iconst (v := (-1)) hx hb dX7_waits_82 (by decide) ?_
      obtain ⟨h0, h1, h2, h3⟩ := o4 h
      exact eI hx hb hr hlk hP hS dX7_waits_83 (Nat.le_of_ble_eq_true rfl) (Nat.le_of_ble_eq_true rfl) h0 (by rw [h1, h2, h3])
    · have h := ip_ h c_15
      refine lv_iload_n hx hb dX7_waits_78 rfl (lv_at hl 2 rfl) ?_
      refine lv_goto (tgt := 83) hx hb dX7_waits_79 (by decide) ?_
      obtain ⟨h0, h1, h2, h3⟩ := o4 h
      exact eI hx hb hr hlk hP hS dX7_waits_83 (Nat.le_of_ble_eq_true rfl) (Nat.le_of_ble_eq_true rfl) h0 (by rw [h1, h2, h3])
  · have h := ip_ h c_2
    refine lv_aload_n hx hb dX7_waits_13 rfl (lv_at hl 0 rfl) ?_
    refine lv_iconst (v := 1) hx hb dX7_waits_14 (by decide) ?_
    obtain ⟨r_16, k_17, hx_18, h⟩ := b2_I h
    refine kVi (As := [.int 1]) (rest := []) B hK hN hP hD hS hA (c_X7_no l D cI cJ q u o T t M k_1 V v 1 r_16 k_17 rs hx_18) (cwV 1 hts gX7_waits_X7_no rfl rfl rfl (by decide +kernel) ⟨(Nat.le_of_ble_eq_true rfl), (Nat.le_of_ble_eq_true rfl)⟩) 10 5 rfl rfl rfl hl.1 rfl (Nat.le_of_ble_eq_true rfl) dX7_waits_15 ⟨(Nat.le_of_ble_eq_true rfl), (Nat.le_of_ble_eq_true rfl)⟩ rfl (fun H locs hP hD hS => ?_)
    obtain ⟨h0, h1, h2, h3⟩ := o4 h
    exact eI hx hb hr hlk hP hS dX7_waits_18 (Nat.le_of_ble_eq_true rfl) (Nat.le_of_ble_eq_true rfl) h0 (by rw [h1, h2, h3])
noncomputable def fX7_foresee_B49 (M : Nat → Nat → Int32) (p0 : Int32) (k_1 : Nat → Int32) (x3_7 : Int32) (V_7 : Nat → Nat → Int32) (v_7 : Nat → Int32) : Option ((Int32 × (Nat → Nat → Int32) × (Nat → Int32)) ⊕ (Int32 × (Nat → Nat → Int32) × (Nat → Int32))) := if p0 ≤ x3_7 then (some (.inr (x3_7, V_7, v_7))) else (b3 (fX6_pass V_7 v_7 M k_1) (fun r_9 V_10 v_11 => some (.inl (x3_7 + 1, V_10, v_11))))
noncomputable def fX7_foresee (T : Nat → Nat → Int32) (t : Nat → Int32) (M : Nat → Nat → Int32) (k : Nat → Int32) (V : Nat → Nat → Int32) (v : Nat → Int32) (p0 : Int32) (p1 : Int32) : Option (Int32 × (Nat → Int32) × (Nat → Nat → Int32) × (Nat → Int32)) := lt_ (uS k 0 0) (fun k_1 => if (fX7_isIn p0 1 100) = 0 then (b2 (fX7_no k_1 1) (fun r_22 k_23 => some (r_22, k_23, V, v))) else (if (fX7_isIn p1 0 2) = 0 then (b2 (fX7_no k_1 2) (fun r_19 k_20 => some (r_19, k_20, V, v))) else (b2 (fX6_become V v T t) (fun V_4 v_5 => b3 (lp (fun s => fX7_foresee_B49 M p0 k_1 s.1 s.2.1 s.2.2) 101 (0, V_4, v_5)) (fun z3_7 Vz_7 vz_7 => if p1 = 0 then (some (vz_7 1, k_1, Vz_7, vz_7)) else (if p1 = 1 then (Option.bind (fX6_coins Vz_7 4) (fun r_17 => some (r_17, k_1, Vz_7, vz_7))) else (Option.bind (fX6_allWorth Vz_7 M) (fun r_15 => some (r_15, k_1, Vz_7, vz_7)))))))))
set_option maxHeartbeats 4000000 in
set_option maxRecDepth 100000 in
theorem c_X7_foresee (l : Launch) (D : va_G) (cI cJ : ClassId) (q u o : Nat → Nat) (T : Nat → Nat → Int32) (t : Nat → Int32) (M : Nat → Nat → Int32) (k : Nat → Int32) (V : Nat → Nat → Int32) (v : Nat → Int32) (p0 : Int32) (p1 : Int32) (r' : Int32) (k' : Nat → Int32) (V' : Nat → Nat → Int32) (v' : Nat → Int32) (rs : va_W) (h : fX7_foresee T t M k V v p0 p1 = some (r', k', V', v')) : Ci l yX7_foresee wsX7_foresee ({ frames := 3, cells := 0, slots := 0, locals := 103 } : Room) D cI cJ ([.ref (o 0), .int p0, .int p1] : List Value) (ms cI q o T t ++ (mo cI o (q 0) (u 0) M k ++ (ms cI u o V v ++ rs))) r' (ms cI q o T t ++ (mo cI o (q 0) (u 0) M k' ++ (ms cI u o V' v' ++ rs))) := by
  refine Ci.mk (cc := cX7_foresee) (maxL := 4) (ret := (some .int)) (by decide) rfl (Nat.le_of_ble_eq_true rfl) ?_
  intro p e s m below meth c A ls B hr hlk hK hN hA hP hD hl
  obtain ⟨hx, hb, hml, hown, hts⟩ := id B
  have hi_X6 : ∀ w ∈ wsX60, w ∈ wsX7_foresee := fun _ h => List.mem_cons_of_mem _ (List.mem_append_left _ (List.mem_append_right _ (h)))
  have hi_X7 : ∀ w ∈ wsX70, w ∈ wsX7_foresee := fun _ h => List.mem_cons_of_mem _ (List.mem_append_left _ (List.mem_append_left _ (List.mem_append_right _ (h))))
  have hS : va_S A s.heap s.heap [] := va_S.rf
  have hl : lv_has ls 4 [(0, .ref (o 0)), (1, .int p0), (2, .int p1)] := hl
  unfold fX7_foresee at h
  refine lv_aload_n hx hb dX7_foresee_0 rfl (lv_at hl 0 rfl) ?_
  refine lv_iconst (v := 0) hx hb dX7_foresee_1 (by decide) ?_
  refine va_put (D := D) (ci := 10) (v := .int 0) (ty := .int) (C := RX7) (T := TX7) (N := 15) hx hb hts hi_X7 tyX7 tyX7_ok nmX7 hown hK hP hD hS 5 rfl rfl 0 (by decide) (hts (.fieldLink RX7 46 "WishWellModel" "thrown" "I") (List.mem_of_getElem? (i := 1) rfl)) (fun _ h9 => h9) rfl (by decide +kernel) rfl rfl (Nat.le_of_ble_eq_true rfl) dX7_foresee_2 (fun H locs hP hD hS => ?_)
  obtain ⟨k_1, ek_1, h⟩ := lt_I h
  have hP : va_P D vwCl (ms cI q o T t ++ (mo cI o (q 0) (u 0) M k_1 ++ (ms cI u o V v ++ rs))) H := by rw [ek_1]; exact hP
  have hD : va_D A (ms cI q o T t ++ (mo cI o (q 0) (u 0) M k_1 ++ (ms cI u o V v ++ rs))) := by rw [ek_1]; exact hD
  refine lv_iload_n hx hb dX7_foresee_5 rfl (lv_at hl 1 rfl) ?_
  refine lv_iconst (v := 1) hx hb dX7_foresee_6 (by decide) ?_
  refine lv_bipush (v := 100) hx hb dX7_foresee_7 (by decide) ?_
  refine kSi (As := [.int p0, .int 1, .int 100]) (rest := []) B hK hN hP hD hS hA (c_X7_isIn l D cI cJ  p0 1 100 (ms cI q o T t ++ (mo cI o (q 0) (u 0) M k_1 ++ (ms cI u o V v ++ rs))) _ rfl) (va_cwS 3 hts gX7_foresee_X7_isIn rfl rfl rfl (by decide +kernel) ⟨(Nat.le_of_ble_eq_true rfl), (Nat.le_of_ble_eq_true rfl)⟩) rfl hl.1 rfl (Nat.le_of_ble_eq_true rfl) dX7_foresee_9 ⟨(Nat.le_of_ble_eq_true rfl), (Nat.le_of_ble_eq_true rfl)⟩ rfl (fun H locs hP hD hS => ?_)
  refine lv_if_ne (tgt := 21) hx hb dX7_foresee_12 (by decide) (fun c_2 => ?_) (fun c_2 => ?_)
  · have h := in_ h c_2
    refine lv_iload_n hx hb dX7_foresee_21 rfl (lv_at hl 2 rfl) ?_
    refine lv_iconst (v := 0) hx hb dX7_foresee_22 (by decide) ?_
    refine lv_iconst (v := 2) hx hb dX7_foresee_23 (by decide) ?_
    refine kSi (As := [.int p1, .int 0, .int 2]) (rest := []) B hK hN hP hD hS hA (c_X7_isIn l D cI cJ  p1 0 2 (ms cI q o T t ++ (mo cI o (q 0) (u 0) M k_1 ++ (ms cI u o V v ++ rs))) _ rfl) (va_cwS 3 hts gX7_foresee_X7_isIn rfl rfl rfl (by decide +kernel) ⟨(Nat.le_of_ble_eq_true rfl), (Nat.le_of_ble_eq_true rfl)⟩) rfl hl.1 rfl (Nat.le_of_ble_eq_true rfl) dX7_foresee_24 ⟨(Nat.le_of_ble_eq_true rfl), (Nat.le_of_ble_eq_true rfl)⟩ rfl (fun H locs hP hD hS => ?_)
    refine lv_if_ne (tgt := 36) hx hb dX7_foresee_27 (by decide) (fun c_3 => ?_) (fun c_3 => ?_)
    · have h := in_ h c_3
      refine lv_aload_n hx hb dX7_foresee_36 rfl (lv_at hl 0 rfl) ?_
      refine va_get (ci := 10) (v := .ref (u 0)) (C := RX7) (T := TX7) (N := 15) hx hb hts hi_X7 hown hK hP 5 rfl rfl 14 (by decide) (hts (.fieldLink RX7 43 "WishWellModel" "ahead" "LWishWellModel$State;") (List.mem_of_getElem? (i := 2) rfl)) (fun _ h9 => h9) rfl dX7_foresee_37 ?_
      refine lv_aload_n hx hb dX7_foresee_40 rfl (lv_at hl 0 rfl) ?_
      refine va_get (ci := 10) (v := .ref (q 0)) (C := RX7) (T := TX7) (N := 15) hx hb hts hi_X7 hown hK hP 5 rfl rfl 13 (by decide) (hts (.fieldLink RX7 39 "WishWellModel" "s" "LWishWellModel$State;") (List.mem_of_getElem? (i := 3) rfl)) (fun _ h9 => h9) rfl dX7_foresee_41 ?_
      obtain ⟨V_4, v_5, hx_6, h⟩ := b2_I h
      refine kVv (As := [.ref (q 0)]) (rest := []) B hK hN (P_perm (pm3 _ _ _ _) hP) (D_perm (pm3 _ _ _ _) hD) hS hA (c_X6_become l D cI cJ u q o (q 0) (u 0) V v M k_1 T t  V_4 v_5 rs hx_6) (cwV 1 hts gX7_foresee_X6_become rfl rfl rfl (by decide +kernel) ⟨(Nat.le_of_ble_eq_true rfl), (Nat.le_of_ble_eq_true rfl)⟩) 9 0 rfl rfl rfl hl.1 rfl (Nat.le_of_ble_eq_true rfl) dX7_foresee_44 ⟨(Nat.le_of_ble_eq_true rfl), (Nat.le_of_ble_eq_true rfl)⟩ rfl (fun H locs hP hD hS => ?_)
      have hP := P_perm (pm3 _ _ _ _) hP
      have hD := D_perm (pm3 _ _ _ _) hD
      refine lv_iconst (v := 0) hx hb dX7_foresee_47 (by decide) ?_
      refine lv_istore_n (lv' := [(3, .int 0), (0, .ref (o 0)), (1, .int p0), (2, .int p1)]) hx hb dX7_foresee_48 rfl hl (by decide) rfl (fun ls hl => ?_)
      have L49_7 : ∀ (n : Nat) (x3_7 : Int32) (V_7 : Nat → Nat → Int32) (v_7 : Nat → Int32) (z3_7 : Int32) (Vz_7 : Nat → Nat → Int32) (vz_7 : Nat → Int32) (_ : lp (fun s => fX7_foresee_B49 M p0 k_1 s.1 s.2.1 s.2.2) n (x3_7, V_7, v_7) = some (z3_7, Vz_7, vz_7)) (_ : ∀ (H : Heap) (locs : List Loc) (ls : Array Slot), va_P D vwCl (ms cI q o T t ++ (mo cI o (q 0) (u 0) M k_1 ++ (ms cI u o Vz_7 vz_7 ++ rs))) H → va_D A (ms cI q o T t ++ (mo cI o (q 0) (u 0) M k_1 ++ (ms cI u o Vz_7 vz_7 ++ rs))) → va_S A s.heap H locs → lv_has ls 4 [(0, .ref (o 0)), (1, .int p0), (2, .int p1), (3, .int z3_7)] → W p l e (headSpec wsX7_foresee ({ frames := 3, cells := 0, slots := 0, locals := 103 } : Room)).room s m ([.ref (o 0), .int p0, .int p1] : List Value).toArray below meth c H locs (0) (0) (QI below D (ms cI q o T t ++ (mo cI o (q 0) (u 0) M k' ++ (ms cI u o V' v' ++ rs))) r' ([.ref (o 0), .int p0, .int p1] : List Value).toArray s 0 0 A) (F0 m 68 ls [])) (H : Heap) (locs : List Loc) (ls : Array Slot), va_P D vwCl (ms cI q o T t ++ (mo cI o (q 0) (u 0) M k_1 ++ (ms cI u o V_7 v_7 ++ rs))) H → va_D A (ms cI q o T t ++ (mo cI o (q 0) (u 0) M k_1 ++ (ms cI u o V_7 v_7 ++ rs))) → va_S A s.heap H locs → lv_has ls 4 [(0, .ref (o 0)), (1, .int p0), (2, .int p1), (3, .int x3_7)] → W p l e (headSpec wsX7_foresee ({ frames := 3, cells := 0, slots := 0, locals := 103 } : Room)).room s m ([.ref (o 0), .int p0, .int p1] : List Value).toArray below meth c H locs (0) (0) (QI below D (ms cI q o T t ++ (mo cI o (q 0) (u 0) M k' ++ (ms cI u o V' v' ++ rs))) r' ([.ref (o 0), .int p0, .int p1] : List Value).toArray s 0 0 A) (F0 m 49 ls []) := by
        intro n
        induction n with
        | zero => intro x3_7 V_7 v_7 z3_7 Vz_7 vz_7 h; exact (lp_0 h).elim
        | succ n ih =>
          intro x3_7 V_7 v_7 z3_7 Vz_7 vz_7 h kk H locs ls hP hD hS hl
          obtain ⟨z, h, hz⟩ := lp_walk h
          have h : fX7_foresee_B49 M p0 k_1 x3_7 V_7 v_7 = some z := h
          unfold fX7_foresee_B49 at h
          refine lv_iload_n hx hb dX7_foresee_49 rfl (lv_at hl 3 rfl) ?_
          refine lv_iload_n hx hb dX7_foresee_50 rfl (lv_at hl 1 rfl) ?_
          refine lv_icmp_ge (tgt := 68) hx hb dX7_foresee_51 (by decide) (fun c_8 => ?_) (fun c_8 => ?_)
          · have h := ip_ h c_8
            cases lz_e h hz
            exact kk _ _ _ hP hD hS (lv_sub hl [0, 1, 2, 3] rfl)
          · have h := in_ h c_8
            refine lv_aload_n hx hb dX7_foresee_54 rfl (lv_at hl 0 rfl) ?_
            refine va_get (ci := 10) (v := .ref (u 0)) (C := RX7) (T := TX7) (N := 15) hx hb hts hi_X7 hown hK hP 5 rfl rfl 14 (by decide) (hts (.fieldLink RX7 43 "WishWellModel" "ahead" "LWishWellModel$State;") (List.mem_of_getElem? (i := 2) rfl)) (fun _ h9 => h9) rfl dX7_foresee_55 ?_
            obtain ⟨r_9, V_10, v_11, hx_12, h⟩ := b3_I h
            refine kVi (As := []) (rest := []) B hK hN (P_perm (pm3 _ _ _ _) hP) (D_perm (pm3 _ _ _ _) hD) hS hA (c_X6_pass l D cI cJ u o (q 0) (u 0) V_7 v_7 M k_1  r_9 V_10 v_11 (ms cI q o T t ++ rs) hx_12) (cwV 0 hts gX7_foresee_X6_pass rfl rfl rfl (by decide +kernel) ⟨(Nat.le_of_ble_eq_true rfl), (Nat.le_of_ble_eq_true rfl)⟩) 9 0 rfl rfl rfl hl.1 rfl (Nat.le_of_ble_eq_true rfl) dX7_foresee_58 ⟨(Nat.le_of_ble_eq_true rfl), (Nat.le_of_ble_eq_true rfl)⟩ rfl (fun H locs hP hD hS => ?_)
            have hP := P_perm (pm3 _ _ _ _) hP
            have hD := D_perm (pm3 _ _ _ _) hD
            refine lv_pop hx hb dX7_foresee_61 rfl ?_
            refine lv_iinc (v := x3_7 + 1) (lv' := [(3, .int (x3_7 + 1)), (0, .ref (o 0)), (1, .int p0), (2, .int p1)]) hx hb dX7_foresee_62 hl (k := 3) rfl rfl (by decide) rfl (fun ls hl => ?_)
            refine lv_goto (tgt := 49) hx hb dX7_foresee_65 (by decide) ?_
            exact ih (x3_7 + 1) V_10 v_11 _ _ _ (lz_c h hz) kk _ _ _ hP hD hS (lv_sub hl [1, 2, 3, 0] rfl)
      obtain ⟨z3_7, Vz_7, vz_7, hl_7, h⟩ := b3_I h
      refine L49_7 101 0 V_4 v_5 z3_7 Vz_7 vz_7 hl_7 (fun H locs ls hP hD hS hl => ?_) _ _ _ hP hD hS (lv_sub hl [1, 2, 3, 0] rfl)
      refine lv_iload_n hx hb dX7_foresee_68 rfl (lv_at hl 2 rfl) ?_
      refine lv_if_ne (tgt := 82) hx hb dX7_foresee_69 (by decide) (fun c_13 => ?_) (fun c_13 => ?_)
      · have h := in_ h c_13
        refine lv_iload_n hx hb dX7_foresee_82 rfl (lv_at hl 2 rfl) ?_
        refine lv_iconst (v := 1) hx hb dX7_foresee_83 (by decide) ?_
        refine lv_icmp_ne (tgt := 98) hx hb dX7_foresee_84 (by decide) (fun c_14 => ?_) (fun c_14 => ?_)
        · have h := in_ h c_14
          refine lv_aload_n hx hb dX7_foresee_98 rfl (lv_at hl 0 rfl) ?_
          refine va_get (ci := 10) (v := .ref (u 0)) (C := RX7) (T := TX7) (N := 15) hx hb hts hi_X7 hown hK hP 5 rfl rfl 14 (by decide) (hts (.fieldLink RX7 43 "WishWellModel" "ahead" "LWishWellModel$State;") (List.mem_of_getElem? (i := 2) rfl)) (fun _ h9 => h9) rfl dX7_foresee_99 ?_
          obtain ⟨r_15, hx_16, h⟩ := bd_I h
          refine kVi (As := []) (rest := []) B hK hN (P_perm (pm3 _ _ _ _) hP) (D_perm (pm3 _ _ _ _) hD) hS hA (c_X6_allWorth l D cI cJ u o (q 0) (u 0) Vz_7 vz_7 M k_1  r_15 (ms cI q o T t ++ rs) hx_16) (cwV 0 hts gX7_foresee_X6_allWorth rfl rfl rfl (by decide +kernel) ⟨(Nat.le_of_ble_eq_true rfl), (Nat.le_of_ble_eq_true rfl)⟩) 9 0 rfl rfl rfl hl.1 rfl (Nat.le_of_ble_eq_true rfl) dX7_foresee_102 ⟨(Nat.le_of_ble_eq_true rfl), (Nat.le_of_ble_eq_true rfl)⟩ rfl (fun H locs hP hD hS => ?_)
          have hP := P_perm (pm3 _ _ _ _) hP
          have hD := D_perm (pm3 _ _ _ _) hD
          obtain ⟨h0, h1, h2, h3⟩ := o4 h
          exact eI hx hb hr hlk hP hS dX7_foresee_105 (Nat.le_of_ble_eq_true rfl) (Nat.le_of_ble_eq_true rfl) h0 (by rw [h1, h2, h3])
        · have h := ip_ h c_14
          refine lv_aload_n hx hb dX7_foresee_87 rfl (lv_at hl 0 rfl) ?_
          refine va_get (ci := 10) (v := .ref (u 0)) (C := RX7) (T := TX7) (N := 15) hx hb hts hi_X7 hown hK hP 5 rfl rfl 14 (by decide) (hts (.fieldLink RX7 43 "WishWellModel" "ahead" "LWishWellModel$State;") (List.mem_of_getElem? (i := 2) rfl)) (fun _ h9 => h9) rfl dX7_foresee_88 ?_
          refine lv_iconst (v := 4) hx hb dX7_foresee_91 (by decide) ?_
          obtain ⟨r_17, hx_18, h⟩ := bd_I h
          refine kVi (As := [.int 4]) (rest := []) B hK hN (P_perm (pm3 _ _ _ _) hP) (D_perm (pm3 _ _ _ _) hD) hS hA (c_X6_coins l D cI cJ u o (q 0) (u 0) Vz_7 vz_7 M k_1 4 r_17 (ms cI q o T t ++ rs) hx_18) (cwV 1 hts gX7_foresee_X6_coins rfl rfl rfl (by decide +kernel) ⟨(Nat.le_of_ble_eq_true rfl), (Nat.le_of_ble_eq_true rfl)⟩) 9 0 rfl rfl rfl hl.1 rfl (Nat.le_of_ble_eq_true rfl) dX7_foresee_92 ⟨(Nat.le_of_ble_eq_true rfl), (Nat.le_of_ble_eq_true rfl)⟩ rfl (fun H locs hP hD hS => ?_)
          have hP := P_perm (pm3 _ _ _ _) hP
          have hD := D_perm (pm3 _ _ _ _) hD
          refine lv_goto (tgt := 105) hx hb dX7_foresee_95 (by decide) ?_
          obtain ⟨h0, h1, h2, h3⟩ := o4 h
          exact eI hx hb hr hlk hP hS dX7_foresee_105 (Nat.le_of_ble_eq_true rfl) (Nat.le_of_ble_eq_true rfl) h0 (by rw [h1, h2, h3])
      · have h := ip_ h c_13
        refine lv_aload_n hx hb dX7_foresee_72 rfl (lv_at hl 0 rfl) ?_
        refine va_get (ci := 10) (v := .ref (u 0)) (C := RX7) (T := TX7) (N := 15) hx hb hts hi_X7 hown hK hP 5 rfl rfl 14 (by decide) (hts (.fieldLink RX7 43 "WishWellModel" "ahead" "LWishWellModel$State;") (List.mem_of_getElem? (i := 2) rfl)) (fun _ h9 => h9) rfl dX7_foresee_73 ?_
        refine va_getN (own := RX7) (ref := "WishWellModel$State") (host := "WishWellModel") (index := 84) (ci := 9) (v := .int (vz_7 1)) (C := RX6) (T := TX6) (N := 8) hx hb hts hi_X6 hown hK hP 14 rfl rfl 1 (by decide) (nF_1 hN) (fun _ h9 => h9) rfl dX7_foresee_76 ?_
        refine lv_goto (tgt := 105) hx hb dX7_foresee_79 (by decide) ?_
        obtain ⟨h0, h1, h2, h3⟩ := o4 h
        exact eI hx hb hr hlk hP hS dX7_foresee_105 (Nat.le_of_ble_eq_true rfl) (Nat.le_of_ble_eq_true rfl) h0 (by rw [h1, h2, h3])
    · have h := ip_ h c_3
      refine lv_aload_n hx hb dX7_foresee_30 rfl (lv_at hl 0 rfl) ?_
      refine lv_iconst (v := 2) hx hb dX7_foresee_31 (by decide) ?_
      obtain ⟨r_19, k_20, hx_21, h⟩ := b2_I h
      refine kVi (As := [.int 2]) (rest := []) B hK hN hP hD hS hA (c_X7_no l D cI cJ q u o T t M k_1 V v 2 r_19 k_20 rs hx_21) (cwV 1 hts gX7_foresee_X7_no rfl rfl rfl (by decide +kernel) ⟨(Nat.le_of_ble_eq_true rfl), (Nat.le_of_ble_eq_true rfl)⟩) 10 5 rfl rfl rfl hl.1 rfl (Nat.le_of_ble_eq_true rfl) dX7_foresee_32 ⟨(Nat.le_of_ble_eq_true rfl), (Nat.le_of_ble_eq_true rfl)⟩ rfl (fun H locs hP hD hS => ?_)
      obtain ⟨h0, h1, h2, h3⟩ := o4 h
      exact eI hx hb hr hlk hP hS dX7_foresee_35 (Nat.le_of_ble_eq_true rfl) (Nat.le_of_ble_eq_true rfl) h0 (by rw [h1, h2, h3])
  · have h := ip_ h c_2
    refine lv_aload_n hx hb dX7_foresee_15 rfl (lv_at hl 0 rfl) ?_
    refine lv_iconst (v := 1) hx hb dX7_foresee_16 (by decide) ?_
    obtain ⟨r_22, k_23, hx_24, h⟩ := b2_I h
    refine kVi (As := [.int 1]) (rest := []) B hK hN hP hD hS hA (c_X7_no l D cI cJ q u o T t M k_1 V v 1 r_22 k_23 rs hx_24) (cwV 1 hts gX7_foresee_X7_no rfl rfl rfl (by decide +kernel) ⟨(Nat.le_of_ble_eq_true rfl), (Nat.le_of_ble_eq_true rfl)⟩) 10 5 rfl rfl rfl hl.1 rfl (Nat.le_of_ble_eq_true rfl) dX7_foresee_17 ⟨(Nat.le_of_ble_eq_true rfl), (Nat.le_of_ble_eq_true rfl)⟩ rfl (fun H locs hP hD hS => ?_)
    obtain ⟨h0, h1, h2, h3⟩ := o4 h
    exact eI hx hb hr hlk hP hS dX7_foresee_20 (Nat.le_of_ble_eq_true rfl) (Nat.le_of_ble_eq_true rfl) h0 (by rw [h1, h2, h3])
noncomputable def fX7_richest_B11 (T : Nat → Nat → Int32) (M : Nat → Nat → Int32) (x1_2 : Int32) (x2_2 : Int32) (x3_2 : Int32)  : Option ((Int32 × Int32 × Int32) ⊕ (Int32 × Int32 × Int32)) := if 5 ≤ x3_2 then (some (.inr (x1_2, x2_2, x3_2))) else (Option.bind (fX6_worth T M x3_2) (fun r_4 => if x2_2 < r_4 then (Option.bind (fX6_worth T M x3_2) (fun r_7 => some (.inl (x3_2, r_7, x3_2 + 1)))) else (some (.inl (x1_2, x2_2, x3_2 + 1)))))
noncomputable def fX7_richest (T : Nat → Nat → Int32) (M : Nat → Nat → Int32) (k : Nat → Int32) : Option (Int32 × (Nat → Int32)) := lt_ (uS k 0 0) (fun k_1 => b3 (lp (fun s => fX7_richest_B11 T M s.1 s.2.1 s.2.2) 6 ((-1), 0, 0)) (fun z1_2 z2_2 z3_2 => some (z1_2, k_1)))
set_option maxHeartbeats 4000000 in
set_option maxRecDepth 100000 in
theorem c_X7_richest (l : Launch) (D : va_G) (cI cJ : ClassId) (q u o : Nat → Nat) (T : Nat → Nat → Int32) (t : Nat → Int32) (M : Nat → Nat → Int32) (k : Nat → Int32) (V : Nat → Nat → Int32) (v : Nat → Int32) (r' : Int32) (k' : Nat → Int32) (rs : va_W) (h : fX7_richest T M k = some (r', k')) : Ci l yX7_richest wsX7_richest ({ frames := 1, cells := 0, slots := 0, locals := 23 } : Room) D cI cJ ([.ref (o 0)] : List Value) (ms cI q o T t ++ (mo cI o (q 0) (u 0) M k ++ (ms cI u o V v ++ rs))) r' (ms cI q o T t ++ (mo cI o (q 0) (u 0) M k' ++ (ms cI u o V v ++ rs))) := by
  refine Ci.mk (cc := cX7_richest) (maxL := 4) (ret := (some .int)) (by decide) rfl (Nat.le_of_ble_eq_true rfl) ?_
  intro p e s m below meth c A ls B hr hlk hK hN hA hP hD hl
  obtain ⟨hx, hb, hml, hown, hts⟩ := id B
  have hi_X7 : ∀ w ∈ wsX70, w ∈ wsX7_richest := fun _ h => List.mem_cons_of_mem _ (List.mem_append_left _ (List.mem_append_left _ (List.mem_append_right _ (h))))
  have hS : va_S A s.heap s.heap [] := va_S.rf
  have hl : lv_has ls 4 [(0, .ref (o 0))] := hl
  unfold fX7_richest at h
  refine lv_aload_n hx hb dX7_richest_0 rfl (lv_at hl 0 rfl) ?_
  refine lv_iconst (v := 0) hx hb dX7_richest_1 (by decide) ?_
  refine va_put (D := D) (ci := 10) (v := .int 0) (ty := .int) (C := RX7) (T := TX7) (N := 15) hx hb hts hi_X7 tyX7 tyX7_ok nmX7 hown hK hP hD hS 5 rfl rfl 0 (by decide) (hts (.fieldLink RX7 46 "WishWellModel" "thrown" "I") (List.mem_of_getElem? (i := 1) rfl)) (fun _ h9 => h9) rfl (by decide +kernel) rfl rfl (Nat.le_of_ble_eq_true rfl) dX7_richest_2 (fun H locs hP hD hS => ?_)
  obtain ⟨k_1, ek_1, h⟩ := lt_I h
  have hP : va_P D vwCl (ms cI q o T t ++ (mo cI o (q 0) (u 0) M k_1 ++ (ms cI u o V v ++ rs))) H := by rw [ek_1]; exact hP
  have hD : va_D A (ms cI q o T t ++ (mo cI o (q 0) (u 0) M k_1 ++ (ms cI u o V v ++ rs))) := by rw [ek_1]; exact hD
  refine lv_iconst (v := (-1)) hx hb dX7_richest_5 (by decide) ?_
  refine lv_istore_n (lv' := [(1, .int (-1)), (0, .ref (o 0))]) hx hb dX7_richest_6 rfl hl (by decide) rfl (fun ls hl => ?_)
  refine lv_iconst (v := 0) hx hb dX7_richest_7 (by decide) ?_
  refine lv_istore_n (lv' := [(2, .int 0), (1, .int (-1)), (0, .ref (o 0))]) hx hb dX7_richest_8 rfl hl (by decide) rfl (fun ls hl => ?_)
  refine lv_iconst (v := 0) hx hb dX7_richest_9 (by decide) ?_
  refine lv_istore_n (lv' := [(3, .int 0), (2, .int 0), (1, .int (-1)), (0, .ref (o 0))]) hx hb dX7_richest_10 rfl hl (by decide) rfl (fun ls hl => ?_)
  have L11_2 : ∀ (n : Nat) (x1_2 : Int32) (x2_2 : Int32) (x3_2 : Int32)  (z1_2 : Int32) (z2_2 : Int32) (z3_2 : Int32)  (_ : lp (fun s => fX7_richest_B11 T M s.1 s.2.1 s.2.2) n (x1_2, x2_2, x3_2) = some (z1_2, z2_2, z3_2)) (_ : ∀ (H : Heap) (locs : List Loc) (ls : Array Slot), va_P D vwCl (ms cI q o T t ++ (mo cI o (q 0) (u 0) M k_1 ++ (ms cI u o V v ++ rs))) H → va_D A (ms cI q o T t ++ (mo cI o (q 0) (u 0) M k_1 ++ (ms cI u o V v ++ rs))) → va_S A s.heap H locs → lv_has ls 4 [(0, .ref (o 0)), (1, .int z1_2), (2, .int z2_2), (3, .int z3_2)] → W p l e (headSpec wsX7_richest ({ frames := 1, cells := 0, slots := 0, locals := 23 } : Room)).room s m ([.ref (o 0)] : List Value).toArray below meth c H locs (0) (0) (QI below D (ms cI q o T t ++ (mo cI o (q 0) (u 0) M k' ++ (ms cI u o V v ++ rs))) r' ([.ref (o 0)] : List Value).toArray s 0 0 A) (F0 m 48 ls [])) (H : Heap) (locs : List Loc) (ls : Array Slot), va_P D vwCl (ms cI q o T t ++ (mo cI o (q 0) (u 0) M k_1 ++ (ms cI u o V v ++ rs))) H → va_D A (ms cI q o T t ++ (mo cI o (q 0) (u 0) M k_1 ++ (ms cI u o V v ++ rs))) → va_S A s.heap H locs → lv_has ls 4 [(0, .ref (o 0)), (1, .int x1_2), (2, .int x2_2), (3, .int x3_2)] → W p l e (headSpec wsX7_richest ({ frames := 1, cells := 0, slots := 0, locals := 23 } : Room)).room s m ([.ref (o 0)] : List Value).toArray below meth c H locs (0) (0) (QI below D (ms cI q o T t ++ (mo cI o (q 0) (u 0) M k' ++ (ms cI u o V v ++ rs))) r' ([.ref (o 0)] : List Value).toArray s 0 0 A) (F0 m 11 ls []) := by
    intro n
    induction n with
    | zero => intro x1_2 x2_2 x3_2 z1_2 z2_2 z3_2 h; exact (lp_0 h).elim
    | succ n ih =>
      intro x1_2 x2_2 x3_2 z1_2 z2_2 z3_2 h kk H locs ls hP hD hS hl
      obtain ⟨z, h, hz⟩ := lp_walk h
      have h : fX7_richest_B11 T M x1_2 x2_2 x3_2 = some z := h
      unfold fX7_richest_B11 at h
      refine lv_iload_n hx hb dX7_richest_11 rfl (lv_at hl 3 rfl) ?_
      refine lv_iconst (v := 5) hx hb dX7_richest_12 (by decide) ?_
      refine lv_icmp_ge (tgt := 48) hx hb dX7_richest_13 (by decide) (fun c_3 => ?_) (fun c_3 => ?_)
      · have h := ip_ h c_3
        cases lz_e h hz
        exact kk _ _ _ hP hD hS (lv_sub hl [0, 1, 2, 3] rfl)
      · have h := in_ h c_3
        refine lv_aload_n hx hb dX7_richest_16 rfl (lv_at hl 0 rfl) ?_
        refine va_get (ci := 10) (v := .ref (q 0)) (C := RX7) (T := TX7) (N := 15) hx hb hts hi_X7 hown hK hP 5 rfl rfl 13 (by decide) (hts (.fieldLink RX7 39 "WishWellModel" "s" "LWishWellModel$State;") (List.mem_of_getElem? (i := 2) rfl)) (fun _ h9 => h9) rfl dX7_richest_17 ?_
        refine lv_iload_n hx hb dX7_richest_20 rfl (lv_at hl 3 rfl) ?_
        obtain ⟨r_4, hx_5, h⟩ := bd_I h
        refine kVi (As := [.int x3_2]) (rest := []) B hK hN hP hD hS hA (c_X6_worth l D cI cJ q o (q 0) (u 0) T t M k_1 x3_2 r_4 (ms cI u o V v ++ rs) hx_5) (cwV 1 hts gX7_richest_X6_worth rfl rfl rfl (by decide +kernel) ⟨(Nat.le_of_ble_eq_true rfl), (Nat.le_of_ble_eq_true rfl)⟩) 9 0 rfl rfl rfl hl.1 rfl (Nat.le_of_ble_eq_true rfl) dX7_richest_21 ⟨(Nat.le_of_ble_eq_true rfl), (Nat.le_of_ble_eq_true rfl)⟩ rfl (fun H locs hP hD hS => ?_)
        refine lv_iload_n hx hb dX7_richest_24 rfl (lv_at hl 2 rfl) ?_
        refine lv_icmp_gt (tgt := 31) hx hb dX7_richest_25 (by decide) (fun c_6 => ?_) (fun c_6 => ?_)
        · have h := ip_ h c_6
          refine lv_aload_n hx hb dX7_richest_31 rfl (lv_at hl 0 rfl) ?_
          refine va_get (ci := 10) (v := .ref (q 0)) (C := RX7) (T := TX7) (N := 15) hx hb hts hi_X7 hown hK hP 5 rfl rfl 13 (by decide) (hts (.fieldLink RX7 39 "WishWellModel" "s" "LWishWellModel$State;") (List.mem_of_getElem? (i := 2) rfl)) (fun _ h9 => h9) rfl dX7_richest_32 ?_
          refine lv_iload_n hx hb dX7_richest_35 rfl (lv_at hl 3 rfl) ?_
          obtain ⟨r_7, hx_8, h⟩ := bd_I h
          refine kVi (As := [.int x3_2]) (rest := []) B hK hN hP hD hS hA (c_X6_worth l D cI cJ q o (q 0) (u 0) T t M k_1 x3_2 r_7 (ms cI u o V v ++ rs) hx_8) (cwV 1 hts gX7_richest_X6_worth rfl rfl rfl (by decide +kernel) ⟨(Nat.le_of_ble_eq_true rfl), (Nat.le_of_ble_eq_true rfl)⟩) 9 0 rfl rfl rfl hl.1 rfl (Nat.le_of_ble_eq_true rfl) dX7_richest_36 ⟨(Nat.le_of_ble_eq_true rfl), (Nat.le_of_ble_eq_true rfl)⟩ rfl (fun H locs hP hD hS => ?_)
          refine lv_istore_n (lv' := [(2, .int r_7), (0, .ref (o 0)), (1, .int x1_2), (3, .int x3_2)]) hx hb dX7_richest_39 rfl hl (by decide) rfl (fun ls hl => ?_)
          refine lv_iload_n hx hb dX7_richest_40 rfl (lv_at hl 3 rfl) ?_
          refine lv_istore_n (lv' := [(1, .int x3_2), (2, .int r_7), (0, .ref (o 0)), (3, .int x3_2)]) hx hb dX7_richest_41 rfl hl (by decide) rfl (fun ls hl => ?_)
          refine lv_iinc (v := x3_2 + 1) (lv' := [(3, .int (x3_2 + 1)), (1, .int x3_2), (2, .int r_7), (0, .ref (o 0))]) hx hb dX7_richest_42 hl (k := 3) rfl rfl (by decide) rfl (fun ls hl => ?_)
          refine lv_goto (tgt := 11) hx hb dX7_richest_45 (by decide) ?_
          exact ih x3_2 r_7 (x3_2 + 1) _ _ _ (lz_c h hz) kk _ _ _ hP hD hS (lv_sub hl [3, 1, 2, 0] rfl)
        · have h := in_ h c_6
          refine lv_goto (tgt := 42) hx hb dX7_richest_28 (by decide) ?_
          refine lv_iinc (v := x3_2 + 1) (lv' := [(3, .int (x3_2 + 1)), (0, .ref (o 0)), (1, .int x1_2), (2, .int x2_2)]) hx hb dX7_richest_42 hl (k := 3) rfl rfl (by decide) rfl (fun ls hl => ?_)
          refine lv_goto (tgt := 11) hx hb dX7_richest_45 (by decide) ?_
          exact ih x1_2 x2_2 (x3_2 + 1) _ _ _ (lz_c h hz) kk _ _ _ hP hD hS (lv_sub hl [1, 2, 3, 0] rfl)
  obtain ⟨z1_2, z2_2, z3_2, hl_2, h⟩ := b3_I h
  refine L11_2 6 (-1) 0 0  z1_2 z2_2 z3_2 hl_2 (fun H locs ls hP hD hS hl => ?_) _ _ _ hP hD hS (lv_sub hl [3, 2, 1, 0] rfl)
  refine lv_iload_n hx hb dX7_richest_48 rfl (lv_at hl 1 rfl) ?_
  obtain ⟨h0, h1⟩ := o2 h
  exact eI hx hb hr hlk hP hS dX7_richest_49 (Nat.le_of_ble_eq_true rfl) (Nat.le_of_ble_eq_true rfl) h0 (by rw [h1])
noncomputable def fX7_change_B70 (M : Nat → Nat → Int32) (p0 : Int32) (x3_8 : Int32) (x5_12 : Int32) (r_10 : Int32) (x6_14 : Int32) (N1_14 : Nat → Int32) : Option ((Int32 × (Nat → Int32)) ⊕ (Int32 × (Nat → Int32))) := if r_10 < x6_14 then (some (.inr (x6_14, N1_14))) else (gd (vp_in x3_8 6) (if x5_12 < (x6_14 * (M 0 (Int32.toNatClampNeg x3_8))) then (some (.inr (x6_14, N1_14))) else (gd (vp_in x5_12 (Int32.toNatClampNeg (p0 + 1))) (gd (vp_in x3_8 6) (gd (vp_in (x5_12 - (x6_14 * (M 0 (Int32.toNatClampNeg x3_8)))) (Int32.toNatClampNeg (p0 + 1))) (gd (vp_in x5_12 (Int32.toNatClampNeg (p0 + 1))) (lt_ (upd N1_14 (Int32.toNatClampNeg x5_12) (if ((N1_14 (Int32.toNatClampNeg (x5_12 - (x6_14 * (M 0 (Int32.toNatClampNeg x3_8)))))) + x6_14) < (N1_14 (Int32.toNatClampNeg x5_12)) then (N1_14 (Int32.toNatClampNeg (x5_12 - (x6_14 * (M 0 (Int32.toNatClampNeg x3_8)))))) + x6_14 else N1_14 (Int32.toNatClampNeg x5_12))) (fun N1_22 => some (.inl (x6_14 + 1, N1_22))))))))))
noncomputable def fX7_change_B62 (M : Nat → Nat → Int32) (p0 : Int32) (x3_8 : Int32) (r_10 : Int32) (x5_12 : Int32) (N1_12 : Nat → Int32) : Option ((Int32 × (Nat → Int32)) ⊕ (Int32 × (Nat → Int32))) := if x5_12 ≤ 0 then (some (.inr (x5_12, N1_12))) else (b2 (lp (fun s => fX7_change_B70 M p0 x3_8 x5_12 r_10 s.1 s.2) 302 (1, N1_12)) (fun z6_14 N1z_14 => some (.inl (x5_12 + (-1), N1z_14))))
noncomputable def fX7_change_B41 (T : Nat → Nat → Int32) (M : Nat → Nat → Int32) (p0 : Int32) (k_1 : Nat → Int32) (x3_8 : Int32) (N1_8 : Nat → Int32) : Option ((Int32 × (Nat → Int32)) ⊕ (Int32 × (Nat → Int32))) := if (k_1 1) ≤ x3_8 then (some (.inr (x3_8, N1_8))) else (Option.bind (fX6_all T x3_8) (fun r_10 => b2 (lp (fun s => fX7_change_B62 M p0 x3_8 r_10 s.1 s.2) 302 (p0, N1_8)) (fun z5_12 N1z_12 => some (.inl (x3_8 + 1, N1z_12)))))
noncomputable def fX7_change (T : Nat → Nat → Int32) (M : Nat → Nat → Int32) (k : Nat → Int32) (p0 : Int32) : Option (Int32 × (Nat → Int32)) := lt_ (uS k 0 0) (fun k_1 => if (fX7_isIn p0 1 300) = 0 then (b2 (fX7_no k_1 1) (fun r_26 k_27 => some (r_26, k_27))) else (gd (¬ (p0 + 1) < 0 ∧ Int32.toNatClampNeg (p0 + 1) ≤ 301) (lt_ (fun _ => 0 : Nat → Int32) (fun N1_5 => gd (¬ (1 : Int32) < 0 ∧ (1 : Int32) ≤ (p0 + 1) ∧ (p0 + 1) ≤ nI (Int32.toNatClampNeg (p0 + 1)) ∧ Int32.toNatClampNeg (p0 + 1) < 2 ^ 31) (lt_ (flF N1_5 1 (p0 + 1) 999) (fun N1_7 => b2 (lp (fun s => fX7_change_B41 T M p0 k_1 s.1 s.2) 7 (0, N1_7)) (fun z3_8 N1z_8 => gd (vp_in p0 (Int32.toNatClampNeg (p0 + 1))) (if 999 ≤ (N1z_8 (Int32.toNatClampNeg p0)) then (some ((-1), k_1)) else (gd (vp_in p0 (Int32.toNatClampNeg (p0 + 1))) (some (N1z_8 (Int32.toNatClampNeg p0), k_1)))))))))))
set_option maxHeartbeats 4000000 in
set_option maxRecDepth 100000 in
theorem c_X7_change (l : Launch) (D : va_G) (cI cJ : ClassId) (q u o : Nat → Nat) (T : Nat → Nat → Int32) (t : Nat → Int32) (M : Nat → Nat → Int32) (k : Nat → Int32) (V : Nat → Nat → Int32) (v : Nat → Int32) (p0 : Int32) (r' : Int32) (k' : Nat → Int32) (rs : va_W) (h : fX7_change T M k p0 = some (r', k')) : Ci l yX7_change wsX7_change ({ frames := 2, cells := 1, slots := 301, locals := 46 } : Room) D cI cJ ([.ref (o 0), .int p0] : List Value) (ms cI q o T t ++ (mo cI o (q 0) (u 0) M k ++ (ms cI u o V v ++ rs))) r' (ms cI q o T t ++ (mo cI o (q 0) (u 0) M k' ++ (ms cI u o V v ++ rs))) := by
  refine Ci.mk (cc := cX7_change) (maxL := 7) (ret := (some .int)) (by decide) rfl (Nat.le_of_ble_eq_true rfl) ?_
  intro p e s m below meth c A ls B hr hlk hK hN hA hP hD hl
  obtain ⟨hx, hb, hml, hown, hts⟩ := id B
  have hi_X7 : ∀ w ∈ wsX70, w ∈ wsX7_change := fun _ h => List.mem_cons_of_mem _ (List.mem_append_left _ (List.mem_append_left _ (List.mem_append_left _ (List.mem_append_left _ (List.mem_append_right _ (h))))))
  have hS : va_S A s.heap s.heap [] := va_S.rf
  have hl : lv_has ls 7 [(0, .ref (o 0)), (1, .int p0)] := hl
  unfold fX7_change at h
  refine lv_aload_n hx hb dX7_change_0 rfl (lv_at hl 0 rfl) ?_
  refine lv_iconst (v := 0) hx hb dX7_change_1 (by decide) ?_
  refine va_put (D := D) (ci := 10) (v := .int 0) (ty := .int) (C := RX7) (T := TX7) (N := 15) hx hb hts hi_X7 tyX7 tyX7_ok nmX7 hown hK hP hD hS 5 rfl rfl 0 (by decide) (hts (.fieldLink RX7 46 "WishWellModel" "thrown" "I") (List.mem_of_getElem? (i := 1) rfl)) (fun _ h9 => h9) rfl (by decide +kernel) rfl rfl (Nat.le_of_ble_eq_true rfl) dX7_change_2 (fun H locs hP hD hS => ?_)
  obtain ⟨k_1, ek_1, h⟩ := lt_I h
  have hP : va_P D vwCl (ms cI q o T t ++ (mo cI o (q 0) (u 0) M k_1 ++ (ms cI u o V v ++ rs))) H := by rw [ek_1]; exact hP
  have hD : va_D A (ms cI q o T t ++ (mo cI o (q 0) (u 0) M k_1 ++ (ms cI u o V v ++ rs))) := by rw [ek_1]; exact hD
  refine lv_iload_n hx hb dX7_change_5 rfl (lv_at hl 1 rfl) ?_
  refine lv_iconst (v := 1) hx hb dX7_change_6 (by decide) ?_
  refine lv_sipush (v := 300) hx hb dX7_change_7 (by decide) ?_
  refine kSi (As := [.int p0, .int 1, .int 300]) (rest := []) B hK hN hP hD hS hA (c_X7_isIn l D cI cJ  p0 1 300 (ms cI q o T t ++ (mo cI o (q 0) (u 0) M k_1 ++ (ms cI u o V v ++ rs))) _ rfl) (va_cwS 3 hts gX7_change_X7_isIn rfl rfl rfl (by decide +kernel) ⟨(Nat.le_of_ble_eq_true rfl), (Nat.le_of_ble_eq_true rfl)⟩) rfl hl.1 rfl (Nat.le_of_ble_eq_true rfl) dX7_change_10 ⟨(Nat.le_of_ble_eq_true rfl), (Nat.le_of_ble_eq_true rfl)⟩ rfl (fun H locs hP hD hS => ?_)
  refine lv_if_ne (tgt := 22) hx hb dX7_change_13 (by decide) (fun c_2 => ?_) (fun c_2 => ?_)
  · have h := in_ h c_2
    refine lv_iload_n hx hb dX7_change_22 rfl (lv_at hl 1 rfl) ?_
    refine lv_iconst (v := 1) hx hb dX7_change_23 (by decide) ?_
    refine lv_iadd hx hb dX7_change_24 ?_
    obtain ⟨c_4, h⟩ := gd_I h
    refine va_newa (atype := .int) (n := p0 + 1) (N' := Int32.toNatClampNeg (p0 + 1)) (a0 := (Int32.toNatClampNeg (p0 + 1), .inl (fun _ => 0))) hx hb (hts (.arrayClass .int) (List.mem_of_getElem? (i := 2) rfl)) rfl hK hP hD hS hA (fun cA => rfl) c_4.1 rfl (Nat.le_trans (Nat.mul_le_mul_right _ c_4.2) (by decide)) (Nat.le_of_ble_eq_true rfl) (Nat.le_trans (Nat.add_le_add_left c_4.2 _) (Nat.le_of_ble_eq_true rfl)) dX7_change_25 (fun q_3 cA_3 H hK' hP hD hS => ?_)
    refine W.widen (k := 1) (n := 301) (Nat.le_refl _) (by show 0 + _ ≤ 301; rw [Nat.zero_add]; exact c_4.2) ?_
    have hP : va_P D vwCl (ms cI q o T t ++ (mo cI o (q 0) (u 0) M k_1 ++ (ms cI u o V v ++ ((q_3, ai cA_3 (Int32.toNatClampNeg (p0 + 1)) (fun _ => 0)) :: rs)))) H := P_perm (pmx3 _ _ _ _ _) hP
    have hD : va_D A (ms cI q o T t ++ (mo cI o (q 0) (u 0) M k_1 ++ (ms cI u o V v ++ ((q_3, ai cA_3 (Int32.toNatClampNeg (p0 + 1)) (fun _ => 0)) :: rs)))) := D_perm (pmx3 _ _ _ _ _) hD
    obtain ⟨N1_5, eN1_5, h⟩ := lt_I h
    have hP : va_P D vwCl (ms cI q o T t ++ (mo cI o (q 0) (u 0) M k_1 ++ (ms cI u o V v ++ ((q_3, ai cA_3 (Int32.toNatClampNeg (p0 + 1)) N1_5) :: rs)))) H := by rw [eN1_5]; exact hP
    have hD : va_D A (ms cI q o T t ++ (mo cI o (q 0) (u 0) M k_1 ++ (ms cI u o V v ++ ((q_3, ai cA_3 (Int32.toNatClampNeg (p0 + 1)) N1_5) :: rs)))) := by rw [eN1_5]; exact hD
    refine lv_astore_n (lv' := [(2, .ref q_3), (0, .ref (o 0)), (1, .int p0)]) hx hb dX7_change_27 rfl hl (by decide) rfl (fun ls hl => ?_)
    refine lv_aload_n hx hb dX7_change_28 rfl (lv_at hl 0 rfl) ?_
    refine lv_iconst (v := 1) hx hb dX7_change_29 (by decide) ?_
    refine lv_iload_n hx hb dX7_change_30 rfl (lv_at hl 2 rfl) ?_
    refine lv_iconst (v := 1) hx hb dX7_change_31 (by decide) ?_
    refine lv_iadd hx hb dX7_change_32 ?_
    refine lv_sipush (v := 999) hx hb dX7_change_33 (by decide) ?_
    obtain ⟨c_6, h⟩ := gd_I h
    refine kSv (As := [.ref q_3, .int 1, .int (p0 + 1), .int 999]) (rest := []) B (hK'.sub (tys' := tyL cA_3 cJ) [2, 1] rfl) hN hP hD hS hA (c_J7_fill l D cA_3 cJ _ (ms cI q o T t ++ (mo cI o (q 0) (u 0) M k_1 ++ (ms cI u o V v ++ ((q_3, ai cA_3 (Int32.toNatClampNeg (p0 + 1)) (flF N1_5 1 (p0 + 1) 999)) :: rs)))) _ (Int32.toNatClampNeg (p0 + 1)) N1_5 19 rfl c_6.2.2.2 1 (p0 + 1) 999 c_6.1 c_6.2.1 c_6.2.2.1 rfl) (va_cwS 4 hts gX7_change_J7_fill_fda19 rfl rfl rfl (by decide +kernel) ⟨(Nat.le_of_ble_eq_true rfl), (Nat.le_of_ble_eq_true rfl)⟩) rfl hl.1 rfl (Nat.le_of_ble_eq_true rfl) dX7_change_36 ⟨(Nat.le_of_ble_eq_true rfl), (Nat.le_of_ble_eq_true rfl)⟩ rfl (fun H locs hP hD hS => ?_)
    obtain ⟨N1_7, eN1_7, h⟩ := lt_I h
    have hP : va_P D vwCl (ms cI q o T t ++ (mo cI o (q 0) (u 0) M k_1 ++ (ms cI u o V v ++ ((q_3, ai cA_3 (Int32.toNatClampNeg (p0 + 1)) N1_7) :: rs)))) H := by rw [eN1_7]; exact hP
    have hD : va_D A (ms cI q o T t ++ (mo cI o (q 0) (u 0) M k_1 ++ (ms cI u o V v ++ ((q_3, ai cA_3 (Int32.toNatClampNeg (p0 + 1)) N1_7) :: rs)))) := by rw [eN1_7]; exact hD
    refine lv_iconst (v := 0) hx hb dX7_change_39 (by decide) ?_
    refine lv_istore_n (lv' := [(3, .int 0), (2, .ref q_3), (0, .ref (o 0)), (1, .int p0)]) hx hb dX7_change_40 rfl hl (by decide) rfl (fun ls hl => ?_)
    have L41_8 : ∀ (n : Nat) (x3_8 : Int32) (N1_8 : Nat → Int32) (z3_8 : Int32) (N1z_8 : Nat → Int32) (_ : lp (fun s => fX7_change_B41 T M p0 k_1 s.1 s.2) n (x3_8, N1_8) = some (z3_8, N1z_8)) (_ : ∀ (H : Heap) (locs : List Loc) (ls : Array Slot), va_P D vwCl (ms cI q o T t ++ (mo cI o (q 0) (u 0) M k_1 ++ (ms cI u o V v ++ ((q_3, ai cA_3 (Int32.toNatClampNeg (p0 + 1)) N1z_8) :: rs)))) H → va_D A (ms cI q o T t ++ (mo cI o (q 0) (u 0) M k_1 ++ (ms cI u o V v ++ ((q_3, ai cA_3 (Int32.toNatClampNeg (p0 + 1)) N1z_8) :: rs)))) → va_S A s.heap H locs → lv_has ls 7 [(0, .ref (o 0)), (1, .int p0), (2, .ref q_3), (3, .int z3_8)] → W p l e (headSpec wsX7_change ({ frames := 2, cells := 1, slots := 301, locals := 46 } : Room)).room s m ([.ref (o 0), .int p0] : List Value).toArray below meth c H locs (1) (301) (QI below D (ms cI q o T t ++ (mo cI o (q 0) (u 0) M k' ++ (ms cI u o V v ++ rs))) r' ([.ref (o 0), .int p0] : List Value).toArray s 1 301 A) (F0 m 137 ls [])) (H : Heap) (locs : List Loc) (ls : Array Slot), va_P D vwCl (ms cI q o T t ++ (mo cI o (q 0) (u 0) M k_1 ++ (ms cI u o V v ++ ((q_3, ai cA_3 (Int32.toNatClampNeg (p0 + 1)) N1_8) :: rs)))) H → va_D A (ms cI q o T t ++ (mo cI o (q 0) (u 0) M k_1 ++ (ms cI u o V v ++ ((q_3, ai cA_3 (Int32.toNatClampNeg (p0 + 1)) N1_8) :: rs)))) → va_S A s.heap H locs → lv_has ls 7 [(0, .ref (o 0)), (1, .int p0), (2, .ref q_3), (3, .int x3_8)] → W p l e (headSpec wsX7_change ({ frames := 2, cells := 1, slots := 301, locals := 46 } : Room)).room s m ([.ref (o 0), .int p0] : List Value).toArray below meth c H locs (1) (301) (QI below D (ms cI q o T t ++ (mo cI o (q 0) (u 0) M k' ++ (ms cI u o V v ++ rs))) r' ([.ref (o 0), .int p0] : List Value).toArray s 1 301 A) (F0 m 41 ls []) := by
      intro n
      induction n with
      | zero => intro x3_8 N1_8 z3_8 N1z_8 h; exact (lp_0 h).elim
      | succ n ih =>
        intro x3_8 N1_8 z3_8 N1z_8 h kk H locs ls hP hD hS hl
        obtain ⟨z, h, hz⟩ := lp_walk h
        have h : fX7_change_B41 T M p0 k_1 x3_8 N1_8 = some z := h
        unfold fX7_change_B41 at h
        refine lv_iload_n hx hb dX7_change_41 rfl (lv_at hl 3 rfl) ?_
        refine lv_aload_n hx hb dX7_change_42 rfl (lv_at hl 0 rfl) ?_
        refine va_get (ci := 10) (v := .int (k_1 1)) (C := RX7) (T := TX7) (N := 15) hx hb hts hi_X7 hown hK hP 5 rfl rfl 1 (by decide) (hts (.fieldLink RX7 50 "WishWellModel" "lands" "I") (List.mem_of_getElem? (i := 3) rfl)) (fun _ h9 => h9) rfl dX7_change_43 ?_
        refine lv_icmp_ge (tgt := 137) hx hb dX7_change_46 (by decide) (fun c_9 => ?_) (fun c_9 => ?_)
        · have h := ip_ h c_9
          cases lz_e h hz
          exact kk _ _ _ hP hD hS (lv_sub hl [0, 1, 2, 3] rfl)
        · have h := in_ h c_9
          refine lv_aload_n hx hb dX7_change_49 rfl (lv_at hl 0 rfl) ?_
          refine va_get (ci := 10) (v := .ref (q 0)) (C := RX7) (T := TX7) (N := 15) hx hb hts hi_X7 hown hK hP 5 rfl rfl 13 (by decide) (hts (.fieldLink RX7 39 "WishWellModel" "s" "LWishWellModel$State;") (List.mem_of_getElem? (i := 4) rfl)) (fun _ h9 => h9) rfl dX7_change_50 ?_
          refine lv_iload_n hx hb dX7_change_53 rfl (lv_at hl 3 rfl) ?_
          obtain ⟨r_10, hx_11, h⟩ := bd_I h
          refine kVi (As := [.int x3_8]) (rest := []) B hK hN hP hD hS hA (c_X6_all l D cI cJ q o (q 0) (u 0) T t M k_1 x3_8 r_10 (ms cI u o V v ++ ((q_3, ai cA_3 (Int32.toNatClampNeg (p0 + 1)) N1_8) :: rs)) hx_11) (cwV 1 hts gX7_change_X6_all rfl rfl rfl (by decide +kernel) ⟨(Nat.le_of_ble_eq_true rfl), (Nat.le_of_ble_eq_true rfl)⟩) 9 0 rfl rfl rfl hl.1 rfl (Nat.le_of_ble_eq_true rfl) dX7_change_54 ⟨(Nat.le_of_ble_eq_true rfl), (Nat.le_of_ble_eq_true rfl)⟩ rfl (fun H locs hP hD hS => ?_)
          refine lv_istore (lv' := [(4, .int r_10), (0, .ref (o 0)), (1, .int p0), (2, .ref q_3), (3, .int x3_8)]) hx hb dX7_change_57 hl (by decide) rfl (fun ls hl => ?_)
          refine lv_iload_n hx hb dX7_change_59 rfl (lv_at hl 2 rfl) ?_
          refine lv_istore (lv' := [(5, .int p0), (4, .int r_10), (0, .ref (o 0)), (1, .int p0), (2, .ref q_3), (3, .int x3_8)]) hx hb dX7_change_60 hl (by decide) rfl (fun ls hl => ?_)
          have L62_12 : ∀ (n : Nat) (x5_12 : Int32) (N1_12 : Nat → Int32) (z5_12 : Int32) (N1z_12 : Nat → Int32) (_ : lp (fun s => fX7_change_B62 M p0 x3_8 r_10 s.1 s.2) n (x5_12, N1_12) = some (z5_12, N1z_12)) (_ : ∀ (H : Heap) (locs : List Loc) (ls : Array Slot), va_P D vwCl (ms cI q o T t ++ (mo cI o (q 0) (u 0) M k_1 ++ (ms cI u o V v ++ ((q_3, ai cA_3 (Int32.toNatClampNeg (p0 + 1)) N1z_12) :: rs)))) H → va_D A (ms cI q o T t ++ (mo cI o (q 0) (u 0) M k_1 ++ (ms cI u o V v ++ ((q_3, ai cA_3 (Int32.toNatClampNeg (p0 + 1)) N1z_12) :: rs)))) → va_S A s.heap H locs → lv_has ls 7 [(0, .ref (o 0)), (1, .int p0), (2, .ref q_3), (3, .int x3_8), (4, .int r_10), (5, .int z5_12)] → W p l e (headSpec wsX7_change ({ frames := 2, cells := 1, slots := 301, locals := 46 } : Room)).room s m ([.ref (o 0), .int p0] : List Value).toArray below meth c H locs (1) (301) (QI below D (ms cI q o T t ++ (mo cI o (q 0) (u 0) M k' ++ (ms cI u o V v ++ rs))) r' ([.ref (o 0), .int p0] : List Value).toArray s 1 301 A) (F0 m 131 ls [])) (H : Heap) (locs : List Loc) (ls : Array Slot), va_P D vwCl (ms cI q o T t ++ (mo cI o (q 0) (u 0) M k_1 ++ (ms cI u o V v ++ ((q_3, ai cA_3 (Int32.toNatClampNeg (p0 + 1)) N1_12) :: rs)))) H → va_D A (ms cI q o T t ++ (mo cI o (q 0) (u 0) M k_1 ++ (ms cI u o V v ++ ((q_3, ai cA_3 (Int32.toNatClampNeg (p0 + 1)) N1_12) :: rs)))) → va_S A s.heap H locs → lv_has ls 7 [(0, .ref (o 0)), (1, .int p0), (2, .ref q_3), (3, .int x3_8), (4, .int r_10), (5, .int x5_12)] → W p l e (headSpec wsX7_change ({ frames := 2, cells := 1, slots := 301, locals := 46 } : Room)).room s m ([.ref (o 0), .int p0] : List Value).toArray below meth c H locs (1) (301) (QI below D (ms cI q o T t ++ (mo cI o (q 0) (u 0) M k' ++ (ms cI u o V v ++ rs))) r' ([.ref (o 0), .int p0] : List Value).toArray s 1 301 A) (F0 m 62 ls []) := by
            intro n
            induction n with
            | zero => intro x5_12 N1_12 z5_12 N1z_12 h; exact (lp_0 h).elim
            | succ n ih =>
              intro x5_12 N1_12 z5_12 N1z_12 h kk H locs ls hP hD hS hl
              obtain ⟨z, h, hz⟩ := lp_walk h
              have h : fX7_change_B62 M p0 x3_8 r_10 x5_12 N1_12 = some z := h
              unfold fX7_change_B62 at h
              refine lv_iload hx hb dX7_change_62 (lv_at hl 5 rfl) ?_
              refine lv_if_le (tgt := 131) hx hb dX7_change_64 (by decide) (fun c_13 => ?_) (fun c_13 => ?_)
              · have h := ip_ h c_13
                cases lz_e h hz
                exact kk _ _ _ hP hD hS (lv_sub hl [0, 1, 2, 3, 4, 5] rfl)
              · have h := in_ h c_13
                refine lv_iconst (v := 1) hx hb dX7_change_67 (by decide) ?_
                refine lv_istore (lv' := [(6, .int 1), (0, .ref (o 0)), (1, .int p0), (2, .ref q_3), (3, .int x3_8), (4, .int r_10), (5, .int x5_12)]) hx hb dX7_change_68 hl (by decide) rfl (fun ls hl => ?_)
                have L70_14 : ∀ (n : Nat) (x6_14 : Int32) (N1_14 : Nat → Int32) (z6_14 : Int32) (N1z_14 : Nat → Int32) (_ : lp (fun s => fX7_change_B70 M p0 x3_8 x5_12 r_10 s.1 s.2) n (x6_14, N1_14) = some (z6_14, N1z_14)) (_ : ∀ (H : Heap) (locs : List Loc) (ls : Array Slot), va_P D vwCl (ms cI q o T t ++ (mo cI o (q 0) (u 0) M k_1 ++ (ms cI u o V v ++ ((q_3, ai cA_3 (Int32.toNatClampNeg (p0 + 1)) N1z_14) :: rs)))) H → va_D A (ms cI q o T t ++ (mo cI o (q 0) (u 0) M k_1 ++ (ms cI u o V v ++ ((q_3, ai cA_3 (Int32.toNatClampNeg (p0 + 1)) N1z_14) :: rs)))) → va_S A s.heap H locs → lv_has ls 7 [(0, .ref (o 0)), (1, .int p0), (2, .ref q_3), (3, .int x3_8), (4, .int r_10), (5, .int x5_12), (6, .int z6_14)] → W p l e (headSpec wsX7_change ({ frames := 2, cells := 1, slots := 301, locals := 46 } : Room)).room s m ([.ref (o 0), .int p0] : List Value).toArray below meth c H locs (1) (301) (QI below D (ms cI q o T t ++ (mo cI o (q 0) (u 0) M k' ++ (ms cI u o V v ++ rs))) r' ([.ref (o 0), .int p0] : List Value).toArray s 1 301 A) (F0 m 125 ls [])) (H : Heap) (locs : List Loc) (ls : Array Slot), va_P D vwCl (ms cI q o T t ++ (mo cI o (q 0) (u 0) M k_1 ++ (ms cI u o V v ++ ((q_3, ai cA_3 (Int32.toNatClampNeg (p0 + 1)) N1_14) :: rs)))) H → va_D A (ms cI q o T t ++ (mo cI o (q 0) (u 0) M k_1 ++ (ms cI u o V v ++ ((q_3, ai cA_3 (Int32.toNatClampNeg (p0 + 1)) N1_14) :: rs)))) → va_S A s.heap H locs → lv_has ls 7 [(0, .ref (o 0)), (1, .int p0), (2, .ref q_3), (3, .int x3_8), (4, .int r_10), (5, .int x5_12), (6, .int x6_14)] → W p l e (headSpec wsX7_change ({ frames := 2, cells := 1, slots := 301, locals := 46 } : Room)).room s m ([.ref (o 0), .int p0] : List Value).toArray below meth c H locs (1) (301) (QI below D (ms cI q o T t ++ (mo cI o (q 0) (u 0) M k' ++ (ms cI u o V v ++ rs))) r' ([.ref (o 0), .int p0] : List Value).toArray s 1 301 A) (F0 m 70 ls []) := by
                  intro n
                  induction n with
                  | zero => intro x6_14 N1_14 z6_14 N1z_14 h; exact (lp_0 h).elim
                  | succ n ih =>
                    intro x6_14 N1_14 z6_14 N1z_14 h kk H locs ls hP hD hS hl
                    obtain ⟨z, h, hz⟩ := lp_walk h
                    have h : fX7_change_B70 M p0 x3_8 x5_12 r_10 x6_14 N1_14 = some z := h
                    unfold fX7_change_B70 at h
                    refine lv_iload hx hb dX7_change_70 (lv_at hl 6 rfl) ?_
                    refine lv_iload hx hb dX7_change_72 (lv_at hl 4 rfl) ?_
                    refine lv_icmp_gt (tgt := 125) hx hb dX7_change_74 (by decide) (fun c_15 => ?_) (fun c_15 => ?_)
                    · have h := ip_ h c_15
                      cases lz_e h hz
                      exact kk _ _ _ hP hD hS (lv_sub hl [0, 1, 2, 3, 4, 5, 6] rfl)
                    · have h := in_ h c_15
                      refine lv_iload hx hb dX7_change_77 (lv_at hl 6 rfl) ?_
                      refine lv_aload_n hx hb dX7_change_79 rfl (lv_at hl 0 rfl) ?_
                      refine va_get (ci := 10) (v := .ref (o 1)) (C := RX7) (T := TX7) (N := 15) hx hb hts hi_X7 hown hK hP 5 rfl rfl 2 (by decide) (hts (.fieldLink RX7 9 "WishWellModel" "value" "[I") (List.mem_of_getElem? (i := 5) rfl)) (fun _ h9 => h9) rfl dX7_change_80 ?_
                      refine lv_iload_n hx hb dX7_change_83 rfl (lv_at hl 3 rfl) ?_
                      obtain ⟨c_16, h⟩ := gd_I h
                      refine va_iald hx hb hK hP 6 0 rfl rfl c_16 dX7_change_84 ?_
                      refine lv_imul hx hb dX7_change_85 ?_
                      refine lv_iload hx hb dX7_change_86 (lv_at hl 5 rfl) ?_
                      refine lv_icmp_gt (tgt := 125) hx hb dX7_change_88 (by decide) (fun c_17 => ?_) (fun c_17 => ?_)
                      · have h := ip_ h c_17
                        cases lz_e h hz
                        exact kk _ _ _ hP hD hS (lv_sub hl [0, 1, 2, 3, 4, 5, 6] rfl)
                      · have h := in_ h c_17
                        refine lv_aload_n hx hb dX7_change_91 rfl (lv_at hl 2 rfl) ?_
                        refine lv_iload hx hb dX7_change_92 (lv_at hl 5 rfl) ?_
                        refine lv_aload_n hx hb dX7_change_94 rfl (lv_at hl 2 rfl) ?_
                        refine lv_iload hx hb dX7_change_95 (lv_at hl 5 rfl) ?_
                        obtain ⟨c_18, h⟩ := gd_I h
                        refine va_iald hx hb hK' hP 19 2 rfl rfl c_18 dX7_change_97 ?_
                        refine lv_aload_n hx hb dX7_change_98 rfl (lv_at hl 2 rfl) ?_
                        refine lv_iload hx hb dX7_change_99 (lv_at hl 5 rfl) ?_
                        refine lv_iload hx hb dX7_change_101 (lv_at hl 6 rfl) ?_
                        refine lv_aload_n hx hb dX7_change_103 rfl (lv_at hl 0 rfl) ?_
                        refine va_get (ci := 10) (v := .ref (o 1)) (C := RX7) (T := TX7) (N := 15) hx hb hts hi_X7 hown hK hP 5 rfl rfl 2 (by decide) (hts (.fieldLink RX7 9 "WishWellModel" "value" "[I") (List.mem_of_getElem? (i := 5) rfl)) (fun _ h9 => h9) rfl dX7_change_104 ?_
                        refine lv_iload_n hx hb dX7_change_107 rfl (lv_at hl 3 rfl) ?_
                        obtain ⟨c_19, h⟩ := gd_I h
                        refine va_iald hx hb hK hP 6 0 rfl rfl c_19 dX7_change_108 ?_
                        refine lv_imul hx hb dX7_change_109 ?_
                        refine lv_isub hx hb dX7_change_110 ?_
                        obtain ⟨c_20, h⟩ := gd_I h
                        refine va_iald hx hb hK' hP 19 2 rfl rfl c_20 dX7_change_111 ?_
                        refine lv_iload hx hb dX7_change_112 (lv_at hl 6 rfl) ?_
                        refine lv_iadd hx hb dX7_change_114 ?_
                        refine va_mmin hx hb (hml.trans hl.1.symm) hown (hts (.methodLink RX7 153 Lib.Math.min.name) (List.mem_of_getElem? (i := 6) rfl)) (hts (.static Lib.Math.min.name) (List.mem_of_getElem? (i := 7) rfl)) (hts (.initialized "java/lang/Math") (List.mem_of_getElem? (i := 8) rfl)) (hts (.code Lib.Math.min.name Lib.Math.min.code 2 (some .int)) (List.mem_of_getElem? (i := 9) rfl)) (Nat.le_of_ble_eq_true rfl) (Nat.le_of_ble_eq_true rfl) (Nat.le_of_ble_eq_true rfl) (Nat.le_of_ble_eq_true rfl) dX7_change_115 ?_
                        obtain ⟨c_21, h⟩ := gd_I h
                        refine va_iast hx hb hK' hP hD hS 19 2 rfl rfl c_21 dX7_change_118 (fun H locs hP hD hS => ?_)
                        obtain ⟨N1_22, eN1_22, h⟩ := lt_I h
                        have hP : va_P D vwCl (ms cI q o T t ++ (mo cI o (q 0) (u 0) M k_1 ++ (ms cI u o V v ++ ((q_3, ai cA_3 (Int32.toNatClampNeg (p0 + 1)) N1_22) :: rs)))) H := by rw [eN1_22]; exact hP
                        have hD : va_D A (ms cI q o T t ++ (mo cI o (q 0) (u 0) M k_1 ++ (ms cI u o V v ++ ((q_3, ai cA_3 (Int32.toNatClampNeg (p0 + 1)) N1_22) :: rs)))) := by rw [eN1_22]; exact hD
                        refine lv_iinc (v := x6_14 + 1) (lv' := [(6, .int (x6_14 + 1)), (0, .ref (o 0)), (1, .int p0), (2, .ref q_3), (3, .int x3_8), (4, .int r_10), (5, .int x5_12)]) hx hb dX7_change_119 hl (k := 6) rfl rfl (by decide) rfl (fun ls hl => ?_)
                        refine lv_goto (tgt := 70) hx hb dX7_change_122 (by decide) ?_
                        exact ih (x6_14 + 1) N1_22 _ _ (lz_c h hz) kk _ _ _ hP hD hS (lv_sub hl [1, 2, 3, 4, 5, 6, 0] rfl)
                obtain ⟨z6_14, N1z_14, hl_14, h⟩ := b2_I h
                refine L70_14 302 1 N1_12 z6_14 N1z_14 hl_14 (fun H locs ls hP hD hS hl => ?_) _ _ _ hP hD hS (lv_sub hl [1, 2, 3, 4, 5, 6, 0] rfl)
                refine lv_iinc (v := x5_12 + (-1)) (lv' := [(5, .int (x5_12 + (-1))), (0, .ref (o 0)), (1, .int p0), (2, .ref q_3), (3, .int x3_8), (4, .int r_10), (6, .int z6_14)]) hx hb dX7_change_125 hl (k := 5) rfl (congrArg (fun z => x5_12 + z) (by decide)) (by decide) rfl (fun ls hl => ?_)
                refine lv_goto (tgt := 62) hx hb dX7_change_128 (by decide) ?_
                exact ih (x5_12 + (-1)) N1z_14 _ _ (lz_c h hz) kk _ _ _ hP hD hS (lv_sub hl [1, 2, 3, 4, 5, 0] rfl)
          obtain ⟨z5_12, N1z_12, hl_12, h⟩ := b2_I h
          refine L62_12 302 p0 N1_8 z5_12 N1z_12 hl_12 (fun H locs ls hP hD hS hl => ?_) _ _ _ hP hD hS (lv_sub hl [2, 3, 4, 5, 1, 0] rfl)
          refine lv_iinc (v := x3_8 + 1) (lv' := [(3, .int (x3_8 + 1)), (0, .ref (o 0)), (1, .int p0), (2, .ref q_3), (4, .int r_10), (5, .int z5_12)]) hx hb dX7_change_131 hl (k := 3) rfl rfl (by decide) rfl (fun ls hl => ?_)
          refine lv_goto (tgt := 41) hx hb dX7_change_134 (by decide) ?_
          exact ih (x3_8 + 1) N1z_12 _ _ (lz_c h hz) kk _ _ _ hP hD hS (lv_sub hl [1, 2, 3, 0] rfl)
    obtain ⟨z3_8, N1z_8, hl_8, h⟩ := b2_I h
    refine L41_8 7 0 N1_7 z3_8 N1z_8 hl_8 (fun H locs ls hP hD hS hl => ?_) _ _ _ hP hD hS (lv_sub hl [2, 3, 1, 0] rfl)
    refine lv_aload_n hx hb dX7_change_137 rfl (lv_at hl 2 rfl) ?_
    refine lv_iload_n hx hb dX7_change_138 rfl (lv_at hl 1 rfl) ?_
    obtain ⟨c_23, h⟩ := gd_I h
    refine va_iald hx hb hK' hP 19 2 rfl rfl c_23 dX7_change_139 ?_
    refine lv_sipush (v := 999) hx hb dX7_change_140 (by decide) ?_
    refine lv_icmp_ge (tgt := 152) hx hb dX7_change_143 (by decide) (fun c_24 => ?_) (fun c_24 => ?_)
    · have h := ip_ h c_24
      refine lv_iconst (v := (-1)) hx hb dX7_change_152 (by decide) ?_
      have hP := drop3 hP
      obtain ⟨h0, h1⟩ := o2 h
      exact eI hx hb hr hlk hP hS dX7_change_153 (Nat.le_of_ble_eq_true rfl) (Nat.le_of_ble_eq_true rfl) h0 (by rw [h1])
    · have h := in_ h c_24
      refine lv_aload_n hx hb dX7_change_146 rfl (lv_at hl 2 rfl) ?_
      refine lv_iload_n hx hb dX7_change_147 rfl (lv_at hl 1 rfl) ?_
      obtain ⟨c_25, h⟩ := gd_I h
      refine va_iald hx hb hK' hP 19 2 rfl rfl c_25 dX7_change_148 ?_
      refine lv_goto (tgt := 153) hx hb dX7_change_149 (by decide) ?_
      have hP := drop3 hP
      obtain ⟨h0, h1⟩ := o2 h
      exact eI hx hb hr hlk hP hS dX7_change_153 (Nat.le_of_ble_eq_true rfl) (Nat.le_of_ble_eq_true rfl) h0 (by rw [h1])
  · have h := ip_ h c_2
    refine lv_aload_n hx hb dX7_change_16 rfl (lv_at hl 0 rfl) ?_
    refine lv_iconst (v := 1) hx hb dX7_change_17 (by decide) ?_
    obtain ⟨r_26, k_27, hx_28, h⟩ := b2_I h
    refine kVi (As := [.int 1]) (rest := []) B hK hN hP hD hS hA (c_X7_no l D cI cJ q u o T t M k_1 V v 1 r_26 k_27 rs hx_28) (cwV 1 hts gX7_change_X7_no rfl rfl rfl (by decide +kernel) ⟨(Nat.le_of_ble_eq_true rfl), (Nat.le_of_ble_eq_true rfl)⟩) 10 5 rfl rfl rfl hl.1 rfl (Nat.le_of_ble_eq_true rfl) dX7_change_18 ⟨(Nat.le_of_ble_eq_true rfl), (Nat.le_of_ble_eq_true rfl)⟩ rfl (fun H locs hP hD hS => ?_)
    obtain ⟨h0, h1⟩ := o2 h
    exact eI hx hb hr hlk hP hS dX7_change_21 (Nat.le_of_ble_eq_true rfl) (Nat.le_of_ble_eq_true rfl) h0 (by rw [h1])
noncomputable def fX7_mean_B11 (T : Nat → Nat → Int32) (M : Nat → Nat → Int32) (k_1 : Nat → Int32) (x1_2 : Int32) (x2_2 : Int32) (x3_2 : Int32)  : Option ((Int32 × Int32 × Int32) ⊕ (Int32 × Int32 × Int32)) := if (k_1 2) ≤ x3_2 then (some (.inr (x1_2, x2_2, x3_2))) else (gd (vp_in x3_2 24) (if (T 2 (Int32.toNatClampNeg x3_2)) = 1 then (gd (vp_in x3_2 24) (gd (vp_in x3_2 24) (lt_ (x1_2 + ((T 3 (Int32.toNatClampNeg x3_2)) - (M 7 (Int32.toNatClampNeg x3_2)))) (fun y1_8 => some (.inl (y1_8, x2_2 + 1, x3_2 + 1)))))) else (some (.inl (x1_2, x2_2, x3_2 + 1)))))
noncomputable def fX7_mean (T : Nat → Nat → Int32) (M : Nat → Nat → Int32) (k : Nat → Int32) : Option (UInt64 × (Nat → Int32)) := lt_ (uS k 0 0) (fun k_1 => b3 (lp (fun s => fX7_mean_B11 T M k_1 s.1 s.2.1 s.2.2) 25 (0, 0, 0)) (fun z1_2 z2_2 z3_2 => if z2_2 = 0 then (some (0, k_1)) else (gd (vf_n64 (FP.ddiv (FP.i2d z1_2) (FP.i2d z2_2))) (some (FP.ddiv (FP.i2d z1_2) (FP.i2d z2_2), k_1)))))
set_option maxHeartbeats 4000000 in
set_option maxRecDepth 100000 in
theorem c_X7_mean (l : Launch) (D : va_G) (cI cJ : ClassId) (q u o : Nat → Nat) (T : Nat → Nat → Int32) (t : Nat → Int32) (M : Nat → Nat → Int32) (k : Nat → Int32) (V : Nat → Nat → Int32) (v : Nat → Int32) (r' : UInt64) (k' : Nat → Int32) (rs : va_W) (h : fX7_mean T M k = some (r', k')) : Cd l yX7_mean wsX7_mean ({ frames := 0, cells := 0, slots := 0, locals := 0 } : Room) D cI cJ ([.ref (o 0)] : List Value) (ms cI q o T t ++ (mo cI o (q 0) (u 0) M k ++ (ms cI u o V v ++ rs))) r' (ms cI q o T t ++ (mo cI o (q 0) (u 0) M k' ++ (ms cI u o V v ++ rs))) := by
  refine Cd.mk (cc := cX7_mean) (maxL := 4) (ret := (some .double)) (by decide) rfl (Nat.le_of_ble_eq_true rfl) ?_
  intro p e s m below meth c A ls B hr hlk hK hN hA hP hD hl
  obtain ⟨hx, hb, hml, hown, hts⟩ := id B
  have hi_X6 : ∀ w ∈ wsX60, w ∈ wsX7_mean := fun _ h => List.mem_cons_of_mem _ (List.mem_append_left _ (List.mem_append_right _ (h)))
  have hi_X7 : ∀ w ∈ wsX70, w ∈ wsX7_mean := fun _ h => List.mem_cons_of_mem _ (List.mem_append_left _ (List.mem_append_left _ (List.mem_append_right _ (h))))
  have hS : va_S A s.heap s.heap [] := va_S.rf
  have hl : lv_has ls 4 [(0, .ref (o 0))] := hl
  unfold fX7_mean at h
  refine lv_aload_n hx hb dX7_mean_0 rfl (lv_at hl 0 rfl) ?_
  refine lv_iconst (v := 0) hx hb dX7_mean_1 (by decide) ?_
  refine va_put (D := D) (ci := 10) (v := .int 0) (ty := .int) (C := RX7) (T := TX7) (N := 15) hx hb hts hi_X7 tyX7 tyX7_ok nmX7 hown hK hP hD hS 5 rfl rfl 0 (by decide) (hts (.fieldLink RX7 46 "WishWellModel" "thrown" "I") (List.mem_of_getElem? (i := 1) rfl)) (fun _ h9 => h9) rfl (by decide +kernel) rfl rfl (Nat.le_of_ble_eq_true rfl) dX7_mean_2 (fun H locs hP hD hS => ?_)
  obtain ⟨k_1, ek_1, h⟩ := lt_I h
  have hP : va_P D vwCl (ms cI q o T t ++ (mo cI o (q 0) (u 0) M k_1 ++ (ms cI u o V v ++ rs))) H := by rw [ek_1]; exact hP
  have hD : va_D A (ms cI q o T t ++ (mo cI o (q 0) (u 0) M k_1 ++ (ms cI u o V v ++ rs))) := by rw [ek_1]; exact hD
  refine lv_iconst (v := 0) hx hb dX7_mean_5 (by decide) ?_
  refine lv_istore_n (lv' := [(1, .int 0), (0, .ref (o 0))]) hx hb dX7_mean_6 rfl hl (by decide) rfl (fun ls hl => ?_)
  refine lv_iconst (v := 0) hx hb dX7_mean_7 (by decide) ?_
  refine lv_istore_n (lv' := [(2, .int 0), (1, .int 0), (0, .ref (o 0))]) hx hb dX7_mean_8 rfl hl (by decide) rfl (fun ls hl => ?_)
  refine lv_iconst (v := 0) hx hb dX7_mean_9 (by decide) ?_
  refine lv_istore_n (lv' := [(3, .int 0), (2, .int 0), (1, .int 0), (0, .ref (o 0))]) hx hb dX7_mean_10 rfl hl (by decide) rfl (fun ls hl => ?_)
  have L11_2 : ∀ (n : Nat) (x1_2 : Int32) (x2_2 : Int32) (x3_2 : Int32)  (z1_2 : Int32) (z2_2 : Int32) (z3_2 : Int32)  (_ : lp (fun s => fX7_mean_B11 T M k_1 s.1 s.2.1 s.2.2) n (x1_2, x2_2, x3_2) = some (z1_2, z2_2, z3_2)) (_ : ∀ (H : Heap) (locs : List Loc) (ls : Array Slot), va_P D vwCl (ms cI q o T t ++ (mo cI o (q 0) (u 0) M k_1 ++ (ms cI u o V v ++ rs))) H → va_D A (ms cI q o T t ++ (mo cI o (q 0) (u 0) M k_1 ++ (ms cI u o V v ++ rs))) → va_S A s.heap H locs → lv_has ls 4 [(0, .ref (o 0)), (1, .int z1_2), (2, .int z2_2), (3, .int z3_2)] → W p l e (headSpec wsX7_mean ({ frames := 0, cells := 0, slots := 0, locals := 0 } : Room)).room s m ([.ref (o 0)] : List Value).toArray below meth c H locs (0) (0) (QD below D (ms cI q o T t ++ (mo cI o (q 0) (u 0) M k' ++ (ms cI u o V v ++ rs))) r' ([.ref (o 0)] : List Value).toArray s 0 0 A) (F0 m 63 ls [])) (H : Heap) (locs : List Loc) (ls : Array Slot), va_P D vwCl (ms cI q o T t ++ (mo cI o (q 0) (u 0) M k_1 ++ (ms cI u o V v ++ rs))) H → va_D A (ms cI q o T t ++ (mo cI o (q 0) (u 0) M k_1 ++ (ms cI u o V v ++ rs))) → va_S A s.heap H locs → lv_has ls 4 [(0, .ref (o 0)), (1, .int x1_2), (2, .int x2_2), (3, .int x3_2)] → W p l e (headSpec wsX7_mean ({ frames := 0, cells := 0, slots := 0, locals := 0 } : Room)).room s m ([.ref (o 0)] : List Value).toArray below meth c H locs (0) (0) (QD below D (ms cI q o T t ++ (mo cI o (q 0) (u 0) M k' ++ (ms cI u o V v ++ rs))) r' ([.ref (o 0)] : List Value).toArray s 0 0 A) (F0 m 11 ls []) := by
    intro n
    induction n with
    | zero => intro x1_2 x2_2 x3_2 z1_2 z2_2 z3_2 h; exact (lp_0 h).elim
    | succ n ih =>
      intro x1_2 x2_2 x3_2 z1_2 z2_2 z3_2 h kk H locs ls hP hD hS hl
      obtain ⟨z, h, hz⟩ := lp_walk h
      have h : fX7_mean_B11 T M k_1 x1_2 x2_2 x3_2 = some z := h
      unfold fX7_mean_B11 at h
      refine lv_iload_n hx hb dX7_mean_11 rfl (lv_at hl 3 rfl) ?_
      refine lv_aload_n hx hb dX7_mean_12 rfl (lv_at hl 0 rfl) ?_
      refine va_get (ci := 10) (v := .int (k_1 2)) (C := RX7) (T := TX7) (N := 15) hx hb hts hi_X7 hown hK hP 5 rfl rfl 7 (by decide) (hts (.fieldLink RX7 57 "WishWellModel" "wishes" "I") (List.mem_of_getElem? (i := 2) rfl)) (fun _ h9 => h9) rfl dX7_mean_13 ?_
      refine lv_icmp_ge (tgt := 63) hx hb dX7_mean_16 (by decide) (fun c_3 => ?_) (fun c_3 => ?_)
      · have h := ip_ h c_3
        cases lz_e h hz
        exact kk _ _ _ hP hD hS (lv_sub hl [0, 1, 2, 3] rfl)
      · have h := in_ h c_3
        refine lv_aload_n hx hb dX7_mean_19 rfl (lv_at hl 0 rfl) ?_
        refine va_get (ci := 10) (v := .ref (q 0)) (C := RX7) (T := TX7) (N := 15) hx hb hts hi_X7 hown hK hP 5 rfl rfl 13 (by decide) (hts (.fieldLink RX7 39 "WishWellModel" "s" "LWishWellModel$State;") (List.mem_of_getElem? (i := 3) rfl)) (fun _ h9 => h9) rfl dX7_mean_20 ?_
        refine va_getN (own := RX7) (ref := "WishWellModel$State") (host := "WishWellModel") (index := 81) (ci := 9) (v := .ref (q 3)) (C := RX6) (T := TX6) (N := 8) hx hb hts hi_X6 hown hK hP 0 rfl rfl 5 (by decide) (nF_5 hN) (fun _ h9 => h9) rfl dX7_mean_23 ?_
        refine lv_iload_n hx hb dX7_mean_26 rfl (lv_at hl 3 rfl) ?_
        obtain ⟨c_4, h⟩ := gd_I h
        refine va_iald hx hb hK hP 3 0 rfl rfl c_4 dX7_mean_27 ?_
        refine lv_iconst (v := 1) hx hb dX7_mean_28 (by decide) ?_
        refine lv_icmp_eq (tgt := 35) hx hb dX7_mean_29 (by decide) (fun c_5 => ?_) (fun c_5 => ?_)
        · have h := ip_ h c_5
          refine lv_iload_n hx hb dX7_mean_35 rfl (lv_at hl 1 rfl) ?_
          refine lv_aload_n hx hb dX7_mean_36 rfl (lv_at hl 0 rfl) ?_
          refine va_get (ci := 10) (v := .ref (q 0)) (C := RX7) (T := TX7) (N := 15) hx hb hts hi_X7 hown hK hP 5 rfl rfl 13 (by decide) (hts (.fieldLink RX7 39 "WishWellModel" "s" "LWishWellModel$State;") (List.mem_of_getElem? (i := 3) rfl)) (fun _ h9 => h9) rfl dX7_mean_37 ?_
          refine va_getN (own := RX7) (ref := "WishWellModel$State") (host := "WishWellModel") (index := 71) (ci := 9) (v := .ref (q 4)) (C := RX6) (T := TX6) (N := 8) hx hb hts hi_X6 hown hK hP 0 rfl rfl 6 (by decide) (nF_6 hN) (fun _ h9 => h9) rfl dX7_mean_40 ?_
          refine lv_iload_n hx hb dX7_mean_43 rfl (lv_at hl 3 rfl) ?_
          obtain ⟨c_6, h⟩ := gd_I h
          refine va_iald hx hb hK hP 4 0 rfl rfl c_6 dX7_mean_44 ?_
          refine lv_aload_n hx hb dX7_mean_45 rfl (lv_at hl 0 rfl) ?_
          refine va_get (ci := 10) (v := .ref (o 8)) (C := RX7) (T := TX7) (N := 15) hx hb hts hi_X7 hown hK hP 5 rfl rfl 10 (by decide) (hts (.fieldLink RX7 31 "WishWellModel" "day" "[I") (List.mem_of_getElem? (i := 4) rfl)) (fun _ h9 => h9) rfl dX7_mean_46 ?_
          refine lv_iload_n hx hb dX7_mean_49 rfl (lv_at hl 3 rfl) ?_
          obtain ⟨c_7, h⟩ := gd_I h
          refine va_iald hx hb hK hP 13 0 rfl rfl c_7 dX7_mean_50 ?_
          refine lv_isub hx hb dX7_mean_51 ?_
          refine lv_iadd hx hb dX7_mean_52 ?_
          obtain ⟨y1_8, ey1_8, h⟩ := lt_I h
          rw [← ey1_8]
          refine lv_istore_n (lv' := [(1, .int y1_8), (0, .ref (o 0)), (2, .int x2_2), (3, .int x3_2)]) hx hb dX7_mean_53 rfl hl (by decide) rfl (fun ls hl => ?_)
          refine lv_iinc (v := x2_2 + 1) (lv' := [(2, .int (x2_2 + 1)), (1, .int y1_8), (0, .ref (o 0)), (3, .int x3_2)]) hx hb dX7_mean_54 hl (k := 2) rfl rfl (by decide) rfl (fun ls hl => ?_)
          refine lv_iinc (v := x3_2 + 1) (lv' := [(3, .int (x3_2 + 1)), (2, .int (x2_2 + 1)), (1, .int y1_8), (0, .ref (o 0))]) hx hb dX7_mean_57 hl (k := 3) rfl rfl (by decide) rfl (fun ls hl => ?_)
          refine lv_goto (tgt := 11) hx hb dX7_mean_60 (by decide) ?_
          exact ih y1_8 (x2_2 + 1) (x3_2 + 1) _ _ _ (lz_c h hz) kk _ _ _ hP hD hS (lv_sub hl [3, 2, 1, 0] rfl)
        · have h := in_ h c_5
          refine lv_goto (tgt := 57) hx hb dX7_mean_32 (by decide) ?_
          refine lv_iinc (v := x3_2 + 1) (lv' := [(3, .int (x3_2 + 1)), (0, .ref (o 0)), (1, .int x1_2), (2, .int x2_2)]) hx hb dX7_mean_57 hl (k := 3) rfl rfl (by decide) rfl (fun ls hl => ?_)
          refine lv_goto (tgt := 11) hx hb dX7_mean_60 (by decide) ?_
          exact ih x1_2 x2_2 (x3_2 + 1) _ _ _ (lz_c h hz) kk _ _ _ hP hD hS (lv_sub hl [1, 2, 3, 0] rfl)
  obtain ⟨z1_2, z2_2, z3_2, hl_2, h⟩ := b3_I h
  refine L11_2 25 0 0 0  z1_2 z2_2 z3_2 hl_2 (fun H locs ls hP hD hS hl => ?_) _ _ _ hP hD hS (lv_sub hl [3, 2, 1, 0] rfl)
  refine lv_iload_n hx hb dX7_mean_63 rfl (lv_at hl 2 rfl) ?_
  refine lv_if_ne (tgt := 71) hx hb dX7_mean_64 (by decide) (fun c_9 => ?_) (fun c_9 => ?_)
  · have h := in_ h c_9
    refine lv_iload_n hx hb dX7_mean_71 rfl (lv_at hl 1 rfl) ?_
    refine lv_i2d hx hb dX7_mean_72 ?_
    refine lv_iload_n hx hb dX7_mean_73 rfl (lv_at hl 2 rfl) ?_
    refine lv_i2d hx hb dX7_mean_74 ?_
    obtain ⟨c_10, h⟩ := gd_I h
    refine lv_ddiv hx hb dX7_mean_75 c_10 ?_
    obtain ⟨h0, h1⟩ := o2 h
    exact eD hx hb hr hlk hP hS dX7_mean_76 (Nat.le_of_ble_eq_true rfl) (Nat.le_of_ble_eq_true rfl) h0 (by rw [h1])
  · have h := ip_ h c_9
    refine lv_dconst0 hx hb dX7_mean_67 ?_
    refine lv_goto (tgt := 76) hx hb dX7_mean_68 (by decide) ?_
    obtain ⟨h0, h1⟩ := o2 h
    exact eD hx hb hr hlk hP hS dX7_mean_76 (Nat.le_of_ble_eq_true rfl) (Nat.le_of_ble_eq_true rfl) h0 (by rw [h1])
noncomputable def fX7_digest_B11 (T : Nat → Nat → Int32) (t : Nat → Int32) (M : Nat → Nat → Int32) (k_1 : Nat → Int32) (x1_2 : Int64) (x3_2 : Int32)  : Option ((Int64 × Int32) ⊕ (Int64 × Int32)) := if 10 < x3_2 then (some (.inr (x1_2, x3_2))) else (Option.bind (fX7_counted T t M k_1 x3_2) (fun r_4 => lt_ ((x1_2 * 31) + r_4.toInt64) (fun y1_6 => some (.inl (y1_6, x3_2 + 1)))))
noncomputable def fX7_digest_B38 (M : Nat → Nat → Int32) (x1_7 : Int64) (x3_7 : Int32)  : Option ((Int64 × Int32) ⊕ (Int64 × Int32)) := if 7 ≤ x3_7 then (some (.inr (x1_7, x3_7))) else (gd (vp_in x3_7 7) (lt_ ((x1_7 * 31) + (((M 2 (Int32.toNatClampNeg x3_7))).toInt64)) (fun y1_10 => some (.inl (y1_10, x3_7 + 1)))))
noncomputable def fX7_digest_B77 (T : Nat → Nat → Int32) (M : Nat → Nat → Int32) (x3_11 : Int32) (x1_13 : Int64) (x4_13 : Int32)  : Option ((Int64 × Int32) ⊕ (Int64 × Int32)) := if 4 < x4_13 then (some (.inr (x1_13, x4_13))) else (Option.bind (fX7_landTold T M x3_11 x4_13) (fun r_15 => lt_ ((x1_13 * 31) + r_15.toInt64) (fun y1_17 => some (.inl (y1_17, x4_13 + 1)))))
noncomputable def fX7_digest_B66 (T : Nat → Nat → Int32) (M : Nat → Nat → Int32) (k_1 : Nat → Int32) (x1_11 : Int64) (x3_11 : Int32)  : Option ((Int64 × Int32) ⊕ (Int64 × Int32)) := if (k_1 1) ≤ x3_11 then (some (.inr (x1_11, x3_11))) else (b2 (lp (fun s => fX7_digest_B77 T M x3_11 s.1 s.2) 6 (x1_11, 0)) (fun z1_13 z4_13 => Option.bind (fX7_missed T M x3_11) (fun r_18 => lt_ ((z1_13 * 31) + r_18.toInt64) (fun y1_20 => some (.inl (y1_20, x3_11 + 1))))))
noncomputable def fX7_digest_B133 (T : Nat → Nat → Int32) (x3_21 : Int32) (k_1 : Nat → Int32) (x1_23 : Int64) (x4_23 : Int32)  : Option ((Int64 × Int32) ⊕ (Int64 × Int32)) := if (k_1 1) ≤ x4_23 then (some (.inr (x1_23, x4_23))) else (gd (vp_in ((6 * x3_21) + x4_23) 30) (lt_ ((x1_23 * 31) + (((T 0 (Int32.toNatClampNeg ((6 * x3_21) + x4_23)))).toInt64)) (fun y1_26 => some (.inl (y1_26, x4_23 + 1)))))
noncomputable def fX7_digest_B125 (T : Nat → Nat → Int32) (k_1 : Nat → Int32) (x1_21 : Int64) (x3_21 : Int32)  : Option ((Int64 × Int32) ⊕ (Int64 × Int32)) := if 5 ≤ x3_21 then (some (.inr (x1_21, x3_21))) else (b2 (lp (fun s => fX7_digest_B133 T x3_21 k_1 s.1 s.2) 7 (x1_21, 0)) (fun z1_23 z4_23 => some (.inl (z1_23, x3_21 + 1))))
noncomputable def fX7_digest_B190 (T : Nat → Nat → Int32) (M : Nat → Nat → Int32) (x3_27 : Int32) (x1_29 : Int64) (x4_29 : Int32)  : Option ((Int64 × Int32) ⊕ (Int64 × Int32)) := if 4 < x4_29 then (some (.inr (x1_29, x4_29))) else (Option.bind (fX7_wishTold T M x3_27 x4_29) (fun r_31 => lt_ ((x1_29 * 31) + r_31.toInt64) (fun y1_33 => some (.inl (y1_33, x4_29 + 1)))))
noncomputable def fX7_digest_B179 (T : Nat → Nat → Int32) (M : Nat → Nat → Int32) (k_1 : Nat → Int32) (x1_27 : Int64) (x3_27 : Int32)  : Option ((Int64 × Int32) ⊕ (Int64 × Int32)) := if (k_1 2) ≤ x3_27 then (some (.inr (x1_27, x3_27))) else (b2 (lp (fun s => fX7_digest_B190 T M x3_27 s.1 s.2) 6 (x1_27, 0)) (fun z1_29 z4_29 => some (.inl (z1_29, x3_27 + 1))))
noncomputable def fX7_digest (T : Nat → Nat → Int32) (t : Nat → Int32) (M : Nat → Nat → Int32) (k : Nat → Int32) : Option (Int64 × (Nat → Int32)) := lt_ (uS k 0 0) (fun k_1 => b2 (lp (fun s => fX7_digest_B11 T t M k_1 s.1 s.2) 12 (821, 0)) (fun z1_2 z3_2 => b2 (lp (fun s => fX7_digest_B38 M s.1 s.2) 8 (z1_2, 0)) (fun z1_7 z3_7 => b2 (lp (fun s => fX7_digest_B66 T M k_1 s.1 s.2) 7 (z1_7, 0)) (fun z1_11 z3_11 => b2 (lp (fun s => fX7_digest_B125 T k_1 s.1 s.2) 6 (z1_11, 0)) (fun z1_21 z3_21 => b2 (lp (fun s => fX7_digest_B179 T M k_1 s.1 s.2) 25 (z1_21, 0)) (fun z1_27 z3_27 => some (z1_27, k_1)))))))
set_option maxHeartbeats 4000000 in
set_option maxRecDepth 100000 in
theorem c_X7_digest (l : Launch) (D : va_G) (cI cJ : ClassId) (q u o : Nat → Nat) (T : Nat → Nat → Int32) (t : Nat → Int32) (M : Nat → Nat → Int32) (k : Nat → Int32) (V : Nat → Nat → Int32) (v : Nat → Int32) (r' : Int64) (k' : Nat → Int32) (rs : va_W) (h : fX7_digest T t M k = some (r', k')) : Cl l yX7_digest wsX7_digest ({ frames := 3, cells := 216, slots := 1128, locals := 69 } : Room) D cI cJ ([.ref (o 0)] : List Value) (ms cI q o T t ++ (mo cI o (q 0) (u 0) M k ++ (ms cI u o V v ++ rs))) r' (ms cI q o T t ++ (mo cI o (q 0) (u 0) M k' ++ (ms cI u o V v ++ rs))) := by
  refine Cl.mk (cc := cX7_digest) (maxL := 5) (ret := (some .long)) (by decide) rfl (Nat.le_of_ble_eq_true rfl) ?_
  intro p e s m below meth c A ls B hr hlk hK hN hA hP hD hl
  obtain ⟨hx, hb, hml, hown, hts⟩ := id B
  have hi_X6 : ∀ w ∈ wsX60, w ∈ wsX7_digest := fun _ h => List.mem_cons_of_mem _ (List.mem_append_left _ (List.mem_append_right _ (h)))
  have hi_X7 : ∀ w ∈ wsX70, w ∈ wsX7_digest := fun _ h => List.mem_cons_of_mem _ (List.mem_append_left _ (List.mem_append_left _ (List.mem_append_right _ (h))))
  have hS : va_S A s.heap s.heap [] := va_S.rf
  have hl : lv_has ls 5 [(0, .ref (o 0))] := hl
  unfold fX7_digest at h
  refine lv_aload_n hx hb dX7_digest_0 rfl (lv_at hl 0 rfl) ?_
  refine lv_iconst (v := 0) hx hb dX7_digest_1 (by decide) ?_
  refine va_put (D := D) (ci := 10) (v := .int 0) (ty := .int) (C := RX7) (T := TX7) (N := 15) hx hb hts hi_X7 tyX7 tyX7_ok nmX7 hown hK hP hD hS 5 rfl rfl 0 (by decide) (hts (.fieldLink RX7 46 "WishWellModel" "thrown" "I") (List.mem_of_getElem? (i := 1) rfl)) (fun _ h9 => h9) rfl (by decide +kernel) rfl rfl (Nat.le_of_ble_eq_true rfl) dX7_digest_2 (fun H locs hP hD hS => ?_)
  obtain ⟨k_1, ek_1, h⟩ := lt_I h
  have hP : va_P D vwCl (ms cI q o T t ++ (mo cI o (q 0) (u 0) M k_1 ++ (ms cI u o V v ++ rs))) H := by rw [ek_1]; exact hP
  have hD : va_D A (ms cI q o T t ++ (mo cI o (q 0) (u 0) M k_1 ++ (ms cI u o V v ++ rs))) := by rw [ek_1]; exact hD
  refine lv_ldc2 (v := 821) hx hb hown (hts (.constantLong RX7 156 (821)) (List.mem_of_getElem? (i := 2) rfl)) dX7_digest_5 ?_
  refine lv_lstore_n (lv' := [(1, .long 821), (0, .ref (o 0))]) hx hb dX7_digest_8 rfl hl (by decide) rfl (fun ls hl => ?_)
  refine lv_iconst (v := 0) hx hb dX7_digest_9 (by decide) ?_
  refine lv_istore_n (lv' := [(3, .int 0), (1, .long 821), (0, .ref (o 0))]) hx hb dX7_digest_10 rfl hl (by decide) rfl (fun ls hl => ?_)
  have L11_2 : ∀ (n : Nat) (kc_2 ks_2 : Nat) (_ : kc_2 + n * 2 ≤ 24) (_ : ks_2 + n * 14 ≤ 168) (x1_2 : Int64) (x3_2 : Int32)  (z1_2 : Int64) (z3_2 : Int32)  (_ : lp (fun s => fX7_digest_B11 T t M k_1 s.1 s.2) n (x1_2, x3_2) = some (z1_2, z3_2)) (_ : ∀ (H : Heap) (locs : List Loc) (ls : Array Slot), va_P D vwCl (ms cI q o T t ++ (mo cI o (q 0) (u 0) M k_1 ++ (ms cI u o V v ++ rs))) H → va_D A (ms cI q o T t ++ (mo cI o (q 0) (u 0) M k_1 ++ (ms cI u o V v ++ rs))) → va_S A s.heap H locs → lv_has ls 5 [(0, .ref (o 0)), (1, .long z1_2), (3, .int z3_2)] → W p l e (headSpec wsX7_digest ({ frames := 3, cells := 216, slots := 1128, locals := 69 } : Room)).room s m ([.ref (o 0)] : List Value).toArray below meth c H locs (24) (168) (QL below D (ms cI q o T t ++ (mo cI o (q 0) (u 0) M k' ++ (ms cI u o V v ++ rs))) r' ([.ref (o 0)] : List Value).toArray s 216 1128 A) (F0 m 36 ls [])) (H : Heap) (locs : List Loc) (ls : Array Slot), va_P D vwCl (ms cI q o T t ++ (mo cI o (q 0) (u 0) M k_1 ++ (ms cI u o V v ++ rs))) H → va_D A (ms cI q o T t ++ (mo cI o (q 0) (u 0) M k_1 ++ (ms cI u o V v ++ rs))) → va_S A s.heap H locs → lv_has ls 5 [(0, .ref (o 0)), (1, .long x1_2), (3, .int x3_2)] → W p l e (headSpec wsX7_digest ({ frames := 3, cells := 216, slots := 1128, locals := 69 } : Room)).room s m ([.ref (o 0)] : List Value).toArray below meth c H locs (kc_2) (ks_2) (QL below D (ms cI q o T t ++ (mo cI o (q 0) (u 0) M k' ++ (ms cI u o V v ++ rs))) r' ([.ref (o 0)] : List Value).toArray s 216 1128 A) (F0 m 11 ls []) := by
    intro n
    induction n with
    | zero => intro kc_2 ks_2 hkc_2 hks_2 x1_2 x3_2 z1_2 z3_2 h; exact (lp_0 h).elim
    | succ n ih =>
      intro kc_2 ks_2 hkc_2 hks_2 x1_2 x3_2 z1_2 z3_2 h kk H locs ls hP hD hS hl
      obtain ⟨z, h, hz⟩ := lp_walk h
      have h : fX7_digest_B11 T t M k_1 x1_2 x3_2 = some z := h
      unfold fX7_digest_B11 at h
      refine lv_iload_n hx hb dX7_digest_11 rfl (lv_at hl 2 rfl) ?_
      refine lv_bipush (v := 10) hx hb dX7_digest_12 (by decide) ?_
      refine lv_icmp_gt (tgt := 36) hx hb dX7_digest_14 (by decide) (fun c_3 => ?_) (fun c_3 => ?_)
      · have h := ip_ h c_3
        cases lz_e h hz
        refine W.widen (k := 24) (n := 168) (by omega) (by omega) ?_
        exact kk _ _ _ hP hD hS (lv_sub hl [0, 1, 2] rfl)
      · have h := in_ h c_3
        refine lv_lload_n hx hb dX7_digest_17 rfl (lv_at hl 1 rfl) ?_
        refine lv_ldc2 (v := 31) hx hb hown (hts (.constantLong RX7 158 (31)) (List.mem_of_getElem? (i := 3) rfl)) dX7_digest_18 ?_
        refine lv_lmul hx hb dX7_digest_21 ?_
        refine lv_aload_n hx hb dX7_digest_22 rfl (lv_at hl 0 rfl) ?_
        refine lv_iload_n hx hb dX7_digest_23 rfl (lv_at hl 2 rfl) ?_
        obtain ⟨r_4, hx_5, h⟩ := bd_I h
        refine kVi (As := [.int x3_2]) (rest := [.long (x1_2 * 31)]) B hK hN hP hD hS hA (c_X7_counted l D cI cJ q u o T t M k_1 V v x3_2 r_4 rs hx_5) (cwV 1 hts gX7_digest_X7_counted rfl rfl rfl (by decide +kernel) ⟨(Nat.le_of_ble_eq_true rfl), (Nat.le_of_ble_eq_true rfl)⟩) 10 5 rfl rfl rfl hl.1 rfl (Nat.le_of_ble_eq_true rfl) dX7_digest_24 ⟨Nat.le_trans (show kc_2 + 2 ≤ 216 by omega) (Nat.le_of_ble_eq_true rfl), Nat.le_trans (show ks_2 + 14 ≤ 1128 by omega) (Nat.le_of_ble_eq_true rfl)⟩ rfl (fun H locs hP hD hS => ?_)
        refine lv_i2l hx hb dX7_digest_27 rfl ?_
        refine lv_ladd hx hb dX7_digest_28 ?_
        obtain ⟨y1_6, ey1_6, h⟩ := lt_I h
        rw [← ey1_6]
        refine lv_lstore_n (lv' := [(1, .long y1_6), (0, .ref (o 0)), (3, .int x3_2)]) hx hb dX7_digest_29 rfl hl (by decide) rfl (fun ls hl => ?_)
        refine lv_iinc (v := x3_2 + 1) (lv' := [(3, .int (x3_2 + 1)), (1, .long y1_6), (0, .ref (o 0))]) hx hb dX7_digest_30 hl (k := 2) rfl rfl (by decide) rfl (fun ls hl => ?_)
        refine lv_goto (tgt := 11) hx hb dX7_digest_33 (by decide) ?_
        exact ih (kc_2 + 2) (ks_2 + 14) (by omega) (by omega) y1_6 (x3_2 + 1) _ _ (lz_c h hz) kk _ _ _ hP hD hS (lv_sub hl [2, 1, 0] rfl)
  obtain ⟨z1_2, z3_2, hl_2, h⟩ := b2_I h
  refine L11_2 12 0 0 (by omega) (by omega) 821 0  z1_2 z3_2 hl_2 (fun H locs ls hP hD hS hl => ?_) _ _ _ hP hD hS (lv_sub hl [2, 1, 0] rfl)
  refine lv_iconst (v := 0) hx hb dX7_digest_36 (by decide) ?_
  refine lv_istore_n (lv' := [(3, .int 0), (0, .ref (o 0)), (1, .long z1_2)]) hx hb dX7_digest_37 rfl hl (by decide) rfl (fun ls hl => ?_)
  have L38_7 : ∀ (n : Nat) (x1_7 : Int64) (x3_7 : Int32)  (z1_7 : Int64) (z3_7 : Int32)  (_ : lp (fun s => fX7_digest_B38 M s.1 s.2) n (x1_7, x3_7) = some (z1_7, z3_7)) (_ : ∀ (H : Heap) (locs : List Loc) (ls : Array Slot), va_P D vwCl (ms cI q o T t ++ (mo cI o (q 0) (u 0) M k_1 ++ (ms cI u o V v ++ rs))) H → va_D A (ms cI q o T t ++ (mo cI o (q 0) (u 0) M k_1 ++ (ms cI u o V v ++ rs))) → va_S A s.heap H locs → lv_has ls 5 [(0, .ref (o 0)), (1, .long z1_7), (3, .int z3_7)] → W p l e (headSpec wsX7_digest ({ frames := 3, cells := 216, slots := 1128, locals := 69 } : Room)).room s m ([.ref (o 0)] : List Value).toArray below meth c H locs (24) (168) (QL below D (ms cI q o T t ++ (mo cI o (q 0) (u 0) M k' ++ (ms cI u o V v ++ rs))) r' ([.ref (o 0)] : List Value).toArray s 216 1128 A) (F0 m 64 ls [])) (H : Heap) (locs : List Loc) (ls : Array Slot), va_P D vwCl (ms cI q o T t ++ (mo cI o (q 0) (u 0) M k_1 ++ (ms cI u o V v ++ rs))) H → va_D A (ms cI q o T t ++ (mo cI o (q 0) (u 0) M k_1 ++ (ms cI u o V v ++ rs))) → va_S A s.heap H locs → lv_has ls 5 [(0, .ref (o 0)), (1, .long x1_7), (3, .int x3_7)] → W p l e (headSpec wsX7_digest ({ frames := 3, cells := 216, slots := 1128, locals := 69 } : Room)).room s m ([.ref (o 0)] : List Value).toArray below meth c H locs (24) (168) (QL below D (ms cI q o T t ++ (mo cI o (q 0) (u 0) M k' ++ (ms cI u o V v ++ rs))) r' ([.ref (o 0)] : List Value).toArray s 216 1128 A) (F0 m 38 ls []) := by
    intro n
    induction n with
    | zero => intro x1_7 x3_7 z1_7 z3_7 h; exact (lp_0 h).elim
    | succ n ih =>
      intro x1_7 x3_7 z1_7 z3_7 h kk H locs ls hP hD hS hl
      obtain ⟨z, h, hz⟩ := lp_walk h
      have h : fX7_digest_B38 M x1_7 x3_7 = some z := h
      unfold fX7_digest_B38 at h
      refine lv_iload_n hx hb dX7_digest_38 rfl (lv_at hl 2 rfl) ?_
      refine lv_bipush (v := 7) hx hb dX7_digest_39 (by decide) ?_
      refine lv_icmp_ge (tgt := 64) hx hb dX7_digest_41 (by decide) (fun c_8 => ?_) (fun c_8 => ?_)
      · have h := ip_ h c_8
        cases lz_e h hz
        exact kk _ _ _ hP hD hS (lv_sub hl [0, 1, 2] rfl)
      · have h := in_ h c_8
        refine lv_lload_n hx hb dX7_digest_44 rfl (lv_at hl 1 rfl) ?_
        refine lv_ldc2 (v := 31) hx hb hown (hts (.constantLong RX7 158 (31)) (List.mem_of_getElem? (i := 3) rfl)) dX7_digest_45 ?_
        refine lv_lmul hx hb dX7_digest_48 ?_
        refine lv_aload_n hx hb dX7_digest_49 rfl (lv_at hl 0 rfl) ?_
        refine va_get (ci := 10) (v := .ref (o 3)) (C := RX7) (T := TX7) (N := 15) hx hb hts hi_X7 hown hK hP 5 rfl rfl 4 (by decide) (hts (.fieldLink RX7 16 "WishWellModel" "tide" "[I") (List.mem_of_getElem? (i := 4) rfl)) (fun _ h9 => h9) rfl dX7_digest_50 ?_
        refine lv_iload_n hx hb dX7_digest_53 rfl (lv_at hl 2 rfl) ?_
        obtain ⟨c_9, h⟩ := gd_I h
        refine va_iald hx hb hK hP 8 0 rfl rfl c_9 dX7_digest_54 ?_
        refine lv_i2l hx hb dX7_digest_55 rfl ?_
        refine lv_ladd hx hb dX7_digest_56 ?_
        obtain ⟨y1_10, ey1_10, h⟩ := lt_I h
        rw [← ey1_10]
        refine lv_lstore_n (lv' := [(1, .long y1_10), (0, .ref (o 0)), (3, .int x3_7)]) hx hb dX7_digest_57 rfl hl (by decide) rfl (fun ls hl => ?_)
        refine lv_iinc (v := x3_7 + 1) (lv' := [(3, .int (x3_7 + 1)), (1, .long y1_10), (0, .ref (o 0))]) hx hb dX7_digest_58 hl (k := 2) rfl rfl (by decide) rfl (fun ls hl => ?_)
        refine lv_goto (tgt := 38) hx hb dX7_digest_61 (by decide) ?_
        exact ih y1_10 (x3_7 + 1) _ _ (lz_c h hz) kk _ _ _ hP hD hS (lv_sub hl [2, 1, 0] rfl)
  obtain ⟨z1_7, z3_7, hl_7, h⟩ := b2_I h
  refine L38_7 8 z1_2 0  z1_7 z3_7 hl_7 (fun H locs ls hP hD hS hl => ?_) _ _ _ hP hD hS (lv_sub hl [1, 2, 0] rfl)
  refine lv_iconst (v := 0) hx hb dX7_digest_64 (by decide) ?_
  refine lv_istore_n (lv' := [(3, .int 0), (0, .ref (o 0)), (1, .long z1_7)]) hx hb dX7_digest_65 rfl hl (by decide) rfl (fun ls hl => ?_)
  have L66_11 : ∀ (n : Nat) (kc_11 ks_11 : Nat) (_ : kc_11 + n * 6 ≤ 66) (_ : ks_11 + n * 30 ≤ 378) (x1_11 : Int64) (x3_11 : Int32)  (z1_11 : Int64) (z3_11 : Int32)  (_ : lp (fun s => fX7_digest_B66 T M k_1 s.1 s.2) n (x1_11, x3_11) = some (z1_11, z3_11)) (_ : ∀ (H : Heap) (locs : List Loc) (ls : Array Slot), va_P D vwCl (ms cI q o T t ++ (mo cI o (q 0) (u 0) M k_1 ++ (ms cI u o V v ++ rs))) H → va_D A (ms cI q o T t ++ (mo cI o (q 0) (u 0) M k_1 ++ (ms cI u o V v ++ rs))) → va_S A s.heap H locs → lv_has ls 5 [(0, .ref (o 0)), (1, .long z1_11), (3, .int z3_11)] → W p l e (headSpec wsX7_digest ({ frames := 3, cells := 216, slots := 1128, locals := 69 } : Room)).room s m ([.ref (o 0)] : List Value).toArray below meth c H locs (66) (378) (QL below D (ms cI q o T t ++ (mo cI o (q 0) (u 0) M k' ++ (ms cI u o V v ++ rs))) r' ([.ref (o 0)] : List Value).toArray s 216 1128 A) (F0 m 123 ls [])) (H : Heap) (locs : List Loc) (ls : Array Slot), va_P D vwCl (ms cI q o T t ++ (mo cI o (q 0) (u 0) M k_1 ++ (ms cI u o V v ++ rs))) H → va_D A (ms cI q o T t ++ (mo cI o (q 0) (u 0) M k_1 ++ (ms cI u o V v ++ rs))) → va_S A s.heap H locs → lv_has ls 5 [(0, .ref (o 0)), (1, .long x1_11), (3, .int x3_11)] → W p l e (headSpec wsX7_digest ({ frames := 3, cells := 216, slots := 1128, locals := 69 } : Room)).room s m ([.ref (o 0)] : List Value).toArray below meth c H locs (kc_11) (ks_11) (QL below D (ms cI q o T t ++ (mo cI o (q 0) (u 0) M k' ++ (ms cI u o V v ++ rs))) r' ([.ref (o 0)] : List Value).toArray s 216 1128 A) (F0 m 66 ls []) := by
    intro n
    induction n with
    | zero => intro kc_11 ks_11 hkc_11 hks_11 x1_11 x3_11 z1_11 z3_11 h; exact (lp_0 h).elim
    | succ n ih =>
      intro kc_11 ks_11 hkc_11 hks_11 x1_11 x3_11 z1_11 z3_11 h kk H locs ls hP hD hS hl
      obtain ⟨z, h, hz⟩ := lp_walk h
      have h : fX7_digest_B66 T M k_1 x1_11 x3_11 = some z := h
      unfold fX7_digest_B66 at h
      refine lv_iload_n hx hb dX7_digest_66 rfl (lv_at hl 2 rfl) ?_
      refine lv_aload_n hx hb dX7_digest_67 rfl (lv_at hl 0 rfl) ?_
      refine va_get (ci := 10) (v := .int (k_1 1)) (C := RX7) (T := TX7) (N := 15) hx hb hts hi_X7 hown hK hP 5 rfl rfl 1 (by decide) (hts (.fieldLink RX7 50 "WishWellModel" "lands" "I") (List.mem_of_getElem? (i := 5) rfl)) (fun _ h9 => h9) rfl dX7_digest_68 ?_
      refine lv_icmp_ge (tgt := 123) hx hb dX7_digest_71 (by decide) (fun c_12 => ?_) (fun c_12 => ?_)
      · have h := ip_ h c_12
        cases lz_e h hz
        refine W.widen (k := 66) (n := 378) (by omega) (by omega) ?_
        exact kk _ _ _ hP hD hS (lv_sub hl [0, 1, 2] rfl)
      · have h := in_ h c_12
        refine lv_iconst (v := 0) hx hb dX7_digest_74 (by decide) ?_
        refine lv_istore (lv' := [(4, .int 0), (0, .ref (o 0)), (1, .long x1_11), (3, .int x3_11)]) hx hb dX7_digest_75 hl (by decide) rfl (fun ls hl => ?_)
        have L77_13 : ∀ (n : Nat) (kc_13 ks_13 : Nat) (_ : kc_13 + n * 1 ≤ (kc_11 + 6)) (_ : ks_13 + n * 5 ≤ (ks_11 + 30)) (x1_13 : Int64) (x4_13 : Int32)  (z1_13 : Int64) (z4_13 : Int32)  (_ : lp (fun s => fX7_digest_B77 T M x3_11 s.1 s.2) n (x1_13, x4_13) = some (z1_13, z4_13)) (_ : ∀ (H : Heap) (locs : List Loc) (ls : Array Slot), va_P D vwCl (ms cI q o T t ++ (mo cI o (q 0) (u 0) M k_1 ++ (ms cI u o V v ++ rs))) H → va_D A (ms cI q o T t ++ (mo cI o (q 0) (u 0) M k_1 ++ (ms cI u o V v ++ rs))) → va_S A s.heap H locs → lv_has ls 5 [(0, .ref (o 0)), (1, .long z1_13), (3, .int x3_11), (4, .int z4_13)] → W p l e (headSpec wsX7_digest ({ frames := 3, cells := 216, slots := 1128, locals := 69 } : Room)).room s m ([.ref (o 0)] : List Value).toArray below meth c H locs (kc_11 + 6) (ks_11 + 30) (QL below D (ms cI q o T t ++ (mo cI o (q 0) (u 0) M k' ++ (ms cI u o V v ++ rs))) r' ([.ref (o 0)] : List Value).toArray s 216 1128 A) (F0 m 104 ls [])) (H : Heap) (locs : List Loc) (ls : Array Slot), va_P D vwCl (ms cI q o T t ++ (mo cI o (q 0) (u 0) M k_1 ++ (ms cI u o V v ++ rs))) H → va_D A (ms cI q o T t ++ (mo cI o (q 0) (u 0) M k_1 ++ (ms cI u o V v ++ rs))) → va_S A s.heap H locs → lv_has ls 5 [(0, .ref (o 0)), (1, .long x1_13), (3, .int x3_11), (4, .int x4_13)] → W p l e (headSpec wsX7_digest ({ frames := 3, cells := 216, slots := 1128, locals := 69 } : Room)).room s m ([.ref (o 0)] : List Value).toArray below meth c H locs (kc_13) (ks_13) (QL below D (ms cI q o T t ++ (mo cI o (q 0) (u 0) M k' ++ (ms cI u o V v ++ rs))) r' ([.ref (o 0)] : List Value).toArray s 216 1128 A) (F0 m 77 ls []) := by
          intro n
          induction n with
          | zero => intro kc_13 ks_13 hkc_13 hks_13 x1_13 x4_13 z1_13 z4_13 h; exact (lp_0 h).elim
          | succ n ih =>
            intro kc_13 ks_13 hkc_13 hks_13 x1_13 x4_13 z1_13 z4_13 h kk H locs ls hP hD hS hl
            obtain ⟨z, h, hz⟩ := lp_walk h
            have h : fX7_digest_B77 T M x3_11 x1_13 x4_13 = some z := h
            unfold fX7_digest_B77 at h
            refine lv_iload hx hb dX7_digest_77 (lv_at hl 3 rfl) ?_
            refine lv_iconst (v := 4) hx hb dX7_digest_79 (by decide) ?_
            refine lv_icmp_gt (tgt := 104) hx hb dX7_digest_80 (by decide) (fun c_14 => ?_) (fun c_14 => ?_)
            · have h := ip_ h c_14
              cases lz_e h hz
              refine W.widen (k := (kc_11 + 6)) (n := (ks_11 + 30)) (by omega) (by omega) ?_
              exact kk _ _ _ hP hD hS (lv_sub hl [0, 1, 2, 3] rfl)
            · have h := in_ h c_14
              refine lv_lload_n hx hb dX7_digest_83 rfl (lv_at hl 1 rfl) ?_
              refine lv_ldc2 (v := 31) hx hb hown (hts (.constantLong RX7 158 (31)) (List.mem_of_getElem? (i := 3) rfl)) dX7_digest_84 ?_
              refine lv_lmul hx hb dX7_digest_87 ?_
              refine lv_aload_n hx hb dX7_digest_88 rfl (lv_at hl 0 rfl) ?_
              refine lv_iload_n hx hb dX7_digest_89 rfl (lv_at hl 2 rfl) ?_
              refine lv_iload hx hb dX7_digest_90 (lv_at hl 3 rfl) ?_
              obtain ⟨r_15, hx_16, h⟩ := bd_I h
              refine kVi (As := [.int x3_11, .int x4_13]) (rest := [.long (x1_13 * 31)]) B hK hN hP hD hS hA (c_X7_landTold l D cI cJ q u o T t M k_1 V v x3_11 x4_13 r_15 rs hx_16) (cwV 2 hts gX7_digest_X7_landTold rfl rfl rfl (by decide +kernel) ⟨(Nat.le_of_ble_eq_true rfl), (Nat.le_of_ble_eq_true rfl)⟩) 10 5 rfl rfl rfl hl.1 rfl (Nat.le_of_ble_eq_true rfl) dX7_digest_92 ⟨Nat.le_trans (show kc_13 + 1 ≤ 216 by omega) (Nat.le_of_ble_eq_true rfl), Nat.le_trans (show ks_13 + 5 ≤ 1128 by omega) (Nat.le_of_ble_eq_true rfl)⟩ rfl (fun H locs hP hD hS => ?_)
              refine lv_i2l hx hb dX7_digest_95 rfl ?_
              refine lv_ladd hx hb dX7_digest_96 ?_
              obtain ⟨y1_17, ey1_17, h⟩ := lt_I h
              rw [← ey1_17]
              refine lv_lstore_n (lv' := [(1, .long y1_17), (0, .ref (o 0)), (3, .int x3_11), (4, .int x4_13)]) hx hb dX7_digest_97 rfl hl (by decide) rfl (fun ls hl => ?_)
              refine lv_iinc (v := x4_13 + 1) (lv' := [(4, .int (x4_13 + 1)), (1, .long y1_17), (0, .ref (o 0)), (3, .int x3_11)]) hx hb dX7_digest_98 hl (k := 3) rfl rfl (by decide) rfl (fun ls hl => ?_)
              refine lv_goto (tgt := 77) hx hb dX7_digest_101 (by decide) ?_
              exact ih (kc_13 + 1) (ks_13 + 5) (by omega) (by omega) y1_17 (x4_13 + 1) _ _ (lz_c h hz) kk _ _ _ hP hD hS (lv_sub hl [2, 1, 3, 0] rfl)
        obtain ⟨z1_13, z4_13, hl_13, h⟩ := b2_I h
        refine L77_13 6 kc_11 ks_11 (by omega) (by omega) x1_11 0  z1_13 z4_13 hl_13 (fun H locs ls hP hD hS hl => ?_) _ _ _ hP hD hS (lv_sub hl [1, 2, 3, 0] rfl)
        refine lv_lload_n hx hb dX7_digest_104 rfl (lv_at hl 1 rfl) ?_
        refine lv_ldc2 (v := 31) hx hb hown (hts (.constantLong RX7 158 (31)) (List.mem_of_getElem? (i := 3) rfl)) dX7_digest_105 ?_
        refine lv_lmul hx hb dX7_digest_108 ?_
        refine lv_aload_n hx hb dX7_digest_109 rfl (lv_at hl 0 rfl) ?_
        refine lv_iload_n hx hb dX7_digest_110 rfl (lv_at hl 2 rfl) ?_
        obtain ⟨r_18, hx_19, h⟩ := bd_I h
        refine kVi (As := [.int x3_11]) (rest := [.long (z1_13 * 31)]) B hK hN hP hD hS hA (c_X7_missed l D cI cJ q u o T t M k_1 V v x3_11 r_18 rs hx_19) (cwV 1 hts gX7_digest_X7_missed rfl rfl rfl (by decide +kernel) ⟨(Nat.le_of_ble_eq_true rfl), (Nat.le_of_ble_eq_true rfl)⟩) 10 5 rfl rfl rfl hl.1 rfl (Nat.le_of_ble_eq_true rfl) dX7_digest_111 ⟨Nat.le_trans (show kc_11 + 6 + 0 ≤ 216 by omega) (Nat.le_of_ble_eq_true rfl), Nat.le_trans (show ks_11 + 30 + 0 ≤ 1128 by omega) (Nat.le_of_ble_eq_true rfl)⟩ rfl (fun H locs hP hD hS => ?_)
        refine lv_i2l hx hb dX7_digest_114 rfl ?_
        refine lv_ladd hx hb dX7_digest_115 ?_
        obtain ⟨y1_20, ey1_20, h⟩ := lt_I h
        rw [← ey1_20]
        refine lv_lstore_n (lv' := [(1, .long y1_20), (0, .ref (o 0)), (3, .int x3_11), (4, .int z4_13)]) hx hb dX7_digest_116 rfl hl (by decide) rfl (fun ls hl => ?_)
        refine lv_iinc (v := x3_11 + 1) (lv' := [(3, .int (x3_11 + 1)), (1, .long y1_20), (0, .ref (o 0)), (4, .int z4_13)]) hx hb dX7_digest_117 hl (k := 2) rfl rfl (by decide) rfl (fun ls hl => ?_)
        refine lv_goto (tgt := 66) hx hb dX7_digest_120 (by decide) ?_
        exact ih (kc_11 + 6) (ks_11 + 30) (by omega) (by omega) y1_20 (x3_11 + 1) _ _ (lz_c h hz) kk _ _ _ hP hD hS (lv_sub hl [2, 1, 0] rfl)
  obtain ⟨z1_11, z3_11, hl_11, h⟩ := b2_I h
  refine L66_11 7 24 168 (by omega) (by omega) z1_7 0  z1_11 z3_11 hl_11 (fun H locs ls hP hD hS hl => ?_) _ _ _ hP hD hS (lv_sub hl [1, 2, 0] rfl)
  refine lv_iconst (v := 0) hx hb dX7_digest_123 (by decide) ?_
  refine lv_istore_n (lv' := [(3, .int 0), (0, .ref (o 0)), (1, .long z1_11)]) hx hb dX7_digest_124 rfl hl (by decide) rfl (fun ls hl => ?_)
  have L125_21 : ∀ (n : Nat) (x1_21 : Int64) (x3_21 : Int32)  (z1_21 : Int64) (z3_21 : Int32)  (_ : lp (fun s => fX7_digest_B125 T k_1 s.1 s.2) n (x1_21, x3_21) = some (z1_21, z3_21)) (_ : ∀ (H : Heap) (locs : List Loc) (ls : Array Slot), va_P D vwCl (ms cI q o T t ++ (mo cI o (q 0) (u 0) M k_1 ++ (ms cI u o V v ++ rs))) H → va_D A (ms cI q o T t ++ (mo cI o (q 0) (u 0) M k_1 ++ (ms cI u o V v ++ rs))) → va_S A s.heap H locs → lv_has ls 5 [(0, .ref (o 0)), (1, .long z1_21), (3, .int z3_21)] → W p l e (headSpec wsX7_digest ({ frames := 3, cells := 216, slots := 1128, locals := 69 } : Room)).room s m ([.ref (o 0)] : List Value).toArray below meth c H locs (66) (378) (QL below D (ms cI q o T t ++ (mo cI o (q 0) (u 0) M k' ++ (ms cI u o V v ++ rs))) r' ([.ref (o 0)] : List Value).toArray s 216 1128 A) (F0 m 177 ls [])) (H : Heap) (locs : List Loc) (ls : Array Slot), va_P D vwCl (ms cI q o T t ++ (mo cI o (q 0) (u 0) M k_1 ++ (ms cI u o V v ++ rs))) H → va_D A (ms cI q o T t ++ (mo cI o (q 0) (u 0) M k_1 ++ (ms cI u o V v ++ rs))) → va_S A s.heap H locs → lv_has ls 5 [(0, .ref (o 0)), (1, .long x1_21), (3, .int x3_21)] → W p l e (headSpec wsX7_digest ({ frames := 3, cells := 216, slots := 1128, locals := 69 } : Room)).room s m ([.ref (o 0)] : List Value).toArray below meth c H locs (66) (378) (QL below D (ms cI q o T t ++ (mo cI o (q 0) (u 0) M k' ++ (ms cI u o V v ++ rs))) r' ([.ref (o 0)] : List Value).toArray s 216 1128 A) (F0 m 125 ls []) := by
    intro n
    induction n with
    | zero => intro x1_21 x3_21 z1_21 z3_21 h; exact (lp_0 h).elim
    | succ n ih =>
      intro x1_21 x3_21 z1_21 z3_21 h kk H locs ls hP hD hS hl
      obtain ⟨z, h, hz⟩ := lp_walk h
      have h : fX7_digest_B125 T k_1 x1_21 x3_21 = some z := h
      unfold fX7_digest_B125 at h
      refine lv_iload_n hx hb dX7_digest_125 rfl (lv_at hl 2 rfl) ?_
      refine lv_iconst (v := 5) hx hb dX7_digest_126 (by decide) ?_
      refine lv_icmp_ge (tgt := 177) hx hb dX7_digest_127 (by decide) (fun c_22 => ?_) (fun c_22 => ?_)
      · have h := ip_ h c_22
        cases lz_e h hz
        exact kk _ _ _ hP hD hS (lv_sub hl [0, 1, 2] rfl)
      · have h := in_ h c_22
        refine lv_iconst (v := 0) hx hb dX7_digest_130 (by decide) ?_
        refine lv_istore (lv' := [(4, .int 0), (0, .ref (o 0)), (1, .long x1_21), (3, .int x3_21)]) hx hb dX7_digest_131 hl (by decide) rfl (fun ls hl => ?_)
        have L133_23 : ∀ (n : Nat) (x1_23 : Int64) (x4_23 : Int32)  (z1_23 : Int64) (z4_23 : Int32)  (_ : lp (fun s => fX7_digest_B133 T x3_21 k_1 s.1 s.2) n (x1_23, x4_23) = some (z1_23, z4_23)) (_ : ∀ (H : Heap) (locs : List Loc) (ls : Array Slot), va_P D vwCl (ms cI q o T t ++ (mo cI o (q 0) (u 0) M k_1 ++ (ms cI u o V v ++ rs))) H → va_D A (ms cI q o T t ++ (mo cI o (q 0) (u 0) M k_1 ++ (ms cI u o V v ++ rs))) → va_S A s.heap H locs → lv_has ls 5 [(0, .ref (o 0)), (1, .long z1_23), (3, .int x3_21), (4, .int z4_23)] → W p l e (headSpec wsX7_digest ({ frames := 3, cells := 216, slots := 1128, locals := 69 } : Room)).room s m ([.ref (o 0)] : List Value).toArray below meth c H locs (66) (378) (QL below D (ms cI q o T t ++ (mo cI o (q 0) (u 0) M k' ++ (ms cI u o V v ++ rs))) r' ([.ref (o 0)] : List Value).toArray s 216 1128 A) (F0 m 171 ls [])) (H : Heap) (locs : List Loc) (ls : Array Slot), va_P D vwCl (ms cI q o T t ++ (mo cI o (q 0) (u 0) M k_1 ++ (ms cI u o V v ++ rs))) H → va_D A (ms cI q o T t ++ (mo cI o (q 0) (u 0) M k_1 ++ (ms cI u o V v ++ rs))) → va_S A s.heap H locs → lv_has ls 5 [(0, .ref (o 0)), (1, .long x1_23), (3, .int x3_21), (4, .int x4_23)] → W p l e (headSpec wsX7_digest ({ frames := 3, cells := 216, slots := 1128, locals := 69 } : Room)).room s m ([.ref (o 0)] : List Value).toArray below meth c H locs (66) (378) (QL below D (ms cI q o T t ++ (mo cI o (q 0) (u 0) M k' ++ (ms cI u o V v ++ rs))) r' ([.ref (o 0)] : List Value).toArray s 216 1128 A) (F0 m 133 ls []) := by
          intro n
          induction n with
          | zero => intro x1_23 x4_23 z1_23 z4_23 h; exact (lp_0 h).elim
          | succ n ih =>
            intro x1_23 x4_23 z1_23 z4_23 h kk H locs ls hP hD hS hl
            obtain ⟨z, h, hz⟩ := lp_walk h
            have h : fX7_digest_B133 T x3_21 k_1 x1_23 x4_23 = some z := h
            unfold fX7_digest_B133 at h
            refine lv_iload hx hb dX7_digest_133 (lv_at hl 3 rfl) ?_
            refine lv_aload_n hx hb dX7_digest_135 rfl (lv_at hl 0 rfl) ?_
            refine va_get (ci := 10) (v := .int (k_1 1)) (C := RX7) (T := TX7) (N := 15) hx hb hts hi_X7 hown hK hP 5 rfl rfl 1 (by decide) (hts (.fieldLink RX7 50 "WishWellModel" "lands" "I") (List.mem_of_getElem? (i := 5) rfl)) (fun _ h9 => h9) rfl dX7_digest_136 ?_
            refine lv_icmp_ge (tgt := 171) hx hb dX7_digest_139 (by decide) (fun c_24 => ?_) (fun c_24 => ?_)
            · have h := ip_ h c_24
              cases lz_e h hz
              exact kk _ _ _ hP hD hS (lv_sub hl [0, 1, 2, 3] rfl)
            · have h := in_ h c_24
              refine lv_lload_n hx hb dX7_digest_142 rfl (lv_at hl 1 rfl) ?_
              refine lv_ldc2 (v := 31) hx hb hown (hts (.constantLong RX7 158 (31)) (List.mem_of_getElem? (i := 3) rfl)) dX7_digest_143 ?_
              refine lv_lmul hx hb dX7_digest_146 ?_
              refine lv_aload_n hx hb dX7_digest_147 rfl (lv_at hl 0 rfl) ?_
              refine va_get (ci := 10) (v := .ref (q 0)) (C := RX7) (T := TX7) (N := 15) hx hb hts hi_X7 hown hK hP 5 rfl rfl 13 (by decide) (hts (.fieldLink RX7 39 "WishWellModel" "s" "LWishWellModel$State;") (List.mem_of_getElem? (i := 6) rfl)) (fun _ h9 => h9) rfl dX7_digest_148 ?_
              refine va_getN (own := RX7) (ref := "WishWellModel$State") (host := "WishWellModel") (index := 93) (ci := 9) (v := .ref (q 1)) (C := RX6) (T := TX6) (N := 8) hx hb hts hi_X6 hown hK hP 0 rfl rfl 3 (by decide) (nF_3 hN) (fun _ h9 => h9) rfl dX7_digest_151 ?_
              refine lv_bipush (v := 6) hx hb dX7_digest_154 (by decide) ?_
              refine lv_iload_n hx hb dX7_digest_156 rfl (lv_at hl 2 rfl) ?_
              refine lv_imul hx hb dX7_digest_157 ?_
              refine lv_iload hx hb dX7_digest_158 (lv_at hl 3 rfl) ?_
              refine lv_iadd hx hb dX7_digest_160 ?_
              obtain ⟨c_25, h⟩ := gd_I h
              refine va_iald hx hb hK hP 1 0 rfl rfl c_25 dX7_digest_161 ?_
              refine lv_i2l hx hb dX7_digest_162 rfl ?_
              refine lv_ladd hx hb dX7_digest_163 ?_
              obtain ⟨y1_26, ey1_26, h⟩ := lt_I h
              rw [← ey1_26]
              refine lv_lstore_n (lv' := [(1, .long y1_26), (0, .ref (o 0)), (3, .int x3_21), (4, .int x4_23)]) hx hb dX7_digest_164 rfl hl (by decide) rfl (fun ls hl => ?_)
              refine lv_iinc (v := x4_23 + 1) (lv' := [(4, .int (x4_23 + 1)), (1, .long y1_26), (0, .ref (o 0)), (3, .int x3_21)]) hx hb dX7_digest_165 hl (k := 3) rfl rfl (by decide) rfl (fun ls hl => ?_)
              refine lv_goto (tgt := 133) hx hb dX7_digest_168 (by decide) ?_
              exact ih y1_26 (x4_23 + 1) _ _ (lz_c h hz) kk _ _ _ hP hD hS (lv_sub hl [2, 1, 3, 0] rfl)
        obtain ⟨z1_23, z4_23, hl_23, h⟩ := b2_I h
        refine L133_23 7 x1_21 0  z1_23 z4_23 hl_23 (fun H locs ls hP hD hS hl => ?_) _ _ _ hP hD hS (lv_sub hl [1, 2, 3, 0] rfl)
        refine lv_iinc (v := x3_21 + 1) (lv' := [(3, .int (x3_21 + 1)), (0, .ref (o 0)), (1, .long z1_23), (4, .int z4_23)]) hx hb dX7_digest_171 hl (k := 2) rfl rfl (by decide) rfl (fun ls hl => ?_)
        refine lv_goto (tgt := 125) hx hb dX7_digest_174 (by decide) ?_
        exact ih z1_23 (x3_21 + 1) _ _ (lz_c h hz) kk _ _ _ hP hD hS (lv_sub hl [1, 2, 0] rfl)
  obtain ⟨z1_21, z3_21, hl_21, h⟩ := b2_I h
  refine L125_21 6 z1_11 0  z1_21 z3_21 hl_21 (fun H locs ls hP hD hS hl => ?_) _ _ _ hP hD hS (lv_sub hl [1, 2, 0] rfl)
  refine lv_iconst (v := 0) hx hb dX7_digest_177 (by decide) ?_
  refine lv_istore_n (lv' := [(3, .int 0), (0, .ref (o 0)), (1, .long z1_21)]) hx hb dX7_digest_178 rfl hl (by decide) rfl (fun ls hl => ?_)
  have L179_27 : ∀ (n : Nat) (kc_27 ks_27 : Nat) (_ : kc_27 + n * 6 ≤ 216) (_ : ks_27 + n * 30 ≤ 1128) (x1_27 : Int64) (x3_27 : Int32)  (z1_27 : Int64) (z3_27 : Int32)  (_ : lp (fun s => fX7_digest_B179 T M k_1 s.1 s.2) n (x1_27, x3_27) = some (z1_27, z3_27)) (_ : ∀ (H : Heap) (locs : List Loc) (ls : Array Slot), va_P D vwCl (ms cI q o T t ++ (mo cI o (q 0) (u 0) M k_1 ++ (ms cI u o V v ++ rs))) H → va_D A (ms cI q o T t ++ (mo cI o (q 0) (u 0) M k_1 ++ (ms cI u o V v ++ rs))) → va_S A s.heap H locs → lv_has ls 5 [(0, .ref (o 0)), (1, .long z1_27), (3, .int z3_27)] → W p l e (headSpec wsX7_digest ({ frames := 3, cells := 216, slots := 1128, locals := 69 } : Room)).room s m ([.ref (o 0)] : List Value).toArray below meth c H locs (216) (1128) (QL below D (ms cI q o T t ++ (mo cI o (q 0) (u 0) M k' ++ (ms cI u o V v ++ rs))) r' ([.ref (o 0)] : List Value).toArray s 216 1128 A) (F0 m 223 ls [])) (H : Heap) (locs : List Loc) (ls : Array Slot), va_P D vwCl (ms cI q o T t ++ (mo cI o (q 0) (u 0) M k_1 ++ (ms cI u o V v ++ rs))) H → va_D A (ms cI q o T t ++ (mo cI o (q 0) (u 0) M k_1 ++ (ms cI u o V v ++ rs))) → va_S A s.heap H locs → lv_has ls 5 [(0, .ref (o 0)), (1, .long x1_27), (3, .int x3_27)] → W p l e (headSpec wsX7_digest ({ frames := 3, cells := 216, slots := 1128, locals := 69 } : Room)).room s m ([.ref (o 0)] : List Value).toArray below meth c H locs (kc_27) (ks_27) (QL below D (ms cI q o T t ++ (mo cI o (q 0) (u 0) M k' ++ (ms cI u o V v ++ rs))) r' ([.ref (o 0)] : List Value).toArray s 216 1128 A) (F0 m 179 ls []) := by
    intro n
    induction n with
    | zero => intro kc_27 ks_27 hkc_27 hks_27 x1_27 x3_27 z1_27 z3_27 h; exact (lp_0 h).elim
    | succ n ih =>
      intro kc_27 ks_27 hkc_27 hks_27 x1_27 x3_27 z1_27 z3_27 h kk H locs ls hP hD hS hl
      obtain ⟨z, h, hz⟩ := lp_walk h
      have h : fX7_digest_B179 T M k_1 x1_27 x3_27 = some z := h
      unfold fX7_digest_B179 at h
      refine lv_iload_n hx hb dX7_digest_179 rfl (lv_at hl 2 rfl) ?_
      refine lv_aload_n hx hb dX7_digest_180 rfl (lv_at hl 0 rfl) ?_
      refine va_get (ci := 10) (v := .int (k_1 2)) (C := RX7) (T := TX7) (N := 15) hx hb hts hi_X7 hown hK hP 5 rfl rfl 7 (by decide) (hts (.fieldLink RX7 57 "WishWellModel" "wishes" "I") (List.mem_of_getElem? (i := 7) rfl)) (fun _ h9 => h9) rfl dX7_digest_181 ?_
      refine lv_icmp_ge (tgt := 223) hx hb dX7_digest_184 (by decide) (fun c_28 => ?_) (fun c_28 => ?_)
      · have h := ip_ h c_28
        cases lz_e h hz
        refine W.widen (k := 216) (n := 1128) (by omega) (by omega) ?_
        exact kk _ _ _ hP hD hS (lv_sub hl [0, 1, 2] rfl)
      · have h := in_ h c_28
        refine lv_iconst (v := 0) hx hb dX7_digest_187 (by decide) ?_
        refine lv_istore (lv' := [(4, .int 0), (0, .ref (o 0)), (1, .long x1_27), (3, .int x3_27)]) hx hb dX7_digest_188 hl (by decide) rfl (fun ls hl => ?_)
        have L190_29 : ∀ (n : Nat) (kc_29 ks_29 : Nat) (_ : kc_29 + n * 1 ≤ (kc_27 + 6)) (_ : ks_29 + n * 5 ≤ (ks_27 + 30)) (x1_29 : Int64) (x4_29 : Int32)  (z1_29 : Int64) (z4_29 : Int32)  (_ : lp (fun s => fX7_digest_B190 T M x3_27 s.1 s.2) n (x1_29, x4_29) = some (z1_29, z4_29)) (_ : ∀ (H : Heap) (locs : List Loc) (ls : Array Slot), va_P D vwCl (ms cI q o T t ++ (mo cI o (q 0) (u 0) M k_1 ++ (ms cI u o V v ++ rs))) H → va_D A (ms cI q o T t ++ (mo cI o (q 0) (u 0) M k_1 ++ (ms cI u o V v ++ rs))) → va_S A s.heap H locs → lv_has ls 5 [(0, .ref (o 0)), (1, .long z1_29), (3, .int x3_27), (4, .int z4_29)] → W p l e (headSpec wsX7_digest ({ frames := 3, cells := 216, slots := 1128, locals := 69 } : Room)).room s m ([.ref (o 0)] : List Value).toArray below meth c H locs (kc_27 + 6) (ks_27 + 30) (QL below D (ms cI q o T t ++ (mo cI o (q 0) (u 0) M k' ++ (ms cI u o V v ++ rs))) r' ([.ref (o 0)] : List Value).toArray s 216 1128 A) (F0 m 217 ls [])) (H : Heap) (locs : List Loc) (ls : Array Slot), va_P D vwCl (ms cI q o T t ++ (mo cI o (q 0) (u 0) M k_1 ++ (ms cI u o V v ++ rs))) H → va_D A (ms cI q o T t ++ (mo cI o (q 0) (u 0) M k_1 ++ (ms cI u o V v ++ rs))) → va_S A s.heap H locs → lv_has ls 5 [(0, .ref (o 0)), (1, .long x1_29), (3, .int x3_27), (4, .int x4_29)] → W p l e (headSpec wsX7_digest ({ frames := 3, cells := 216, slots := 1128, locals := 69 } : Room)).room s m ([.ref (o 0)] : List Value).toArray below meth c H locs (kc_29) (ks_29) (QL below D (ms cI q o T t ++ (mo cI o (q 0) (u 0) M k' ++ (ms cI u o V v ++ rs))) r' ([.ref (o 0)] : List Value).toArray s 216 1128 A) (F0 m 190 ls []) := by
          intro n
          induction n with
          | zero => intro kc_29 ks_29 hkc_29 hks_29 x1_29 x4_29 z1_29 z4_29 h; exact (lp_0 h).elim
          | succ n ih =>
            intro kc_29 ks_29 hkc_29 hks_29 x1_29 x4_29 z1_29 z4_29 h kk H locs ls hP hD hS hl
            obtain ⟨z, h, hz⟩ := lp_walk h
            have h : fX7_digest_B190 T M x3_27 x1_29 x4_29 = some z := h
            unfold fX7_digest_B190 at h
            refine lv_iload hx hb dX7_digest_190 (lv_at hl 3 rfl) ?_
            refine lv_iconst (v := 4) hx hb dX7_digest_192 (by decide) ?_
            refine lv_icmp_gt (tgt := 217) hx hb dX7_digest_193 (by decide) (fun c_30 => ?_) (fun c_30 => ?_)
            · have h := ip_ h c_30
              cases lz_e h hz
              refine W.widen (k := (kc_27 + 6)) (n := (ks_27 + 30)) (by omega) (by omega) ?_
              exact kk _ _ _ hP hD hS (lv_sub hl [0, 1, 2, 3] rfl)
            · have h := in_ h c_30
              refine lv_lload_n hx hb dX7_digest_196 rfl (lv_at hl 1 rfl) ?_
              refine lv_ldc2 (v := 31) hx hb hown (hts (.constantLong RX7 158 (31)) (List.mem_of_getElem? (i := 3) rfl)) dX7_digest_197 ?_
              refine lv_lmul hx hb dX7_digest_200 ?_
              refine lv_aload_n hx hb dX7_digest_201 rfl (lv_at hl 0 rfl) ?_
              refine lv_iload_n hx hb dX7_digest_202 rfl (lv_at hl 2 rfl) ?_
              refine lv_iload hx hb dX7_digest_203 (lv_at hl 3 rfl) ?_
              obtain ⟨r_31, hx_32, h⟩ := bd_I h
              refine kVi (As := [.int x3_27, .int x4_29]) (rest := [.long (x1_29 * 31)]) B hK hN hP hD hS hA (c_X7_wishTold l D cI cJ q u o T t M k_1 V v x3_27 x4_29 r_31 rs hx_32) (cwV 2 hts gX7_digest_X7_wishTold rfl rfl rfl (by decide +kernel) ⟨(Nat.le_of_ble_eq_true rfl), (Nat.le_of_ble_eq_true rfl)⟩) 10 5 rfl rfl rfl hl.1 rfl (Nat.le_of_ble_eq_true rfl) dX7_digest_205 ⟨Nat.le_trans (show kc_29 + 1 ≤ 216 by omega) (Nat.le_of_ble_eq_true rfl), Nat.le_trans (show ks_29 + 5 ≤ 1128 by omega) (Nat.le_of_ble_eq_true rfl)⟩ rfl (fun H locs hP hD hS => ?_)
              refine lv_i2l hx hb dX7_digest_208 rfl ?_
              refine lv_ladd hx hb dX7_digest_209 ?_
              obtain ⟨y1_33, ey1_33, h⟩ := lt_I h
              rw [← ey1_33]
              refine lv_lstore_n (lv' := [(1, .long y1_33), (0, .ref (o 0)), (3, .int x3_27), (4, .int x4_29)]) hx hb dX7_digest_210 rfl hl (by decide) rfl (fun ls hl => ?_)
              refine lv_iinc (v := x4_29 + 1) (lv' := [(4, .int (x4_29 + 1)), (1, .long y1_33), (0, .ref (o 0)), (3, .int x3_27)]) hx hb dX7_digest_211 hl (k := 3) rfl rfl (by decide) rfl (fun ls hl => ?_)
              refine lv_goto (tgt := 190) hx hb dX7_digest_214 (by decide) ?_
              exact ih (kc_29 + 1) (ks_29 + 5) (by omega) (by omega) y1_33 (x4_29 + 1) _ _ (lz_c h hz) kk _ _ _ hP hD hS (lv_sub hl [2, 1, 3, 0] rfl)
        obtain ⟨z1_29, z4_29, hl_29, h⟩ := b2_I h
        refine L190_29 6 kc_27 ks_27 (by omega) (by omega) x1_27 0  z1_29 z4_29 hl_29 (fun H locs ls hP hD hS hl => ?_) _ _ _ hP hD hS (lv_sub hl [1, 2, 3, 0] rfl)
        refine lv_iinc (v := x3_27 + 1) (lv' := [(3, .int (x3_27 + 1)), (0, .ref (o 0)), (1, .long z1_29), (4, .int z4_29)]) hx hb dX7_digest_217 hl (k := 2) rfl rfl (by decide) rfl (fun ls hl => ?_)
        refine lv_goto (tgt := 179) hx hb dX7_digest_220 (by decide) ?_
        exact ih (kc_27 + 6) (ks_27 + 30) (by omega) (by omega) z1_29 (x3_27 + 1) _ _ (lz_c h hz) kk _ _ _ hP hD hS (lv_sub hl [1, 2, 0] rfl)
  obtain ⟨z1_27, z3_27, hl_27, h⟩ := b2_I h
  refine L179_27 25 66 378 (by omega) (by omega) z1_21 0  z1_27 z3_27 hl_27 (fun H locs ls hP hD hS hl => ?_) _ _ _ hP hD hS (lv_sub hl [1, 2, 0] rfl)
  refine lv_lload_n hx hb dX7_digest_223 rfl (lv_at hl 1 rfl) ?_
  obtain ⟨h0, h1⟩ := o2 h
  exact eL hx hb hr hlk hP hS dX7_digest_224 (Nat.le_of_ble_eq_true rfl) (Nat.le_of_ble_eq_true rfl) h0 (by rw [h1])
