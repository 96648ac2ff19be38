set_option maxHeartbeats 4000000 in
set_option maxRecDepth 100000 in
theorem case_coins {p : Program} {l : Launch} {e : Env} {s : State} {m : MethodId} {below : List Frame} {meth : Method} {c : Code} {b L : Nat} {xs : Nat → Int32} {D : va_G} {cI cJ : ClassId} (C : LC p l s m meth c b L xs D cI cJ) {a b2 x q u o : Nat → Nat} {oA i : Nat} (hi : 3 * i + 3 ≤ L) (tail : LQt p l e s m below meth c b D cI cJ a b2 x q u o oA (i + 1) i 1188 (79 + 220 * (i + 1)) (1050 + 1200 * (i + 1))) : LQt p l e s m below meth c b D cI cJ a b2 x q u o oA i i 636 (79 + 220 * i) (1050 + 1200 * i) := by
  intro G g J j F O T t M k V v H locs ls hs hP hD hS hl
  obtain ⟨⟨B, hK, hN, hT⟩, hX, hbl, hfl, hL⟩ := C
  obtain ⟨hx, hb, hml, hown, hts⟩ := id B
  have hA : ∀ q : Nat, s.heap.size ≤ q → lA s q := fun _ h => h
  have hbA : ¬ lA s b := Nat.not_le.mpr hbl
  have v1 : vp_in (nI (3 * i) + 1) L := by rw [nI_1]; exact vp_in_nI (by omega) (by omega)
  have v2 : vp_in (nI (3 * i) + 2) L := by rw [show nI (3 * i) + 2 = nI (3 * i + 2) from nI_add _ 2]; exact vp_in_nI (by omega) (by omega)
  rcases op_coins hs (xs (Int32.toNatClampNeg (nI (3 * i) + 1))) (xs (Int32.toNatClampNeg (nI (3 * i) + 2))) with ⟨r, k', e1, e2, e3, hs2⟩ | ⟨E1, c1, bb, k', hc, e1, e2, e3, hs2⟩
  · refine lv_aload_n hx hb dL_law_636 rfl (lv_at hl 1 rfl) ?_
    refine lv_aload_n hx hb dL_law_637 rfl (lv_at hl 0 rfl) ?_
    refine lv_iload hx hb dL_law_638 (lv_at hl 4 rfl) ?_
    refine lv_iconst (v := 1) hx hb dL_law_640 (by decide) ?_
    refine lv_iadd hx hb dL_law_641 ?_
    refine va_sld hx hb hX hbl hbA hS v1 dL_law_642 ?_
    refine lv_aload_n hx hb dL_law_643 rfl (lv_at hl 0 rfl) ?_
    refine lv_iload hx hb dL_law_644 (lv_at hl 4 rfl) ?_
    refine lv_iconst (v := 2) hx hb dL_law_646 (by decide) ?_
    refine lv_iadd hx hb dL_law_647 ?_
    refine va_sld hx hb hX hbl hbA hS v2 dL_law_648 ?_
    refine lv_aload_n hx hb dL_law_649 rfl (lv_at hl 3 rfl) ?_
    refine kHs (As := [.ref (x 0), .int (xs (Int32.toNatClampNeg (nI (3 * i) + 1))), .int (xs (Int32.toNatClampNeg (nI (3 * i) + 2))), .ref oA]) (rest := []) B hK hN hT hP hD hS hA (c_L_coins l hfl D cI cJ a b2 x G g J j F (xs (Int32.toNatClampNeg (nI (3 * i) + 1))) (xs (Int32.toNatClampNeg (nI (3 * i) + 2))) _ oA O 0 (XW cI cJ a b2 x oA G g J j F (vp_updL O 0 r.toInt64) (MW cI q u o T t M k V v [])) (MW cI q u o T t M k V v []) e1 (show _ ∧ _ from ⟨rfl, rfl⟩)) (vx_cwSW 4 hts gL_law_L_coins rfl rfl rfl (by decide +kernel) ⟨(Nat.le_of_ble_eq_true rfl), (Nat.le_of_ble_eq_true rfl)⟩) rfl hl.1 rfl (Nat.le_of_ble_eq_true rfl) dL_law_650 ⟨by dsimp only [room_1]; omega, by dsimp only [room_1]; omega⟩ rfl (fun H locs hP hD hS => ?_)
    refine lv_istore (lv' := [(5, .int 0), (0, .ref b), (1, .ref (x 0)), (2, .ref (o 0)), (3, .ref oA), (4, .int (nI (3 * i)))]) hx hb dL_law_653 hl (by decide) rfl (fun ls hl => ?_)
    have hP : va_P D vwCl (MW cI q u o T t M k V v (XW cI cJ a b2 x oA G g J j F (vp_updL O 0 r.toInt64) [])) H := P_perm pmL hP
    have hD : va_D (lA s) (MW cI q u o T t M k V v (XW cI cJ a b2 x oA G g J j F (vp_updL O 0 r.toInt64) [])) := D_perm pmL hD
    refine lv_aload_n hx hb dL_law_655 rfl (lv_at hl 3 rfl) ?_
    refine lv_aload_n hx hb dL_law_656 rfl (lv_at hl 1 rfl) ?_
    refine lv_iload hx hb dL_law_657 (lv_at hl 5 rfl) ?_
    refine lv_iconst (v := 1) hx hb dL_law_659 (by decide) ?_
    refine lv_iadd hx hb dL_law_660 ?_
    refine va_sld hx hb hX hbl hbA hS v1 dL_law_661 ?_
    refine lv_aload_n hx hb dL_law_662 rfl (lv_at hl 1 rfl) ?_
    refine lv_iload hx hb dL_law_663 (lv_at hl 5 rfl) ?_
    refine lv_iconst (v := 2) hx hb dL_law_665 (by decide) ?_
    refine lv_iadd hx hb dL_law_666 ?_
    refine va_sld hx hb hX hbl hbA hS v2 dL_law_667 ?_
    refine kVi (As := [.int (xs (Int32.toNatClampNeg (nI (3 * i) + 1))), .int (xs (Int32.toNatClampNeg (nI (3 * i) + 2)))]) (rest := []) B hK hN hP hD hS hA (c_X7_coins l D cI cJ q u o T t M k V v (xs (Int32.toNatClampNeg (nI (3 * i) + 1))) (xs (Int32.toNatClampNeg (nI (3 * i) + 2))) r k' (XW cI cJ a b2 x oA G g J j F (vp_updL O 0 r.toInt64) []) e2) (cwV 2 hts gL_law_X7_coins rfl rfl rfl (by decide +kernel) ⟨(Nat.le_of_ble_eq_true rfl), (Nat.le_of_ble_eq_true rfl)⟩) 10 5 rfl rfl rfl hl.1 rfl (Nat.le_of_ble_eq_true rfl) dL_law_668 ⟨by dsimp only [room_1]; omega, by dsimp only [room_1]; omega⟩ rfl (fun H locs hP hD hS => ?_)
    refine lv_istore (lv' := [(6, .int r), (5, .int 0), (0, .ref b), (1, .ref (x 0)), (2, .ref (o 0)), (3, .ref oA), (4, .int (nI (3 * i)))]) hx hb dL_law_671 hl (by decide) rfl (fun ls hl => ?_)
    refine lv_aload_n hx hb dL_law_673 rfl (lv_at hl 4 rfl) ?_
    refine kVi (As := []) (rest := []) (r := 0) B hK hN hP hD hS hA (c_X7_thrown l D cI cJ q u o T t M k' V v (XW cI cJ a b2 x oA G g J j F (vp_updL O 0 r.toInt64) []) _ e3) (cwV 0 hts gL_law_X7_thrown rfl rfl rfl (by decide +kernel) ⟨(Nat.le_of_ble_eq_true rfl), (Nat.le_of_ble_eq_true rfl)⟩) 10 5 rfl rfl rfl hl.1 rfl (Nat.le_of_ble_eq_true rfl) dL_law_674 ⟨by dsimp only [room_1]; omega, by dsimp only [room_1]; omega⟩ rfl (fun H locs hP hD hS => ?_)
    refine lv_iload hx hb dL_law_677 (lv_at hl 1 rfl) ?_
    refine lv_icmp_eq (tgt := 684) hx hb dL_law_679 (by decide) (fun _ => ?_) (fun h => absurd rfl h)
    refine lv_iload hx hb dL_law_684 (lv_at hl 1 rfl) ?_
    refine lv_if_ne (tgt := 701) hx hb dL_law_686 (by decide) (fun h => absurd rfl h) (fun _ => ?_)
    refine lv_aload_n hx hb dL_law_689 rfl (lv_at hl 5 rfl) ?_
    refine lv_iconst (v := 0) hx hb dL_law_690 (by decide) ?_
    refine va_lald hx hb hK hP 78 1 rfl rfl (vp_in_nI (n := 0) (by decide) (by decide)) dL_law_691 ?_
    refine lv_iload hx hb dL_law_692 (lv_at hl 0 rfl) ?_
    refine lv_i2l hx hb dL_law_694 rfl ?_
    refine lcmpE hx hb dL_law_695 ?_
    refine lv_if_eq (tgt := 701) hx hb dL_law_696 (by decide) (fun _ => ?_) (fun h => absurd rfl h)
    refine lv_goto (tgt := 1188) hx hb dL_law_701 (by decide) ?_
    refine W.widen (k := 79 + 220 * (i + 1)) (n := 1050 + 1200 * (i + 1)) (by dsimp only; omega) (by dsimp only; omega) ?_
    exact tail G g J j F (vp_updL O 0 r.toInt64) T t M k' V v _ _ _ hs2 (P_perm pmL.symm hP) (D_perm pmL.symm hD) hS (lv_sub hl [2, 3, 4, 5, 6] rfl)
  · have hc0 : ¬ c1 = 0 := by rw [hc.2]; decide
    refine lv_aload_n hx hb dL_law_636 rfl (lv_at hl 1 rfl) ?_
    refine lv_aload_n hx hb dL_law_637 rfl (lv_at hl 0 rfl) ?_
    refine lv_iload hx hb dL_law_638 (lv_at hl 4 rfl) ?_
    refine lv_iconst (v := 1) hx hb dL_law_640 (by decide) ?_
    refine lv_iadd hx hb dL_law_641 ?_
    refine va_sld hx hb hX hbl hbA hS v1 dL_law_642 ?_
    refine lv_aload_n hx hb dL_law_643 rfl (lv_at hl 0 rfl) ?_
    refine lv_iload hx hb dL_law_644 (lv_at hl 4 rfl) ?_
    refine lv_iconst (v := 2) hx hb dL_law_646 (by decide) ?_
    refine lv_iadd hx hb dL_law_647 ?_
    refine va_sld hx hb hX hbl hbA hS v2 dL_law_648 ?_
    refine lv_aload_n hx hb dL_law_649 rfl (lv_at hl 3 rfl) ?_
    refine kHs (As := [.ref (x 0), .int (xs (Int32.toNatClampNeg (nI (3 * i) + 1))), .int (xs (Int32.toNatClampNeg (nI (3 * i) + 2))), .ref oA]) (rest := []) B hK hN hT hP hD hS hA (c_L_coins l hfl D cI cJ a b2 x G g J j F (xs (Int32.toNatClampNeg (nI (3 * i) + 1))) (xs (Int32.toNatClampNeg (nI (3 * i) + 2))) _ oA O c1 (XW cI cJ a b2 x oA G g J j F O (MW cI q u o T t M k V v [])) (MW cI q u o T t M k V v []) e1 (show _ ∧ _ from ⟨hc, rfl⟩)) (vx_cwSW 4 hts gL_law_L_coins rfl rfl rfl (by decide +kernel) ⟨(Nat.le_of_ble_eq_true rfl), (Nat.le_of_ble_eq_true rfl)⟩) rfl hl.1 rfl (Nat.le_of_ble_eq_true rfl) dL_law_650 ⟨by dsimp only [room_1]; omega, by dsimp only [room_1]; omega⟩ rfl (fun H locs hP hD hS => ?_)
    refine lv_istore (lv' := [(5, .int c1), (0, .ref b), (1, .ref (x 0)), (2, .ref (o 0)), (3, .ref oA), (4, .int (nI (3 * i)))]) hx hb dL_law_653 hl (by decide) rfl (fun ls hl => ?_)
    have hP : va_P D vwCl (MW cI q u o T t M k V v (XW cI cJ a b2 x oA G g J j F O [])) H := P_perm pmL hP
    have hD : va_D (lA s) (MW cI q u o T t M k V v (XW cI cJ a b2 x oA G g J j F O [])) := D_perm pmL hD
    refine lv_aload_n hx hb dL_law_655 rfl (lv_at hl 3 rfl) ?_
    refine lv_aload_n hx hb dL_law_656 rfl (lv_at hl 1 rfl) ?_
    refine lv_iload hx hb dL_law_657 (lv_at hl 5 rfl) ?_
    refine lv_iconst (v := 1) hx hb dL_law_659 (by decide) ?_
    refine lv_iadd hx hb dL_law_660 ?_
    refine va_sld hx hb hX hbl hbA hS v1 dL_law_661 ?_
    refine lv_aload_n hx hb dL_law_662 rfl (lv_at hl 1 rfl) ?_
    refine lv_iload hx hb dL_law_663 (lv_at hl 5 rfl) ?_
    refine lv_iconst (v := 2) hx hb dL_law_665 (by decide) ?_
    refine lv_iadd hx hb dL_law_666 ?_
    refine va_sld hx hb hX hbl hbA hS v2 dL_law_667 ?_
    refine kVi (As := [.int (xs (Int32.toNatClampNeg (nI (3 * i) + 1))), .int (xs (Int32.toNatClampNeg (nI (3 * i) + 2)))]) (rest := []) B hK hN hP hD hS hA (c_X7_coins l D cI cJ q u o T t M k V v (xs (Int32.toNatClampNeg (nI (3 * i) + 1))) (xs (Int32.toNatClampNeg (nI (3 * i) + 2))) bb k' (XW cI cJ a b2 x oA G g J j F O []) e2) (cwV 2 hts gL_law_X7_coins rfl rfl rfl (by decide +kernel) ⟨(Nat.le_of_ble_eq_true rfl), (Nat.le_of_ble_eq_true rfl)⟩) 10 5 rfl rfl rfl hl.1 rfl (Nat.le_of_ble_eq_true rfl) dL_law_668 ⟨by dsimp only [room_1]; omega, by dsimp only [room_1]; omega⟩ rfl (fun H locs hP hD hS => ?_)
    refine lv_istore (lv' := [(6, .int bb), (5, .int c1), (0, .ref b), (1, .ref (x 0)), (2, .ref (o 0)), (3, .ref oA), (4, .int (nI (3 * i)))]) hx hb dL_law_671 hl (by decide) rfl (fun ls hl => ?_)
    refine lv_aload_n hx hb dL_law_673 rfl (lv_at hl 4 rfl) ?_
    refine kVi (As := []) (rest := []) (r := c1) B hK hN hP hD hS hA (c_X7_thrown l D cI cJ q u o T t M k' V v (XW cI cJ a b2 x oA G g J j F O []) _ e3) (cwV 0 hts gL_law_X7_thrown rfl rfl rfl (by decide +kernel) ⟨(Nat.le_of_ble_eq_true rfl), (Nat.le_of_ble_eq_true rfl)⟩) 10 5 rfl rfl rfl hl.1 rfl (Nat.le_of_ble_eq_true rfl) dL_law_674 ⟨by dsimp only [room_1]; omega, by dsimp only [room_1]; omega⟩ rfl (fun H locs hP hD hS => ?_)
    refine lv_iload hx hb dL_law_677 (lv_at hl 1 rfl) ?_
    refine lv_icmp_eq (tgt := 684) hx hb dL_law_679 (by decide) (fun _ => ?_) (fun h => absurd rfl h)
    refine lv_iload hx hb dL_law_684 (lv_at hl 1 rfl) ?_
    refine lv_if_ne (tgt := 701) hx hb dL_law_686 (by decide) (fun _ => ?_) (fun h => absurd h hc0)
    refine lv_goto (tgt := 1188) hx hb dL_law_701 (by decide) ?_
    refine W.widen (k := 79 + 220 * (i + 1)) (n := 1050 + 1200 * (i + 1)) (by dsimp only; omega) (by dsimp only; omega) ?_
    exact tail G g J j F O T t M k' V v _ _ _ hs2 (P_perm pmL.symm hP) (D_perm pmL.symm hD) hS (lv_sub hl [2, 3, 4, 5, 6] rfl)
set_option maxHeartbeats 4000000 in
set_option maxRecDepth 100000 in
theorem case_told {p : Program} {l : Launch} {e : Env} {s : State} {m : MethodId} {below : List Frame} {meth : Method} {c : Code} {b L : Nat} {xs : Nat → Int32} {D : va_G} {cI cJ : ClassId} (C : LC p l s m meth c b L xs D cI cJ) {a b2 x q u o : Nat → Nat} {oA i : Nat} (hi : 3 * i + 3 ≤ L) (tail : LQt p l e s m below meth c b D cI cJ a b2 x q u o oA (i + 1) i 1188 (79 + 220 * (i + 1)) (1050 + 1200 * (i + 1))) : LQt p l e s m below meth c b D cI cJ a b2 x q u o oA i i 704 (79 + 220 * i) (1050 + 1200 * i) := by
  intro G g J j F O T t M k V v H locs ls hs hP hD hS hl
  obtain ⟨⟨B, hK, hN, hT⟩, hX, hbl, hfl, hL⟩ := C
  obtain ⟨hx, hb, hml, hown, hts⟩ := id B
  have hA : ∀ q : Nat, s.heap.size ≤ q → lA s q := fun _ h => h
  have hbA : ¬ lA s b := Nat.not_le.mpr hbl
  have v1 : vp_in (nI (3 * i) + 1) L := by rw [nI_1]; exact vp_in_nI (by omega) (by omega)
  have v2 : vp_in (nI (3 * i) + 2) L := by rw [show nI (3 * i) + 2 = nI (3 * i + 2) from nI_add _ 2]; exact vp_in_nI (by omega) (by omega)
  rcases op_told hs (xs (Int32.toNatClampNeg (nI (3 * i) + 1))) (xs (Int32.toNatClampNeg (nI (3 * i) + 2))) with ⟨r, k', e1, e2, e3, hs2⟩ | ⟨E1, c1, bb, k', hc, e1, e2, e3, hs2⟩
  · refine lv_aload_n hx hb dL_law_704 rfl (lv_at hl 1 rfl) ?_
    refine lv_aload_n hx hb dL_law_705 rfl (lv_at hl 0 rfl) ?_
    refine lv_iload hx hb dL_law_706 (lv_at hl 4 rfl) ?_
    refine lv_iconst (v := 1) hx hb dL_law_708 (by decide) ?_
    refine lv_iadd hx hb dL_law_709 ?_
    refine va_sld hx hb hX hbl hbA hS v1 dL_law_710 ?_
    refine lv_aload_n hx hb dL_law_711 rfl (lv_at hl 0 rfl) ?_
    refine lv_iload hx hb dL_law_712 (lv_at hl 4 rfl) ?_
    refine lv_iconst (v := 2) hx hb dL_law_714 (by decide) ?_
    refine lv_iadd hx hb dL_law_715 ?_
    refine va_sld hx hb hX hbl hbA hS v2 dL_law_716 ?_
    refine lv_aload_n hx hb dL_law_717 rfl (lv_at hl 3 rfl) ?_
    refine kHs (As := [.ref (x 0), .int (xs (Int32.toNatClampNeg (nI (3 * i) + 1))), .int (xs (Int32.toNatClampNeg (nI (3 * i) + 2))), .ref oA]) (rest := []) B hK hN hT hP hD hS hA (c_L_told l hfl D cI cJ a b2 x G g J j F (xs (Int32.toNatClampNeg (nI (3 * i) + 1))) (xs (Int32.toNatClampNeg (nI (3 * i) + 2))) _ oA O 0 (XW cI cJ a b2 x oA G g J j F (vp_updL O 0 r.toInt64) (MW cI q u o T t M k V v [])) (MW cI q u o T t M k V v []) e1 (show _ ∧ _ from ⟨rfl, rfl⟩)) (vx_cwSW 4 hts gL_law_L_told rfl rfl rfl (by decide +kernel) ⟨(Nat.le_of_ble_eq_true rfl), (Nat.le_of_ble_eq_true rfl)⟩) rfl hl.1 rfl (Nat.le_of_ble_eq_true rfl) dL_law_718 ⟨by dsimp only [room_1]; omega, by dsimp only [room_1]; omega⟩ rfl (fun H locs hP hD hS => ?_)
    refine lv_istore (lv' := [(5, .int 0), (0, .ref b), (1, .ref (x 0)), (2, .ref (o 0)), (3, .ref oA), (4, .int (nI (3 * i)))]) hx hb dL_law_721 hl (by decide) rfl (fun ls hl => ?_)
    have hP : va_P D vwCl (MW cI q u o T t M k V v (XW cI cJ a b2 x oA G g J j F (vp_updL O 0 r.toInt64) [])) H := P_perm pmL hP
    have hD : va_D (lA s) (MW cI q u o T t M k V v (XW cI cJ a b2 x oA G g J j F (vp_updL O 0 r.toInt64) [])) := D_perm pmL hD
    refine lv_aload_n hx hb dL_law_723 rfl (lv_at hl 3 rfl) ?_
    refine lv_aload_n hx hb dL_law_724 rfl (lv_at hl 1 rfl) ?_
    refine lv_iload hx hb dL_law_725 (lv_at hl 5 rfl) ?_
    refine lv_iconst (v := 1) hx hb dL_law_727 (by decide) ?_
    refine lv_iadd hx hb dL_law_728 ?_
    refine va_sld hx hb hX hbl hbA hS v1 dL_law_729 ?_
    refine lv_aload_n hx hb dL_law_730 rfl (lv_at hl 1 rfl) ?_
    refine lv_iload hx hb dL_law_731 (lv_at hl 5 rfl) ?_
    refine lv_iconst (v := 2) hx hb dL_law_733 (by decide) ?_
    refine lv_iadd hx hb dL_law_734 ?_
    refine va_sld hx hb hX hbl hbA hS v2 dL_law_735 ?_
    refine kVi (As := [.int (xs (Int32.toNatClampNeg (nI (3 * i) + 1))), .int (xs (Int32.toNatClampNeg (nI (3 * i) + 2)))]) (rest := []) B hK hN hP hD hS hA (c_X7_told l D cI cJ q u o T t M k V v (xs (Int32.toNatClampNeg (nI (3 * i) + 1))) (xs (Int32.toNatClampNeg (nI (3 * i) + 2))) r k' (XW cI cJ a b2 x oA G g J j F (vp_updL O 0 r.toInt64) []) e2) (cwV 2 hts gL_law_X7_told rfl rfl rfl (by decide +kernel) ⟨(Nat.le_of_ble_eq_true rfl), (Nat.le_of_ble_eq_true rfl)⟩) 10 5 rfl rfl rfl hl.1 rfl (Nat.le_of_ble_eq_true rfl) dL_law_736 ⟨by dsimp only [room_1]; omega, by dsimp only [room_1]; omega⟩ rfl (fun H locs hP hD hS => ?_)
    refine lv_istore (lv' := [(6, .int r), (5, .int 0), (0, .ref b), (1, .ref (x 0)), (2, .ref (o 0)), (3, .ref oA), (4, .int (nI (3 * i)))]) hx hb dL_law_739 hl (by decide) rfl (fun ls hl => ?_)
    refine lv_aload_n hx hb dL_law_741 rfl (lv_at hl 4 rfl) ?_
    refine kVi (As := []) (rest := []) (r := 0) B hK hN hP hD hS hA (c_X7_thrown l D cI cJ q u o T t M k' V v (XW cI cJ a b2 x oA G g J j F (vp_updL O 0 r.toInt64) []) _ e3) (cwV 0 hts gL_law_X7_thrown rfl rfl rfl (by decide +kernel) ⟨(Nat.le_of_ble_eq_true rfl), (Nat.le_of_ble_eq_true rfl)⟩) 10 5 rfl rfl rfl hl.1 rfl (Nat.le_of_ble_eq_true rfl) dL_law_742 ⟨by dsimp only [room_1]; omega, by dsimp only [room_1]; omega⟩ rfl (fun H locs hP hD hS => ?_)
    refine lv_iload hx hb dL_law_745 (lv_at hl 1 rfl) ?_
    refine lv_icmp_eq (tgt := 752) hx hb dL_law_747 (by decide) (fun _ => ?_) (fun h => absurd rfl h)
    refine lv_iload hx hb dL_law_752 (lv_at hl 1 rfl) ?_
    refine lv_if_ne (tgt := 769) hx hb dL_law_754 (by decide) (fun h => absurd rfl h) (fun _ => ?_)
    refine lv_aload_n hx hb dL_law_757 rfl (lv_at hl 5 rfl) ?_
    refine lv_iconst (v := 0) hx hb dL_law_758 (by decide) ?_
    refine va_lald hx hb hK hP 78 1 rfl rfl (vp_in_nI (n := 0) (by decide) (by decide)) dL_law_759 ?_
    refine lv_iload hx hb dL_law_760 (lv_at hl 0 rfl) ?_
    refine lv_i2l hx hb dL_law_762 rfl ?_
    refine lcmpE hx hb dL_law_763 ?_
    refine lv_if_eq (tgt := 769) hx hb dL_law_764 (by decide) (fun _ => ?_) (fun h => absurd rfl h)
    refine lv_goto (tgt := 1188) hx hb dL_law_769 (by decide) ?_
    refine W.widen (k := 79 + 220 * (i + 1)) (n := 1050 + 1200 * (i + 1)) (by dsimp only; omega) (by dsimp only; omega) ?_
    exact tail G g J j F (vp_updL O 0 r.toInt64) T t M k' V v _ _ _ hs2 (P_perm pmL.symm hP) (D_perm pmL.symm hD) hS (lv_sub hl [2, 3, 4, 5, 6] rfl)
  · have hc0 : ¬ c1 = 0 := by rw [hc.2]; decide
    refine lv_aload_n hx hb dL_law_704 rfl (lv_at hl 1 rfl) ?_
    refine lv_aload_n hx hb dL_law_705 rfl (lv_at hl 0 rfl) ?_
    refine lv_iload hx hb dL_law_706 (lv_at hl 4 rfl) ?_
    refine lv_iconst (v := 1) hx hb dL_law_708 (by decide) ?_
    refine lv_iadd hx hb dL_law_709 ?_
    refine va_sld hx hb hX hbl hbA hS v1 dL_law_710 ?_
    refine lv_aload_n hx hb dL_law_711 rfl (lv_at hl 0 rfl) ?_
    refine lv_iload hx hb dL_law_712 (lv_at hl 4 rfl) ?_
    refine lv_iconst (v := 2) hx hb dL_law_714 (by decide) ?_
    refine lv_iadd hx hb dL_law_715 ?_
    refine va_sld hx hb hX hbl hbA hS v2 dL_law_716 ?_
    refine lv_aload_n hx hb dL_law_717 rfl (lv_at hl 3 rfl) ?_
    refine kHs (As := [.ref (x 0), .int (xs (Int32.toNatClampNeg (nI (3 * i) + 1))), .int (xs (Int32.toNatClampNeg (nI (3 * i) + 2))), .ref oA]) (rest := []) B hK hN hT hP hD hS hA (c_L_told l hfl D cI cJ a b2 x G g J j F (xs (Int32.toNatClampNeg (nI (3 * i) + 1))) (xs (Int32.toNatClampNeg (nI (3 * i) + 2))) _ oA O c1 (XW cI cJ a b2 x oA G g J j F O (MW cI q u o T t M k V v [])) (MW cI q u o T t M k V v []) e1 (show _ ∧ _ from ⟨hc, rfl⟩)) (vx_cwSW 4 hts gL_law_L_told rfl rfl rfl (by decide +kernel) ⟨(Nat.le_of_ble_eq_true rfl), (Nat.le_of_ble_eq_true rfl)⟩) rfl hl.1 rfl (Nat.le_of_ble_eq_true rfl) dL_law_718 ⟨by dsimp only [room_1]; omega, by dsimp only [room_1]; omega⟩ rfl (fun H locs hP hD hS => ?_)
    refine lv_istore (lv' := [(5, .int c1), (0, .ref b), (1, .ref (x 0)), (2, .ref (o 0)), (3, .ref oA), (4, .int (nI (3 * i)))]) hx hb dL_law_721 hl (by decide) rfl (fun ls hl => ?_)
    have hP : va_P D vwCl (MW cI q u o T t M k V v (XW cI cJ a b2 x oA G g J j F O [])) H := P_perm pmL hP
    have hD : va_D (lA s) (MW cI q u o T t M k V v (XW cI cJ a b2 x oA G g J j F O [])) := D_perm pmL hD
    refine lv_aload_n hx hb dL_law_723 rfl (lv_at hl 3 rfl) ?_
    refine lv_aload_n hx hb dL_law_724 rfl (lv_at hl 1 rfl) ?_
    refine lv_iload hx hb dL_law_725 (lv_at hl 5 rfl) ?_
    refine lv_iconst (v := 1) hx hb dL_law_727 (by decide) ?_
    refine lv_iadd hx hb dL_law_728 ?_
    refine va_sld hx hb hX hbl hbA hS v1 dL_law_729 ?_
    refine lv_aload_n hx hb dL_law_730 rfl (lv_at hl 1 rfl) ?_
    refine lv_iload hx hb dL_law_731 (lv_at hl 5 rfl) ?_
    refine lv_iconst (v := 2) hx hb dL_law_733 (by decide) ?_
    refine lv_iadd hx hb dL_law_734 ?_
    refine va_sld hx hb hX hbl hbA hS v2 dL_law_735 ?_
    refine kVi (As := [.int (xs (Int32.toNatClampNeg (nI (3 * i) + 1))), .int (xs (Int32.toNatClampNeg (nI (3 * i) + 2)))]) (rest := []) B hK hN hP hD hS hA (c_X7_told l D cI cJ q u o T t M k V v (xs (Int32.toNatClampNeg (nI (3 * i) + 1))) (xs (Int32.toNatClampNeg (nI (3 * i) + 2))) bb k' (XW cI cJ a b2 x oA G g J j F O []) e2) (cwV 2 hts gL_law_X7_told rfl rfl rfl (by decide +kernel) ⟨(Nat.le_of_ble_eq_true rfl), (Nat.le_of_ble_eq_true rfl)⟩) 10 5 rfl rfl rfl hl.1 rfl (Nat.le_of_ble_eq_true rfl) dL_law_736 ⟨by dsimp only [room_1]; omega, by dsimp only [room_1]; omega⟩ rfl (fun H locs hP hD hS => ?_)
    refine lv_istore (lv' := [(6, .int bb), (5, .int c1), (0, .ref b), (1, .ref (x 0)), (2, .ref (o 0)), (3, .ref oA), (4, .int (nI (3 * i)))]) hx hb dL_law_739 hl (by decide) rfl (fun ls hl => ?_)
    refine lv_aload_n hx hb dL_law_741 rfl (lv_at hl 4 rfl) ?_
    refine kVi (As := []) (rest := []) (r := c1) B hK hN hP hD hS hA (c_X7_thrown l D cI cJ q u o T t M k' V v (XW cI cJ a b2 x oA G g J j F O []) _ e3) (cwV 0 hts gL_law_X7_thrown rfl rfl rfl (by decide +kernel) ⟨(Nat.le_of_ble_eq_true rfl), (Nat.le_of_ble_eq_true rfl)⟩) 10 5 rfl rfl rfl hl.1 rfl (Nat.le_of_ble_eq_true rfl) dL_law_742 ⟨by dsimp only [room_1]; omega, by dsimp only [room_1]; omega⟩ rfl (fun H locs hP hD hS => ?_)
    refine lv_iload hx hb dL_law_745 (lv_at hl 1 rfl) ?_
    refine lv_icmp_eq (tgt := 752) hx hb dL_law_747 (by decide) (fun _ => ?_) (fun h => absurd rfl h)
    refine lv_iload hx hb dL_law_752 (lv_at hl 1 rfl) ?_
    refine lv_if_ne (tgt := 769) hx hb dL_law_754 (by decide) (fun _ => ?_) (fun h => absurd h hc0)
    refine lv_goto (tgt := 1188) hx hb dL_law_769 (by decide) ?_
    refine W.widen (k := 79 + 220 * (i + 1)) (n := 1050 + 1200 * (i + 1)) (by dsimp only; omega) (by dsimp only; omega) ?_
    exact tail G g J j F O T t M k' V v _ _ _ hs2 (P_perm pmL.symm hP) (D_perm pmL.symm hD) hS (lv_sub hl [2, 3, 4, 5, 6] rfl)
set_option maxHeartbeats 4000000 in
set_option maxRecDepth 100000 in
theorem case_count {p : Program} {l : Launch} {e : Env} {s : State} {m : MethodId} {below : List Frame} {meth : Method} {c : Code} {b L : Nat} {xs : Nat → Int32} {D : va_G} {cI cJ : ClassId} (C : LC p l s m meth c b L xs D cI cJ) {a b2 x q u o : Nat → Nat} {oA i : Nat} (hi : 3 * i + 3 ≤ L) (tail : LQt p l e s m below meth c b D cI cJ a b2 x q u o oA (i + 1) i 1188 (79 + 220 * (i + 1)) (1050 + 1200 * (i + 1))) : LQt p l e s m below meth c b D cI cJ a b2 x q u o oA i i 772 (79 + 220 * i) (1050 + 1200 * i) := by
  intro G g J j F O T t M k V v H locs ls hs hP hD hS hl
  obtain ⟨⟨B, hK, hN, hT⟩, hX, hbl, hfl, hL⟩ := C
  obtain ⟨hx, hb, hml, hown, hts⟩ := id B
  have hA : ∀ q : Nat, s.heap.size ≤ q → lA s q := fun _ h => h
  have hbA : ¬ lA s b := Nat.not_le.mpr hbl
  have v1 : vp_in (nI (3 * i) + 1) L := by rw [nI_1]; exact vp_in_nI (by omega) (by omega)
  have v2 : vp_in (nI (3 * i) + 2) L := by rw [show nI (3 * i) + 2 = nI (3 * i + 2) from nI_add _ 2]; exact vp_in_nI (by omega) (by omega)
  rcases op_count hs (xs (Int32.toNatClampNeg (nI (3 * i) + 1))) with ⟨r, k', e1, e2, e3, hs2⟩ | ⟨E1, c1, bb, k', hc, e1, e2, e3, hs2⟩
  · refine lv_aload_n hx hb dL_law_772 rfl (lv_at hl 1 rfl) ?_
    refine lv_aload_n hx hb dL_law_773 rfl (lv_at hl 0 rfl) ?_
    refine lv_iload hx hb dL_law_774 (lv_at hl 4 rfl) ?_
    refine lv_iconst (v := 1) hx hb dL_law_776 (by decide) ?_
    refine lv_iadd hx hb dL_law_777 ?_
    refine va_sld hx hb hX hbl hbA hS v1 dL_law_778 ?_
    refine lv_aload_n hx hb dL_law_779 rfl (lv_at hl 3 rfl) ?_
    refine kHs (As := [.ref (x 0), .int (xs (Int32.toNatClampNeg (nI (3 * i) + 1))), .ref oA]) (rest := []) B hK hN hT hP hD hS hA (c_L_count l hfl D cI cJ a b2 x G g J j F (xs (Int32.toNatClampNeg (nI (3 * i) + 1))) _ oA O 0 (XW cI cJ a b2 x oA G g J j F (vp_updL O 0 r.toInt64) (MW cI q u o T t M k V v [])) (MW cI q u o T t M k V v []) e1 (show _ ∧ _ from ⟨rfl, rfl⟩)) (vx_cwSW 3 hts gL_law_L_count rfl rfl rfl (by decide +kernel) ⟨(Nat.le_of_ble_eq_true rfl), (Nat.le_of_ble_eq_true rfl)⟩) rfl hl.1 rfl (Nat.le_of_ble_eq_true rfl) dL_law_780 ⟨by dsimp only [room_1]; omega, by dsimp only [room_1]; omega⟩ rfl (fun H locs hP hD hS => ?_)
    refine lv_istore (lv' := [(5, .int 0), (0, .ref b), (1, .ref (x 0)), (2, .ref (o 0)), (3, .ref oA), (4, .int (nI (3 * i)))]) hx hb dL_law_783 hl (by decide) rfl (fun ls hl => ?_)
    have hP : va_P D vwCl (MW cI q u o T t M k V v (XW cI cJ a b2 x oA G g J j F (vp_updL O 0 r.toInt64) [])) H := P_perm pmL hP
    have hD : va_D (lA s) (MW cI q u o T t M k V v (XW cI cJ a b2 x oA G g J j F (vp_updL O 0 r.toInt64) [])) := D_perm pmL hD
    refine lv_aload_n hx hb dL_law_785 rfl (lv_at hl 3 rfl) ?_
    refine lv_aload_n hx hb dL_law_786 rfl (lv_at hl 1 rfl) ?_
    refine lv_iload hx hb dL_law_787 (lv_at hl 5 rfl) ?_
    refine lv_iconst (v := 1) hx hb dL_law_789 (by decide) ?_
    refine lv_iadd hx hb dL_law_790 ?_
    refine va_sld hx hb hX hbl hbA hS v1 dL_law_791 ?_
    refine kVi (As := [.int (xs (Int32.toNatClampNeg (nI (3 * i) + 1)))]) (rest := []) B hK hN hP hD hS hA (c_X7_count l D cI cJ q u o T t M k V v (xs (Int32.toNatClampNeg (nI (3 * i) + 1))) r k' (XW cI cJ a b2 x oA G g J j F (vp_updL O 0 r.toInt64) []) e2) (cwV 1 hts gL_law_X7_count rfl rfl rfl (by decide +kernel) ⟨(Nat.le_of_ble_eq_true rfl), (Nat.le_of_ble_eq_true rfl)⟩) 10 5 rfl rfl rfl hl.1 rfl (Nat.le_of_ble_eq_true rfl) dL_law_792 ⟨by dsimp only [room_1]; omega, by dsimp only [room_1]; omega⟩ rfl (fun H locs hP hD hS => ?_)
    refine lv_istore (lv' := [(6, .int r), (5, .int 0), (0, .ref b), (1, .ref (x 0)), (2, .ref (o 0)), (3, .ref oA), (4, .int (nI (3 * i)))]) hx hb dL_law_795 hl (by decide) rfl (fun ls hl => ?_)
    refine lv_aload_n hx hb dL_law_797 rfl (lv_at hl 4 rfl) ?_
    refine kVi (As := []) (rest := []) (r := 0) B hK hN hP hD hS hA (c_X7_thrown l D cI cJ q u o T t M k' V v (XW cI cJ a b2 x oA G g J j F (vp_updL O 0 r.toInt64) []) _ e3) (cwV 0 hts gL_law_X7_thrown rfl rfl rfl (by decide +kernel) ⟨(Nat.le_of_ble_eq_true rfl), (Nat.le_of_ble_eq_true rfl)⟩) 10 5 rfl rfl rfl hl.1 rfl (Nat.le_of_ble_eq_true rfl) dL_law_798 ⟨by dsimp only [room_1]; omega, by dsimp only [room_1]; omega⟩ rfl (fun H locs hP hD hS => ?_)
    refine lv_iload hx hb dL_law_801 (lv_at hl 1 rfl) ?_
    refine lv_icmp_eq (tgt := 808) hx hb dL_law_803 (by decide) (fun _ => ?_) (fun h => absurd rfl h)
    refine lv_iload hx hb dL_law_808 (lv_at hl 1 rfl) ?_
    refine lv_if_ne (tgt := 825) hx hb dL_law_810 (by decide) (fun h => absurd rfl h) (fun _ => ?_)
    refine lv_aload_n hx hb dL_law_813 rfl (lv_at hl 5 rfl) ?_
    refine lv_iconst (v := 0) hx hb dL_law_814 (by decide) ?_
    refine va_lald hx hb hK hP 78 1 rfl rfl (vp_in_nI (n := 0) (by decide) (by decide)) dL_law_815 ?_
    refine lv_iload hx hb dL_law_816 (lv_at hl 0 rfl) ?_
    refine lv_i2l hx hb dL_law_818 rfl ?_
    refine lcmpE hx hb dL_law_819 ?_
    refine lv_if_eq (tgt := 825) hx hb dL_law_820 (by decide) (fun _ => ?_) (fun h => absurd rfl h)
    refine lv_goto (tgt := 1188) hx hb dL_law_825 (by decide) ?_
    refine W.widen (k := 79 + 220 * (i + 1)) (n := 1050 + 1200 * (i + 1)) (by dsimp only; omega) (by dsimp only; omega) ?_
    exact tail G g J j F (vp_updL O 0 r.toInt64) T t M k' V v _ _ _ hs2 (P_perm pmL.symm hP) (D_perm pmL.symm hD) hS (lv_sub hl [2, 3, 4, 5, 6] rfl)
  · have hc0 : ¬ c1 = 0 := by rw [hc.2]; decide
    refine lv_aload_n hx hb dL_law_772 rfl (lv_at hl 1 rfl) ?_
    refine lv_aload_n hx hb dL_law_773 rfl (lv_at hl 0 rfl) ?_
    refine lv_iload hx hb dL_law_774 (lv_at hl 4 rfl) ?_
    refine lv_iconst (v := 1) hx hb dL_law_776 (by decide) ?_
    refine lv_iadd hx hb dL_law_777 ?_
    refine va_sld hx hb hX hbl hbA hS v1 dL_law_778 ?_
    refine lv_aload_n hx hb dL_law_779 rfl (lv_at hl 3 rfl) ?_
    refine kHs (As := [.ref (x 0), .int (xs (Int32.toNatClampNeg (nI (3 * i) + 1))), .ref oA]) (rest := []) B hK hN hT hP hD hS hA (c_L_count l hfl D cI cJ a b2 x G g J j F (xs (Int32.toNatClampNeg (nI (3 * i) + 1))) _ oA O c1 (XW cI cJ a b2 x oA G g J j F O (MW cI q u o T t M k V v [])) (MW cI q u o T t M k V v []) e1 (show _ ∧ _ from ⟨hc, rfl⟩)) (vx_cwSW 3 hts gL_law_L_count rfl rfl rfl (by decide +kernel) ⟨(Nat.le_of_ble_eq_true rfl), (Nat.le_of_ble_eq_true rfl)⟩) rfl hl.1 rfl (Nat.le_of_ble_eq_true rfl) dL_law_780 ⟨by dsimp only [room_1]; omega, by dsimp only [room_1]; omega⟩ rfl (fun H locs hP hD hS => ?_)
    refine lv_istore (lv' := [(5, .int c1), (0, .ref b), (1, .ref (x 0)), (2, .ref (o 0)), (3, .ref oA), (4, .int (nI (3 * i)))]) hx hb dL_law_783 hl (by decide) rfl (fun ls hl => ?_)
    have hP : va_P D vwCl (MW cI q u o T t M k V v (XW cI cJ a b2 x oA G g J j F O [])) H := P_perm pmL hP
    have hD : va_D (lA s) (MW cI q u o T t M k V v (XW cI cJ a b2 x oA G g J j F O [])) := D_perm pmL hD
    refine lv_aload_n hx hb dL_law_785 rfl (lv_at hl 3 rfl) ?_
    refine lv_aload_n hx hb dL_law_786 rfl (lv_at hl 1 rfl) ?_
    refine lv_iload hx hb dL_law_787 (lv_at hl 5 rfl) ?_
    refine lv_iconst (v := 1) hx hb dL_law_789 (by decide) ?_
    refine lv_iadd hx hb dL_law_790 ?_
    refine va_sld hx hb hX hbl hbA hS v1 dL_law_791 ?_
    refine kVi (As := [.int (xs (Int32.toNatClampNeg (nI (3 * i) + 1)))]) (rest := []) B hK hN hP hD hS hA (c_X7_count l D cI cJ q u o T t M k V v (xs (Int32.toNatClampNeg (nI (3 * i) + 1))) bb k' (XW cI cJ a b2 x oA G g J j F O []) e2) (cwV 1 hts gL_law_X7_count rfl rfl rfl (by decide +kernel) ⟨(Nat.le_of_ble_eq_true rfl), (Nat.le_of_ble_eq_true rfl)⟩) 10 5 rfl rfl rfl hl.1 rfl (Nat.le_of_ble_eq_true rfl) dL_law_792 ⟨by dsimp only [room_1]; omega, by dsimp only [room_1]; omega⟩ rfl (fun H locs hP hD hS => ?_)
    refine lv_istore (lv' := [(6, .int bb), (5, .int c1), (0, .ref b), (1, .ref (x 0)), (2, .ref (o 0)), (3, .ref oA), (4, .int (nI (3 * i)))]) hx hb dL_law_795 hl (by decide) rfl (fun ls hl => ?_)
    refine lv_aload_n hx hb dL_law_797 rfl (lv_at hl 4 rfl) ?_
    refine kVi (As := []) (rest := []) (r := c1) B hK hN hP hD hS hA (c_X7_thrown l D cI cJ q u o T t M k' V v (XW cI cJ a b2 x oA G g J j F O []) _ e3) (cwV 0 hts gL_law_X7_thrown rfl rfl rfl (by decide +kernel) ⟨(Nat.le_of_ble_eq_true rfl), (Nat.le_of_ble_eq_true rfl)⟩) 10 5 rfl rfl rfl hl.1 rfl (Nat.le_of_ble_eq_true rfl) dL_law_798 ⟨by dsimp only [room_1]; omega, by dsimp only [room_1]; omega⟩ rfl (fun H locs hP hD hS => ?_)
    refine lv_iload hx hb dL_law_801 (lv_at hl 1 rfl) ?_
    refine lv_icmp_eq (tgt := 808) hx hb dL_law_803 (by decide) (fun _ => ?_) (fun h => absurd rfl h)
    refine lv_iload hx hb dL_law_808 (lv_at hl 1 rfl) ?_
    refine lv_if_ne (tgt := 825) hx hb dL_law_810 (by decide) (fun _ => ?_) (fun h => absurd h hc0)
    refine lv_goto (tgt := 1188) hx hb dL_law_825 (by decide) ?_
    refine W.widen (k := 79 + 220 * (i + 1)) (n := 1050 + 1200 * (i + 1)) (by dsimp only; omega) (by dsimp only; omega) ?_
    exact tail G g J j F O T t M k' V v _ _ _ hs2 (P_perm pmL.symm hP) (D_perm pmL.symm hD) hS (lv_sub hl [2, 3, 4, 5, 6] rfl)
set_option maxHeartbeats 4000000 in
set_option maxRecDepth 100000 in
theorem case_pass {p : Program} {l : Launch} {e : Env} {s : State} {m : MethodId} {below : List Frame} {meth : Method} {c : Code} {b L : Nat} {xs : Nat → Int32} {D : va_G} {cI cJ : ClassId} (C : LC p l s m meth c b L xs D cI cJ) {a b2 x q u o : Nat → Nat} {oA i : Nat} (hi : 3 * i + 3 ≤ L) (tail : LQt p l e s m below meth c b D cI cJ a b2 x q u o oA (i + 1) i 1188 (79 + 220 * (i + 1)) (1050 + 1200 * (i + 1))) : LQt p l e s m below meth c b D cI cJ a b2 x q u o oA i i 828 (79 + 220 * i) (1050 + 1200 * i) := by
  intro G g J j F O T t M k V v H locs ls hs hP hD hS hl
  obtain ⟨⟨B, hK, hN, hT⟩, hX, hbl, hfl, hL⟩ := C
  obtain ⟨hx, hb, hml, hown, hts⟩ := id B
  have hA : ∀ q : Nat, s.heap.size ≤ q → lA s q := fun _ h => h
  have hbA : ¬ lA s b := Nat.not_le.mpr hbl
  have v1 : vp_in (nI (3 * i) + 1) L := by rw [nI_1]; exact vp_in_nI (by omega) (by omega)
  have v2 : vp_in (nI (3 * i) + 2) L := by rw [show nI (3 * i) + 2 = nI (3 * i + 2) from nI_add _ 2]; exact vp_in_nI (by omega) (by omega)
  rcases op_pass hs (show i ≤ 1000 by omega) (xs (Int32.toNatClampNeg (nI (3 * i) + 1))) with ⟨r, G', g', T', t', k', e1, e2, e3, hs2⟩ | ⟨E1, c1, bb, k', hc, e1, e2, e3, hs2⟩
  · refine lv_aload_n hx hb dL_law_828 rfl (lv_at hl 1 rfl) ?_
    refine lv_aload_n hx hb dL_law_829 rfl (lv_at hl 0 rfl) ?_
    refine lv_iload hx hb dL_law_830 (lv_at hl 4 rfl) ?_
    refine lv_iconst (v := 1) hx hb dL_law_832 (by decide) ?_
    refine lv_iadd hx hb dL_law_833 ?_
    refine va_sld hx hb hX hbl hbA hS v1 dL_law_834 ?_
    refine lv_aload_n hx hb dL_law_835 rfl (lv_at hl 3 rfl) ?_
    refine kHs (As := [.ref (x 0), .int (xs (Int32.toNatClampNeg (nI (3 * i) + 1))), .ref oA]) (rest := []) B hK hN hT hP hD hS hA (c_L_pass l hfl D cI cJ a b2 x G g J j F (xs (Int32.toNatClampNeg (nI (3 * i) + 1))) _ oA O 0 (XW cI cJ a b2 x oA G' g' J j F (vp_updL O 0 r.toInt64) (MW cI q u o T t M k V v [])) (MW cI q u o T t M k V v []) e1 (show _ ∧ _ from ⟨rfl, rfl⟩)) (vx_cwSW 3 hts gL_law_L_pass rfl rfl rfl (by decide +kernel) ⟨(Nat.le_of_ble_eq_true rfl), (Nat.le_of_ble_eq_true rfl)⟩) rfl hl.1 rfl (Nat.le_of_ble_eq_true rfl) dL_law_836 ⟨by dsimp only [room_1]; omega, by dsimp only [room_1]; omega⟩ rfl (fun H locs hP hD hS => ?_)
    refine lv_istore (lv' := [(5, .int 0), (0, .ref b), (1, .ref (x 0)), (2, .ref (o 0)), (3, .ref oA), (4, .int (nI (3 * i)))]) hx hb dL_law_839 hl (by decide) rfl (fun ls hl => ?_)
    have hP : va_P D vwCl (MW cI q u o T t M k V v (XW cI cJ a b2 x oA G' g' J j F (vp_updL O 0 r.toInt64) [])) H := P_perm pmL hP
    have hD : va_D (lA s) (MW cI q u o T t M k V v (XW cI cJ a b2 x oA G' g' J j F (vp_updL O 0 r.toInt64) [])) := D_perm pmL hD
    refine lv_aload_n hx hb dL_law_841 rfl (lv_at hl 3 rfl) ?_
    refine lv_aload_n hx hb dL_law_842 rfl (lv_at hl 1 rfl) ?_
    refine lv_iload hx hb dL_law_843 (lv_at hl 5 rfl) ?_
    refine lv_iconst (v := 1) hx hb dL_law_845 (by decide) ?_
    refine lv_iadd hx hb dL_law_846 ?_
    refine va_sld hx hb hX hbl hbA hS v1 dL_law_847 ?_
    refine kVi (As := [.int (xs (Int32.toNatClampNeg (nI (3 * i) + 1)))]) (rest := []) B hK hN hP hD hS hA (c_X7_pass l D cI cJ q u o T t M k V v (xs (Int32.toNatClampNeg (nI (3 * i) + 1))) r T' t' k' (XW cI cJ a b2 x oA G' g' J j F (vp_updL O 0 r.toInt64) []) e2) (cwV 1 hts gL_law_X7_pass rfl rfl rfl (by decide +kernel) ⟨(Nat.le_of_ble_eq_true rfl), (Nat.le_of_ble_eq_true rfl)⟩) 10 5 rfl rfl rfl hl.1 rfl (Nat.le_of_ble_eq_true rfl) dL_law_848 ⟨by dsimp only [room_1]; omega, by dsimp only [room_1]; omega⟩ rfl (fun H locs hP hD hS => ?_)
    refine lv_istore (lv' := [(6, .int r), (5, .int 0), (0, .ref b), (1, .ref (x 0)), (2, .ref (o 0)), (3, .ref oA), (4, .int (nI (3 * i)))]) hx hb dL_law_851 hl (by decide) rfl (fun ls hl => ?_)
    refine lv_aload_n hx hb dL_law_853 rfl (lv_at hl 4 rfl) ?_
    refine kVi (As := []) (rest := []) (r := 0) B hK hN hP hD hS hA (c_X7_thrown l D cI cJ q u o T' t' M k' V v (XW cI cJ a b2 x oA G' g' J j F (vp_updL O 0 r.toInt64) []) _ e3) (cwV 0 hts gL_law_X7_thrown rfl rfl rfl (by decide +kernel) ⟨(Nat.le_of_ble_eq_true rfl), (Nat.le_of_ble_eq_true rfl)⟩) 10 5 rfl rfl rfl hl.1 rfl (Nat.le_of_ble_eq_true rfl) dL_law_854 ⟨by dsimp only [room_1]; omega, by dsimp only [room_1]; omega⟩ rfl (fun H locs hP hD hS => ?_)
    refine lv_iload hx hb dL_law_857 (lv_at hl 1 rfl) ?_
    refine lv_icmp_eq (tgt := 864) hx hb dL_law_859 (by decide) (fun _ => ?_) (fun h => absurd rfl h)
    refine lv_iload hx hb dL_law_864 (lv_at hl 1 rfl) ?_
    refine lv_if_ne (tgt := 881) hx hb dL_law_866 (by decide) (fun h => absurd rfl h) (fun _ => ?_)
    refine lv_aload_n hx hb dL_law_869 rfl (lv_at hl 5 rfl) ?_
    refine lv_iconst (v := 0) hx hb dL_law_870 (by decide) ?_
    refine va_lald hx hb hK hP 78 1 rfl rfl (vp_in_nI (n := 0) (by decide) (by decide)) dL_law_871 ?_
    refine lv_iload hx hb dL_law_872 (lv_at hl 0 rfl) ?_
    refine lv_i2l hx hb dL_law_874 rfl ?_
    refine lcmpE hx hb dL_law_875 ?_
    refine lv_if_eq (tgt := 881) hx hb dL_law_876 (by decide) (fun _ => ?_) (fun h => absurd rfl h)
    refine lv_goto (tgt := 1188) hx hb dL_law_881 (by decide) ?_
    refine W.widen (k := 79 + 220 * (i + 1)) (n := 1050 + 1200 * (i + 1)) (by dsimp only; omega) (by dsimp only; omega) ?_
    exact tail G' g' J j F (vp_updL O 0 r.toInt64) T' t' M k' V v _ _ _ hs2 (P_perm pmL.symm hP) (D_perm pmL.symm hD) hS (lv_sub hl [2, 3, 4, 5, 6] rfl)
  · have hc0 : ¬ c1 = 0 := by rw [hc.2]; decide
    refine lv_aload_n hx hb dL_law_828 rfl (lv_at hl 1 rfl) ?_
    refine lv_aload_n hx hb dL_law_829 rfl (lv_at hl 0 rfl) ?_
    refine lv_iload hx hb dL_law_830 (lv_at hl 4 rfl) ?_
    refine lv_iconst (v := 1) hx hb dL_law_832 (by decide) ?_
    refine lv_iadd hx hb dL_law_833 ?_
    refine va_sld hx hb hX hbl hbA hS v1 dL_law_834 ?_
    refine lv_aload_n hx hb dL_law_835 rfl (lv_at hl 3 rfl) ?_
    refine kHs (As := [.ref (x 0), .int (xs (Int32.toNatClampNeg (nI (3 * i) + 1))), .ref oA]) (rest := []) B hK hN hT hP hD hS hA (c_L_pass l hfl D cI cJ a b2 x G g J j F (xs (Int32.toNatClampNeg (nI (3 * i) + 1))) _ oA O c1 (XW cI cJ a b2 x oA G g J j F O (MW cI q u o T t M k V v [])) (MW cI q u o T t M k V v []) e1 (show _ ∧ _ from ⟨hc, rfl⟩)) (vx_cwSW 3 hts gL_law_L_pass rfl rfl rfl (by decide +kernel) ⟨(Nat.le_of_ble_eq_true rfl), (Nat.le_of_ble_eq_true rfl)⟩) rfl hl.1 rfl (Nat.le_of_ble_eq_true rfl) dL_law_836 ⟨by dsimp only [room_1]; omega, by dsimp only [room_1]; omega⟩ rfl (fun H locs hP hD hS => ?_)
    refine lv_istore (lv' := [(5, .int c1), (0, .ref b), (1, .ref (x 0)), (2, .ref (o 0)), (3, .ref oA), (4, .int (nI (3 * i)))]) hx hb dL_law_839 hl (by decide) rfl (fun ls hl => ?_)
    have hP : va_P D vwCl (MW cI q u o T t M k V v (XW cI cJ a b2 x oA G g J j F O [])) H := P_perm pmL hP
    have hD : va_D (lA s) (MW cI q u o T t M k V v (XW cI cJ a b2 x oA G g J j F O [])) := D_perm pmL hD
    refine lv_aload_n hx hb dL_law_841 rfl (lv_at hl 3 rfl) ?_
    refine lv_aload_n hx hb dL_law_842 rfl (lv_at hl 1 rfl) ?_
    refine lv_iload hx hb dL_law_843 (lv_at hl 5 rfl) ?_
    refine lv_iconst (v := 1) hx hb dL_law_845 (by decide) ?_
    refine lv_iadd hx hb dL_law_846 ?_
    refine va_sld hx hb hX hbl hbA hS v1 dL_law_847 ?_
    refine kVi (As := [.int (xs (Int32.toNatClampNeg (nI (3 * i) + 1)))]) (rest := []) B hK hN hP hD hS hA (c_X7_pass l D cI cJ q u o T t M k V v (xs (Int32.toNatClampNeg (nI (3 * i) + 1))) bb T t k' (XW cI cJ a b2 x oA G g J j F O []) e2) (cwV 1 hts gL_law_X7_pass rfl rfl rfl (by decide +kernel) ⟨(Nat.le_of_ble_eq_true rfl), (Nat.le_of_ble_eq_true rfl)⟩) 10 5 rfl rfl rfl hl.1 rfl (Nat.le_of_ble_eq_true rfl) dL_law_848 ⟨by dsimp only [room_1]; omega, by dsimp only [room_1]; omega⟩ rfl (fun H locs hP hD hS => ?_)
    refine lv_istore (lv' := [(6, .int bb), (5, .int c1), (0, .ref b), (1, .ref (x 0)), (2, .ref (o 0)), (3, .ref oA), (4, .int (nI (3 * i)))]) hx hb dL_law_851 hl (by decide) rfl (fun ls hl => ?_)
    refine lv_aload_n hx hb dL_law_853 rfl (lv_at hl 4 rfl) ?_
    refine kVi (As := []) (rest := []) (r := c1) B hK hN hP hD hS hA (c_X7_thrown l D cI cJ q u o T t M k' V v (XW cI cJ a b2 x oA G g J j F O []) _ e3) (cwV 0 hts gL_law_X7_thrown rfl rfl rfl (by decide +kernel) ⟨(Nat.le_of_ble_eq_true rfl), (Nat.le_of_ble_eq_true rfl)⟩) 10 5 rfl rfl rfl hl.1 rfl (Nat.le_of_ble_eq_true rfl) dL_law_854 ⟨by dsimp only [room_1]; omega, by dsimp only [room_1]; omega⟩ rfl (fun H locs hP hD hS => ?_)
    refine lv_iload hx hb dL_law_857 (lv_at hl 1 rfl) ?_
    refine lv_icmp_eq (tgt := 864) hx hb dL_law_859 (by decide) (fun _ => ?_) (fun h => absurd rfl h)
    refine lv_iload hx hb dL_law_864 (lv_at hl 1 rfl) ?_
    refine lv_if_ne (tgt := 881) hx hb dL_law_866 (by decide) (fun _ => ?_) (fun h => absurd h hc0)
    refine lv_goto (tgt := 1188) hx hb dL_law_881 (by decide) ?_
    refine W.widen (k := 79 + 220 * (i + 1)) (n := 1050 + 1200 * (i + 1)) (by dsimp only; omega) (by dsimp only; omega) ?_
    exact tail G g J j F O T t M k' V v _ _ _ hs2 (P_perm pmL.symm hP) (D_perm pmL.symm hD) hS (lv_sub hl [2, 3, 4, 5, 6] rfl)
set_option maxHeartbeats 4000000 in
set_option maxRecDepth 100000 in
theorem case_next {p : Program} {l : Launch} {e : Env} {s : State} {m : MethodId} {below : List Frame} {meth : Method} {c : Code} {b L : Nat} {xs : Nat → Int32} {D : va_G} {cI cJ : ClassId} (C : LC p l s m meth c b L xs D cI cJ) {a b2 x q u o : Nat → Nat} {oA i : Nat} (hi : 3 * i + 3 ≤ L) (tail : LQt p l e s m below meth c b D cI cJ a b2 x q u o oA (i + 1) i 1188 (79 + 220 * (i + 1)) (1050 + 1200 * (i + 1))) : LQt p l e s m below meth c b D cI cJ a b2 x q u o oA i i 884 (79 + 220 * i) (1050 + 1200 * i) := by
  intro G g J j F O T t M k V v H locs ls hs hP hD hS hl
  obtain ⟨⟨B, hK, hN, hT⟩, hX, hbl, hfl, hL⟩ := C
  obtain ⟨hx, hb, hml, hown, hts⟩ := id B
  have hA : ∀ q : Nat, s.heap.size ≤ q → lA s q := fun _ h => h
  have hbA : ¬ lA s b := Nat.not_le.mpr hbl
  have v1 : vp_in (nI (3 * i) + 1) L := by rw [nI_1]; exact vp_in_nI (by omega) (by omega)
  have v2 : vp_in (nI (3 * i) + 2) L := by rw [show nI (3 * i) + 2 = nI (3 * i + 2) from nI_add _ 2]; exact vp_in_nI (by omega) (by omega)
  rcases op_next hs (xs (Int32.toNatClampNeg (nI (3 * i) + 1))) with ⟨r, k', e1, e2, e3, hs2⟩ | ⟨E1, c1, bb, k', hc, e1, e2, e3, hs2⟩
  · refine lv_aload_n hx hb dL_law_884 rfl (lv_at hl 1 rfl) ?_
    refine lv_aload_n hx hb dL_law_885 rfl (lv_at hl 0 rfl) ?_
    refine lv_iload hx hb dL_law_886 (lv_at hl 4 rfl) ?_
    refine lv_iconst (v := 1) hx hb dL_law_888 (by decide) ?_
    refine lv_iadd hx hb dL_law_889 ?_
    refine va_sld hx hb hX hbl hbA hS v1 dL_law_890 ?_
    refine lv_aload_n hx hb dL_law_891 rfl (lv_at hl 3 rfl) ?_
    refine kHs (As := [.ref (x 0), .int (xs (Int32.toNatClampNeg (nI (3 * i) + 1))), .ref oA]) (rest := []) B hK hN hT hP hD hS hA (c_L_next l hfl D cI cJ a b2 x G g J j F (xs (Int32.toNatClampNeg (nI (3 * i) + 1))) _ oA O 0 (XW cI cJ a b2 x oA G g J j F (vp_updL O 0 r.toInt64) (MW cI q u o T t M k V v [])) (MW cI q u o T t M k V v []) e1 (show _ ∧ _ from ⟨rfl, rfl⟩)) (vx_cwSW 3 hts gL_law_L_next rfl rfl rfl (by decide +kernel) ⟨(Nat.le_of_ble_eq_true rfl), (Nat.le_of_ble_eq_true rfl)⟩) rfl hl.1 rfl (Nat.le_of_ble_eq_true rfl) dL_law_892 ⟨by dsimp only [room_1]; omega, by dsimp only [room_1]; omega⟩ rfl (fun H locs hP hD hS => ?_)
    refine lv_istore (lv' := [(5, .int 0), (0, .ref b), (1, .ref (x 0)), (2, .ref (o 0)), (3, .ref oA), (4, .int (nI (3 * i)))]) hx hb dL_law_895 hl (by decide) rfl (fun ls hl => ?_)
    have hP : va_P D vwCl (MW cI q u o T t M k V v (XW cI cJ a b2 x oA G g J j F (vp_updL O 0 r.toInt64) [])) H := P_perm pmL hP
    have hD : va_D (lA s) (MW cI q u o T t M k V v (XW cI cJ a b2 x oA G g J j F (vp_updL O 0 r.toInt64) [])) := D_perm pmL hD
    refine lv_aload_n hx hb dL_law_897 rfl (lv_at hl 3 rfl) ?_
    refine lv_aload_n hx hb dL_law_898 rfl (lv_at hl 1 rfl) ?_
    refine lv_iload hx hb dL_law_899 (lv_at hl 5 rfl) ?_
    refine lv_iconst (v := 1) hx hb dL_law_901 (by decide) ?_
    refine lv_iadd hx hb dL_law_902 ?_
    refine va_sld hx hb hX hbl hbA hS v1 dL_law_903 ?_
    refine kVi (As := [.int (xs (Int32.toNatClampNeg (nI (3 * i) + 1)))]) (rest := []) B hK hN hP hD hS hA (c_X7_next l D cI cJ q u o T t M k V v (xs (Int32.toNatClampNeg (nI (3 * i) + 1))) r k' (XW cI cJ a b2 x oA G g J j F (vp_updL O 0 r.toInt64) []) e2) (cwV 1 hts gL_law_X7_next rfl rfl rfl (by decide +kernel) ⟨(Nat.le_of_ble_eq_true rfl), (Nat.le_of_ble_eq_true rfl)⟩) 10 5 rfl rfl rfl hl.1 rfl (Nat.le_of_ble_eq_true rfl) dL_law_904 ⟨by dsimp only [room_1]; omega, by dsimp only [room_1]; omega⟩ rfl (fun H locs hP hD hS => ?_)
    refine lv_istore (lv' := [(6, .int r), (5, .int 0), (0, .ref b), (1, .ref (x 0)), (2, .ref (o 0)), (3, .ref oA), (4, .int (nI (3 * i)))]) hx hb dL_law_907 hl (by decide) rfl (fun ls hl => ?_)
    refine lv_aload_n hx hb dL_law_909 rfl (lv_at hl 4 rfl) ?_
    refine kVi (As := []) (rest := []) (r := 0) B hK hN hP hD hS hA (c_X7_thrown l D cI cJ q u o T t M k' V v (XW cI cJ a b2 x oA G g J j F (vp_updL O 0 r.toInt64) []) _ e3) (cwV 0 hts gL_law_X7_thrown rfl rfl rfl (by decide +kernel) ⟨(Nat.le_of_ble_eq_true rfl), (Nat.le_of_ble_eq_true rfl)⟩) 10 5 rfl rfl rfl hl.1 rfl (Nat.le_of_ble_eq_true rfl) dL_law_910 ⟨by dsimp only [room_1]; omega, by dsimp only [room_1]; omega⟩ rfl (fun H locs hP hD hS => ?_)
    refine lv_iload hx hb dL_law_913 (lv_at hl 1 rfl) ?_
    refine lv_icmp_eq (tgt := 920) hx hb dL_law_915 (by decide) (fun _ => ?_) (fun h => absurd rfl h)
    refine lv_iload hx hb dL_law_920 (lv_at hl 1 rfl) ?_
    refine lv_if_ne (tgt := 937) hx hb dL_law_922 (by decide) (fun h => absurd rfl h) (fun _ => ?_)
    refine lv_aload_n hx hb dL_law_925 rfl (lv_at hl 5 rfl) ?_
    refine lv_iconst (v := 0) hx hb dL_law_926 (by decide) ?_
    refine va_lald hx hb hK hP 78 1 rfl rfl (vp_in_nI (n := 0) (by decide) (by decide)) dL_law_927 ?_
    refine lv_iload hx hb dL_law_928 (lv_at hl 0 rfl) ?_
    refine lv_i2l hx hb dL_law_930 rfl ?_
    refine lcmpE hx hb dL_law_931 ?_
    refine lv_if_eq (tgt := 937) hx hb dL_law_932 (by decide) (fun _ => ?_) (fun h => absurd rfl h)
    refine lv_goto (tgt := 1188) hx hb dL_law_937 (by decide) ?_
    refine W.widen (k := 79 + 220 * (i + 1)) (n := 1050 + 1200 * (i + 1)) (by dsimp only; omega) (by dsimp only; omega) ?_
    exact tail G g J j F (vp_updL O 0 r.toInt64) T t M k' V v _ _ _ hs2 (P_perm pmL.symm hP) (D_perm pmL.symm hD) hS (lv_sub hl [2, 3, 4, 5, 6] rfl)
  · have hc0 : ¬ c1 = 0 := by rw [hc.2]; decide
    refine lv_aload_n hx hb dL_law_884 rfl (lv_at hl 1 rfl) ?_
    refine lv_aload_n hx hb dL_law_885 rfl (lv_at hl 0 rfl) ?_
    refine lv_iload hx hb dL_law_886 (lv_at hl 4 rfl) ?_
    refine lv_iconst (v := 1) hx hb dL_law_888 (by decide) ?_
    refine lv_iadd hx hb dL_law_889 ?_
    refine va_sld hx hb hX hbl hbA hS v1 dL_law_890 ?_
    refine lv_aload_n hx hb dL_law_891 rfl (lv_at hl 3 rfl) ?_
    refine kHs (As := [.ref (x 0), .int (xs (Int32.toNatClampNeg (nI (3 * i) + 1))), .ref oA]) (rest := []) B hK hN hT hP hD hS hA (c_L_next l hfl D cI cJ a b2 x G g J j F (xs (Int32.toNatClampNeg (nI (3 * i) + 1))) _ oA O c1 (XW cI cJ a b2 x oA G g J j F O (MW cI q u o T t M k V v [])) (MW cI q u o T t M k V v []) e1 (show _ ∧ _ from ⟨hc, rfl⟩)) (vx_cwSW 3 hts gL_law_L_next rfl rfl rfl (by decide +kernel) ⟨(Nat.le_of_ble_eq_true rfl), (Nat.le_of_ble_eq_true rfl)⟩) rfl hl.1 rfl (Nat.le_of_ble_eq_true rfl) dL_law_892 ⟨by dsimp only [room_1]; omega, by dsimp only [room_1]; omega⟩ rfl (fun H locs hP hD hS => ?_)
    refine lv_istore (lv' := [(5, .int c1), (0, .ref b), (1, .ref (x 0)), (2, .ref (o 0)), (3, .ref oA), (4, .int (nI (3 * i)))]) hx hb dL_law_895 hl (by decide) rfl (fun ls hl => ?_)
    have hP : va_P D vwCl (MW cI q u o T t M k V v (XW cI cJ a b2 x oA G g J j F O [])) H := P_perm pmL hP
    have hD : va_D (lA s) (MW cI q u o T t M k V v (XW cI cJ a b2 x oA G g J j F O [])) := D_perm pmL hD
    refine lv_aload_n hx hb dL_law_897 rfl (lv_at hl 3 rfl) ?_
    refine lv_aload_n hx hb dL_law_898 rfl (lv_at hl 1 rfl) ?_
    refine lv_iload hx hb dL_law_899 (lv_at hl 5 rfl) ?_
    refine lv_iconst (v := 1) hx hb dL_law_901 (by decide) ?_
    refine lv_iadd hx hb dL_law_902 ?_
    refine va_sld hx hb hX hbl hbA hS v1 dL_law_903 ?_
    refine kVi (As := [.int (xs (Int32.toNatClampNeg (nI (3 * i) + 1)))]) (rest := []) B hK hN hP hD hS hA (c_X7_next l D cI cJ q u o T t M k V v (xs (Int32.toNatClampNeg (nI (3 * i) + 1))) bb k' (XW cI cJ a b2 x oA G g J j F O []) e2) (cwV 1 hts gL_law_X7_next rfl rfl rfl (by decide +kernel) ⟨(Nat.le_of_ble_eq_true rfl), (Nat.le_of_ble_eq_true rfl)⟩) 10 5 rfl rfl rfl hl.1 rfl (Nat.le_of_ble_eq_true rfl) dL_law_904 ⟨by dsimp only [room_1]; omega, by dsimp only [room_1]; omega⟩ rfl (fun H locs hP hD hS => ?_)
    refine lv_istore (lv' := [(6, .int bb), (5, .int c1), (0, .ref b), (1, .ref (x 0)), (2, .ref (o 0)), (3, .ref oA), (4, .int (nI (3 * i)))]) hx hb dL_law_907 hl (by decide) rfl (fun ls hl => ?_)
    refine lv_aload_n hx hb dL_law_909 rfl (lv_at hl 4 rfl) ?_
    refine kVi (As := []) (rest := []) (r := c1) B hK hN hP hD hS hA (c_X7_thrown l D cI cJ q u o T t M k' V v (XW cI cJ a b2 x oA G g J j F O []) _ e3) (cwV 0 hts gL_law_X7_thrown rfl rfl rfl (by decide +kernel) ⟨(Nat.le_of_ble_eq_true rfl), (Nat.le_of_ble_eq_true rfl)⟩) 10 5 rfl rfl rfl hl.1 rfl (Nat.le_of_ble_eq_true rfl) dL_law_910 ⟨by dsimp only [room_1]; omega, by dsimp only [room_1]; omega⟩ rfl (fun H locs hP hD hS => ?_)
    refine lv_iload hx hb dL_law_913 (lv_at hl 1 rfl) ?_
    refine lv_icmp_eq (tgt := 920) hx hb dL_law_915 (by decide) (fun _ => ?_) (fun h => absurd rfl h)
    refine lv_iload hx hb dL_law_920 (lv_at hl 1 rfl) ?_
    refine lv_if_ne (tgt := 937) hx hb dL_law_922 (by decide) (fun _ => ?_) (fun h => absurd h hc0)
    refine lv_goto (tgt := 1188) hx hb dL_law_937 (by decide) ?_
    refine W.widen (k := 79 + 220 * (i + 1)) (n := 1050 + 1200 * (i + 1)) (by dsimp only; omega) (by dsimp only; omega) ?_
    exact tail G g J j F O T t M k' V v _ _ _ hs2 (P_perm pmL.symm hP) (D_perm pmL.symm hD) hS (lv_sub hl [2, 3, 4, 5, 6] rfl)
set_option maxHeartbeats 4000000 in
set_option maxRecDepth 100000 in
theorem case_waits {p : Program} {l : Launch} {e : Env} {s : State} {m : MethodId} {below : List Frame} {meth : Method} {c : Code} {b L : Nat} {xs : Nat → Int32} {D : va_G} {cI cJ : ClassId} (C : LC p l s m meth c b L xs D cI cJ) {a b2 x q u o : Nat → Nat} {oA i : Nat} (hi : 3 * i + 3 ≤ L) (tail : LQt p l e s m below meth c b D cI cJ a b2 x q u o oA (i + 1) i 1188 (79 + 220 * (i + 1)) (1050 + 1200 * (i + 1))) : LQt p l e s m below meth c b D cI cJ a b2 x q u o oA i i 940 (79 + 220 * i) (1050 + 1200 * i) := by
  intro G g J j F O T t M k V v H locs ls hs hP hD hS hl
  obtain ⟨⟨B, hK, hN, hT⟩, hX, hbl, hfl, hL⟩ := C
  obtain ⟨hx, hb, hml, hown, hts⟩ := id B
  have hA : ∀ q : Nat, s.heap.size ≤ q → lA s q := fun _ h => h
  have hbA : ¬ lA s b := Nat.not_le.mpr hbl
  have v1 : vp_in (nI (3 * i) + 1) L := by rw [nI_1]; exact vp_in_nI (by omega) (by omega)
  have v2 : vp_in (nI (3 * i) + 2) L := by rw [show nI (3 * i) + 2 = nI (3 * i + 2) from nI_add _ 2]; exact vp_in_nI (by omega) (by omega)
  rcases op_waits (j := j) (v := v) hs (show i ≤ 1000 by omega) (xs (Int32.toNatClampNeg (nI (3 * i) + 1))) with ⟨r, J', j', k', V', v', e1, e2, e3, hs2⟩ | ⟨E1, c1, bb, k', hc, e1, e2, e3, hs2⟩
  · refine lv_aload_n hx hb dL_law_940 rfl (lv_at hl 1 rfl) ?_
    refine lv_aload_n hx hb dL_law_941 rfl (lv_at hl 0 rfl) ?_
    refine lv_iload hx hb dL_law_942 (lv_at hl 4 rfl) ?_
    refine lv_iconst (v := 1) hx hb dL_law_944 (by decide) ?_
    refine lv_iadd hx hb dL_law_945 ?_
    refine va_sld hx hb hX hbl hbA hS v1 dL_law_946 ?_
    refine lv_aload_n hx hb dL_law_947 rfl (lv_at hl 3 rfl) ?_
    refine kHs (As := [.ref (x 0), .int (xs (Int32.toNatClampNeg (nI (3 * i) + 1))), .ref oA]) (rest := []) B hK hN hT hP hD hS hA (c_L_waits l hfl D cI cJ a b2 x G g J j F (xs (Int32.toNatClampNeg (nI (3 * i) + 1))) _ oA O 0 (XW cI cJ a b2 x oA G g J' j' F (vp_updL O 0 r.toInt64) (MW cI q u o T t M k V v [])) (MW cI q u o T t M k V v []) e1 (show _ ∧ _ from ⟨rfl, rfl⟩)) (vx_cwSW 3 hts gL_law_L_waits rfl rfl rfl (by decide +kernel) ⟨(Nat.le_of_ble_eq_true rfl), (Nat.le_of_ble_eq_true rfl)⟩) rfl hl.1 rfl (Nat.le_of_ble_eq_true rfl) dL_law_948 ⟨by dsimp only [room_1]; omega, by dsimp only [room_1]; omega⟩ rfl (fun H locs hP hD hS => ?_)
    refine lv_istore (lv' := [(5, .int 0), (0, .ref b), (1, .ref (x 0)), (2, .ref (o 0)), (3, .ref oA), (4, .int (nI (3 * i)))]) hx hb dL_law_951 hl (by decide) rfl (fun ls hl => ?_)
    have hP : va_P D vwCl (MW cI q u o T t M k V v (XW cI cJ a b2 x oA G g J' j' F (vp_updL O 0 r.toInt64) [])) H := P_perm pmL hP
    have hD : va_D (lA s) (MW cI q u o T t M k V v (XW cI cJ a b2 x oA G g J' j' F (vp_updL O 0 r.toInt64) [])) := D_perm pmL hD
    refine lv_aload_n hx hb dL_law_953 rfl (lv_at hl 3 rfl) ?_
    refine lv_aload_n hx hb dL_law_954 rfl (lv_at hl 1 rfl) ?_
    refine lv_iload hx hb dL_law_955 (lv_at hl 5 rfl) ?_
    refine lv_iconst (v := 1) hx hb dL_law_957 (by decide) ?_
    refine lv_iadd hx hb dL_law_958 ?_
    refine va_sld hx hb hX hbl hbA hS v1 dL_law_959 ?_
    refine kVi (As := [.int (xs (Int32.toNatClampNeg (nI (3 * i) + 1)))]) (rest := []) B hK hN hP hD hS hA (c_X7_waits l D cI cJ q u o T t M k V v (xs (Int32.toNatClampNeg (nI (3 * i) + 1))) r k' V' v' (XW cI cJ a b2 x oA G g J' j' F (vp_updL O 0 r.toInt64) []) e2) (cwV 1 hts gL_law_X7_waits rfl rfl rfl (by decide +kernel) ⟨(Nat.le_of_ble_eq_true rfl), (Nat.le_of_ble_eq_true rfl)⟩) 10 5 rfl rfl rfl hl.1 rfl (Nat.le_of_ble_eq_true rfl) dL_law_960 ⟨by dsimp only [room_1]; omega, by dsimp only [room_1]; omega⟩ rfl (fun H locs hP hD hS => ?_)
    refine lv_istore (lv' := [(6, .int r), (5, .int 0), (0, .ref b), (1, .ref (x 0)), (2, .ref (o 0)), (3, .ref oA), (4, .int (nI (3 * i)))]) hx hb dL_law_963 hl (by decide) rfl (fun ls hl => ?_)
    refine lv_aload_n hx hb dL_law_965 rfl (lv_at hl 4 rfl) ?_
    refine kVi (As := []) (rest := []) (r := 0) B hK hN hP hD hS hA (c_X7_thrown l D cI cJ q u o T t M k' V' v' (XW cI cJ a b2 x oA G g J' j' F (vp_updL O 0 r.toInt64) []) _ e3) (cwV 0 hts gL_law_X7_thrown rfl rfl rfl (by decide +kernel) ⟨(Nat.le_of_ble_eq_true rfl), (Nat.le_of_ble_eq_true rfl)⟩) 10 5 rfl rfl rfl hl.1 rfl (Nat.le_of_ble_eq_true rfl) dL_law_966 ⟨by dsimp only [room_1]; omega, by dsimp only [room_1]; omega⟩ rfl (fun H locs hP hD hS => ?_)
    refine lv_iload hx hb dL_law_969 (lv_at hl 1 rfl) ?_
    refine lv_icmp_eq (tgt := 976) hx hb dL_law_971 (by decide) (fun _ => ?_) (fun h => absurd rfl h)
    refine lv_iload hx hb dL_law_976 (lv_at hl 1 rfl) ?_
    refine lv_if_ne (tgt := 993) hx hb dL_law_978 (by decide) (fun h => absurd rfl h) (fun _ => ?_)
    refine lv_aload_n hx hb dL_law_981 rfl (lv_at hl 5 rfl) ?_
    refine lv_iconst (v := 0) hx hb dL_law_982 (by decide) ?_
    refine va_lald hx hb hK hP 78 1 rfl rfl (vp_in_nI (n := 0) (by decide) (by decide)) dL_law_983 ?_
    refine lv_iload hx hb dL_law_984 (lv_at hl 0 rfl) ?_
    refine lv_i2l hx hb dL_law_986 rfl ?_
    refine lcmpE hx hb dL_law_987 ?_
    refine lv_if_eq (tgt := 993) hx hb dL_law_988 (by decide) (fun _ => ?_) (fun h => absurd rfl h)
    refine lv_goto (tgt := 1188) hx hb dL_law_993 (by decide) ?_
    refine W.widen (k := 79 + 220 * (i + 1)) (n := 1050 + 1200 * (i + 1)) (by dsimp only; omega) (by dsimp only; omega) ?_
    exact tail G g J' j' F (vp_updL O 0 r.toInt64) T t M k' V' v' _ _ _ hs2 (P_perm pmL.symm hP) (D_perm pmL.symm hD) hS (lv_sub hl [2, 3, 4, 5, 6] rfl)
  · have hc0 : ¬ c1 = 0 := by rw [hc.2]; decide
    refine lv_aload_n hx hb dL_law_940 rfl (lv_at hl 1 rfl) ?_
    refine lv_aload_n hx hb dL_law_941 rfl (lv_at hl 0 rfl) ?_
    refine lv_iload hx hb dL_law_942 (lv_at hl 4 rfl) ?_
    refine lv_iconst (v := 1) hx hb dL_law_944 (by decide) ?_
    refine lv_iadd hx hb dL_law_945 ?_
    refine va_sld hx hb hX hbl hbA hS v1 dL_law_946 ?_
    refine lv_aload_n hx hb dL_law_947 rfl (lv_at hl 3 rfl) ?_
    refine kHs (As := [.ref (x 0), .int (xs (Int32.toNatClampNeg (nI (3 * i) + 1))), .ref oA]) (rest := []) B hK hN hT hP hD hS hA (c_L_waits l hfl D cI cJ a b2 x G g J j F (xs (Int32.toNatClampNeg (nI (3 * i) + 1))) _ oA O c1 (XW cI cJ a b2 x oA G g J j F O (MW cI q u o T t M k V v [])) (MW cI q u o T t M k V v []) e1 (show _ ∧ _ from ⟨hc, rfl⟩)) (vx_cwSW 3 hts gL_law_L_waits rfl rfl rfl (by decide +kernel) ⟨(Nat.le_of_ble_eq_true rfl), (Nat.le_of_ble_eq_true rfl)⟩) rfl hl.1 rfl (Nat.le_of_ble_eq_true rfl) dL_law_948 ⟨by dsimp only [room_1]; omega, by dsimp only [room_1]; omega⟩ rfl (fun H locs hP hD hS => ?_)
    refine lv_istore (lv' := [(5, .int c1), (0, .ref b), (1, .ref (x 0)), (2, .ref (o 0)), (3, .ref oA), (4, .int (nI (3 * i)))]) hx hb dL_law_951 hl (by decide) rfl (fun ls hl => ?_)
    have hP : va_P D vwCl (MW cI q u o T t M k V v (XW cI cJ a b2 x oA G g J j F O [])) H := P_perm pmL hP
    have hD : va_D (lA s) (MW cI q u o T t M k V v (XW cI cJ a b2 x oA G g J j F O [])) := D_perm pmL hD
    refine lv_aload_n hx hb dL_law_953 rfl (lv_at hl 3 rfl) ?_
    refine lv_aload_n hx hb dL_law_954 rfl (lv_at hl 1 rfl) ?_
    refine lv_iload hx hb dL_law_955 (lv_at hl 5 rfl) ?_
    refine lv_iconst (v := 1) hx hb dL_law_957 (by decide) ?_
    refine lv_iadd hx hb dL_law_958 ?_
    refine va_sld hx hb hX hbl hbA hS v1 dL_law_959 ?_
    refine kVi (As := [.int (xs (Int32.toNatClampNeg (nI (3 * i) + 1)))]) (rest := []) B hK hN hP hD hS hA (c_X7_waits l D cI cJ q u o T t M k V v (xs (Int32.toNatClampNeg (nI (3 * i) + 1))) bb k' V v (XW cI cJ a b2 x oA G g J j F O []) e2) (cwV 1 hts gL_law_X7_waits rfl rfl rfl (by decide +kernel) ⟨(Nat.le_of_ble_eq_true rfl), (Nat.le_of_ble_eq_true rfl)⟩) 10 5 rfl rfl rfl hl.1 rfl (Nat.le_of_ble_eq_true rfl) dL_law_960 ⟨by dsimp only [room_1]; omega, by dsimp only [room_1]; omega⟩ rfl (fun H locs hP hD hS => ?_)
    refine lv_istore (lv' := [(6, .int bb), (5, .int c1), (0, .ref b), (1, .ref (x 0)), (2, .ref (o 0)), (3, .ref oA), (4, .int (nI (3 * i)))]) hx hb dL_law_963 hl (by decide) rfl (fun ls hl => ?_)
    refine lv_aload_n hx hb dL_law_965 rfl (lv_at hl 4 rfl) ?_
    refine kVi (As := []) (rest := []) (r := c1) B hK hN hP hD hS hA (c_X7_thrown l D cI cJ q u o T t M k' V v (XW cI cJ a b2 x oA G g J j F O []) _ e3) (cwV 0 hts gL_law_X7_thrown rfl rfl rfl (by decide +kernel) ⟨(Nat.le_of_ble_eq_true rfl), (Nat.le_of_ble_eq_true rfl)⟩) 10 5 rfl rfl rfl hl.1 rfl (Nat.le_of_ble_eq_true rfl) dL_law_966 ⟨by dsimp only [room_1]; omega, by dsimp only [room_1]; omega⟩ rfl (fun H locs hP hD hS => ?_)
    refine lv_iload hx hb dL_law_969 (lv_at hl 1 rfl) ?_
    refine lv_icmp_eq (tgt := 976) hx hb dL_law_971 (by decide) (fun _ => ?_) (fun h => absurd rfl h)
    refine lv_iload hx hb dL_law_976 (lv_at hl 1 rfl) ?_
    refine lv_if_ne (tgt := 993) hx hb dL_law_978 (by decide) (fun _ => ?_) (fun h => absurd h hc0)
    refine lv_goto (tgt := 1188) hx hb dL_law_993 (by decide) ?_
    refine W.widen (k := 79 + 220 * (i + 1)) (n := 1050 + 1200 * (i + 1)) (by dsimp only; omega) (by dsimp only; omega) ?_
    exact tail G g J j F O T t M k' V v _ _ _ hs2 (P_perm pmL.symm hP) (D_perm pmL.symm hD) hS (lv_sub hl [2, 3, 4, 5, 6] rfl)
set_option maxHeartbeats 4000000 in
set_option maxRecDepth 100000 in
theorem case_foresee {p : Program} {l : Launch} {e : Env} {s : State} {m : MethodId} {below : List Frame} {meth : Method} {c : Code} {b L : Nat} {xs : Nat → Int32} {D : va_G} {cI cJ : ClassId} (C : LC p l s m meth c b L xs D cI cJ) {a b2 x q u o : Nat → Nat} {oA i : Nat} (hi : 3 * i + 3 ≤ L) (tail : LQt p l e s m below meth c b D cI cJ a b2 x q u o oA (i + 1) i 1188 (79 + 220 * (i + 1)) (1050 + 1200 * (i + 1))) : LQt p l e s m below meth c b D cI cJ a b2 x q u o oA i i 996 (79 + 220 * i) (1050 + 1200 * i) := by
  intro G g J j F O T t M k V v H locs ls hs hP hD hS hl
  obtain ⟨⟨B, hK, hN, hT⟩, hX, hbl, hfl, hL⟩ := C
  obtain ⟨hx, hb, hml, hown, hts⟩ := id B
  have hA : ∀ q : Nat, s.heap.size ≤ q → lA s q := fun _ h => h
  have hbA : ¬ lA s b := Nat.not_le.mpr hbl
  have v1 : vp_in (nI (3 * i) + 1) L := by rw [nI_1]; exact vp_in_nI (by omega) (by omega)
  have v2 : vp_in (nI (3 * i) + 2) L := by rw [show nI (3 * i) + 2 = nI (3 * i + 2) from nI_add _ 2]; exact vp_in_nI (by omega) (by omega)
  rcases op_foresee (j := j) (v := v) hs (show i ≤ 1000 by omega) (xs (Int32.toNatClampNeg (nI (3 * i) + 1))) (xs (Int32.toNatClampNeg (nI (3 * i) + 2))) with ⟨r, J', j', k', V', v', e1, e2, e3, hs2⟩ | ⟨E1, c1, bb, k', hc, e1, e2, e3, hs2⟩
  · refine lv_aload_n hx hb dL_law_996 rfl (lv_at hl 1 rfl) ?_
    refine lv_aload_n hx hb dL_law_997 rfl (lv_at hl 0 rfl) ?_
    refine lv_iload hx hb dL_law_998 (lv_at hl 4 rfl) ?_
    refine lv_iconst (v := 1) hx hb dL_law_1000 (by decide) ?_
    refine lv_iadd hx hb dL_law_1001 ?_
    refine va_sld hx hb hX hbl hbA hS v1 dL_law_1002 ?_
    refine lv_aload_n hx hb dL_law_1003 rfl (lv_at hl 0 rfl) ?_
    refine lv_iload hx hb dL_law_1004 (lv_at hl 4 rfl) ?_
    refine lv_iconst (v := 2) hx hb dL_law_1006 (by decide) ?_
    refine lv_iadd hx hb dL_law_1007 ?_
    refine va_sld hx hb hX hbl hbA hS v2 dL_law_1008 ?_
    refine lv_aload_n hx hb dL_law_1009 rfl (lv_at hl 3 rfl) ?_
    refine kHs (As := [.ref (x 0), .int (xs (Int32.toNatClampNeg (nI (3 * i) + 1))), .int (xs (Int32.toNatClampNeg (nI (3 * i) + 2))), .ref oA]) (rest := []) B hK hN hT hP hD hS hA (c_L_foresee l hfl D cI cJ a b2 x G g J j F (xs (Int32.toNatClampNeg (nI (3 * i) + 1))) (xs (Int32.toNatClampNeg (nI (3 * i) + 2))) _ oA O 0 (XW cI cJ a b2 x oA G g J' j' F (vp_updL O 0 r.toInt64) (MW cI q u o T t M k V v [])) (MW cI q u o T t M k V v []) e1 (show _ ∧ _ from ⟨rfl, rfl⟩)) (vx_cwSW 4 hts gL_law_L_foresee rfl rfl rfl (by decide +kernel) ⟨(Nat.le_of_ble_eq_true rfl), (Nat.le_of_ble_eq_true rfl)⟩) rfl hl.1 rfl (Nat.le_of_ble_eq_true rfl) dL_law_1010 ⟨by dsimp only [room_1]; omega, by dsimp only [room_1]; omega⟩ rfl (fun H locs hP hD hS => ?_)
    refine lv_istore (lv' := [(5, .int 0), (0, .ref b), (1, .ref (x 0)), (2, .ref (o 0)), (3, .ref oA), (4, .int (nI (3 * i)))]) hx hb dL_law_1013 hl (by decide) rfl (fun ls hl => ?_)
    have hP : va_P D vwCl (MW cI q u o T t M k V v (XW cI cJ a b2 x oA G g J' j' F (vp_updL O 0 r.toInt64) [])) H := P_perm pmL hP
    have hD : va_D (lA s) (MW cI q u o T t M k V v (XW cI cJ a b2 x oA G g J' j' F (vp_updL O 0 r.toInt64) [])) := D_perm pmL hD
    refine lv_aload_n hx hb dL_law_1015 rfl (lv_at hl 3 rfl) ?_
    refine lv_aload_n hx hb dL_law_1016 rfl (lv_at hl 1 rfl) ?_
    refine lv_iload hx hb dL_law_1017 (lv_at hl 5 rfl) ?_
    refine lv_iconst (v := 1) hx hb dL_law_1019 (by decide) ?_
    refine lv_iadd hx hb dL_law_1020 ?_
    refine va_sld hx hb hX hbl hbA hS v1 dL_law_1021 ?_
    refine lv_aload_n hx hb dL_law_1022 rfl (lv_at hl 1 rfl) ?_
    refine lv_iload hx hb dL_law_1023 (lv_at hl 5 rfl) ?_
    refine lv_iconst (v := 2) hx hb dL_law_1025 (by decide) ?_
    refine lv_iadd hx hb dL_law_1026 ?_
    refine va_sld hx hb hX hbl hbA hS v2 dL_law_1027 ?_
    refine kVi (As := [.int (xs (Int32.toNatClampNeg (nI (3 * i) + 1))), .int (xs (Int32.toNatClampNeg (nI (3 * i) + 2)))]) (rest := []) B hK hN hP hD hS hA (c_X7_foresee l D cI cJ q u o T t M k V v (xs (Int32.toNatClampNeg (nI (3 * i) + 1))) (xs (Int32.toNatClampNeg (nI (3 * i) + 2))) r k' V' v' (XW cI cJ a b2 x oA G g J' j' F (vp_updL O 0 r.toInt64) []) e2) (cwV 2 hts gL_law_X7_foresee rfl rfl rfl (by decide +kernel) ⟨(Nat.le_of_ble_eq_true rfl), (Nat.le_of_ble_eq_true rfl)⟩) 10 5 rfl rfl rfl hl.1 rfl (Nat.le_of_ble_eq_true rfl) dL_law_1028 ⟨by dsimp only [room_1]; omega, by dsimp only [room_1]; omega⟩ rfl (fun H locs hP hD hS => ?_)
    refine lv_istore (lv' := [(6, .int r), (5, .int 0), (0, .ref b), (1, .ref (x 0)), (2, .ref (o 0)), (3, .ref oA), (4, .int (nI (3 * i)))]) hx hb dL_law_1031 hl (by decide) rfl (fun ls hl => ?_)
    refine lv_aload_n hx hb dL_law_1033 rfl (lv_at hl 4 rfl) ?_
    refine kVi (As := []) (rest := []) (r := 0) B hK hN hP hD hS hA (c_X7_thrown l D cI cJ q u o T t M k' V' v' (XW cI cJ a b2 x oA G g J' j' F (vp_updL O 0 r.toInt64) []) _ e3) (cwV 0 hts gL_law_X7_thrown rfl rfl rfl (by decide +kernel) ⟨(Nat.le_of_ble_eq_true rfl), (Nat.le_of_ble_eq_true rfl)⟩) 10 5 rfl rfl rfl hl.1 rfl (Nat.le_of_ble_eq_true rfl) dL_law_1034 ⟨by dsimp only [room_1]; omega, by dsimp only [room_1]; omega⟩ rfl (fun H locs hP hD hS => ?_)
    refine lv_iload hx hb dL_law_1037 (lv_at hl 1 rfl) ?_
    refine lv_icmp_eq (tgt := 1044) hx hb dL_law_1039 (by decide) (fun _ => ?_) (fun h => absurd rfl h)
    refine lv_iload hx hb dL_law_1044 (lv_at hl 1 rfl) ?_
    refine lv_if_ne (tgt := 1061) hx hb dL_law_1046 (by decide) (fun h => absurd rfl h) (fun _ => ?_)
    refine lv_aload_n hx hb dL_law_1049 rfl (lv_at hl 5 rfl) ?_
    refine lv_iconst (v := 0) hx hb dL_law_1050 (by decide) ?_
    refine va_lald hx hb hK hP 78 1 rfl rfl (vp_in_nI (n := 0) (by decide) (by decide)) dL_law_1051 ?_
    refine lv_iload hx hb dL_law_1052 (lv_at hl 0 rfl) ?_
    refine lv_i2l hx hb dL_law_1054 rfl ?_
    refine lcmpE hx hb dL_law_1055 ?_
    refine lv_if_eq (tgt := 1061) hx hb dL_law_1056 (by decide) (fun _ => ?_) (fun h => absurd rfl h)
    refine lv_goto (tgt := 1188) hx hb dL_law_1061 (by decide) ?_
    refine W.widen (k := 79 + 220 * (i + 1)) (n := 1050 + 1200 * (i + 1)) (by dsimp only; omega) (by dsimp only; omega) ?_
    exact tail G g J' j' F (vp_updL O 0 r.toInt64) T t M k' V' v' _ _ _ hs2 (P_perm pmL.symm hP) (D_perm pmL.symm hD) hS (lv_sub hl [2, 3, 4, 5, 6] rfl)
  · have hc0 : ¬ c1 = 0 := by rcases hc with ⟨-, rfl⟩ | ⟨-, rfl⟩ <;> decide
    refine lv_aload_n hx hb dL_law_996 rfl (lv_at hl 1 rfl) ?_
    refine lv_aload_n hx hb dL_law_997 rfl (lv_at hl 0 rfl) ?_
    refine lv_iload hx hb dL_law_998 (lv_at hl 4 rfl) ?_
    refine lv_iconst (v := 1) hx hb dL_law_1000 (by decide) ?_
    refine lv_iadd hx hb dL_law_1001 ?_
    refine va_sld hx hb hX hbl hbA hS v1 dL_law_1002 ?_
    refine lv_aload_n hx hb dL_law_1003 rfl (lv_at hl 0 rfl) ?_
    refine lv_iload hx hb dL_law_1004 (lv_at hl 4 rfl) ?_
    refine lv_iconst (v := 2) hx hb dL_law_1006 (by decide) ?_
    refine lv_iadd hx hb dL_law_1007 ?_
    refine va_sld hx hb hX hbl hbA hS v2 dL_law_1008 ?_
    refine lv_aload_n hx hb dL_law_1009 rfl (lv_at hl 3 rfl) ?_
    refine kHs (As := [.ref (x 0), .int (xs (Int32.toNatClampNeg (nI (3 * i) + 1))), .int (xs (Int32.toNatClampNeg (nI (3 * i) + 2))), .ref oA]) (rest := []) B hK hN hT hP hD hS hA (c_L_foresee l hfl D cI cJ a b2 x G g J j F (xs (Int32.toNatClampNeg (nI (3 * i) + 1))) (xs (Int32.toNatClampNeg (nI (3 * i) + 2))) _ oA O c1 (XW cI cJ a b2 x oA G g J j F O (MW cI q u o T t M k V v [])) (MW cI q u o T t M k V v []) e1 (show _ ∧ _ from ⟨hc, rfl⟩)) (vx_cwSW 4 hts gL_law_L_foresee rfl rfl rfl (by decide +kernel) ⟨(Nat.le_of_ble_eq_true rfl), (Nat.le_of_ble_eq_true rfl)⟩) rfl hl.1 rfl (Nat.le_of_ble_eq_true rfl) dL_law_1010 ⟨by dsimp only [room_1]; omega, by dsimp only [room_1]; omega⟩ rfl (fun H locs hP hD hS => ?_)
    refine lv_istore (lv' := [(5, .int c1), (0, .ref b), (1, .ref (x 0)), (2, .ref (o 0)), (3, .ref oA), (4, .int (nI (3 * i)))]) hx hb dL_law_1013 hl (by decide) rfl (fun ls hl => ?_)
    have hP : va_P D vwCl (MW cI q u o T t M k V v (XW cI cJ a b2 x oA G g J j F O [])) H := P_perm pmL hP
    have hD : va_D (lA s) (MW cI q u o T t M k V v (XW cI cJ a b2 x oA G g J j F O [])) := D_perm pmL hD
    refine lv_aload_n hx hb dL_law_1015 rfl (lv_at hl 3 rfl) ?_
    refine lv_aload_n hx hb dL_law_1016 rfl (lv_at hl 1 rfl) ?_
    refine lv_iload hx hb dL_law_1017 (lv_at hl 5 rfl) ?_
    refine lv_iconst (v := 1) hx hb dL_law_1019 (by decide) ?_
    refine lv_iadd hx hb dL_law_1020 ?_
    refine va_sld hx hb hX hbl hbA hS v1 dL_law_1021 ?_
    refine lv_aload_n hx hb dL_law_1022 rfl (lv_at hl 1 rfl) ?_
    refine lv_iload hx hb dL_law_1023 (lv_at hl 5 rfl) ?_
    refine lv_iconst (v := 2) hx hb dL_law_1025 (by decide) ?_
    refine lv_iadd hx hb dL_law_1026 ?_
    refine va_sld hx hb hX hbl hbA hS v2 dL_law_1027 ?_
    refine kVi (As := [.int (xs (Int32.toNatClampNeg (nI (3 * i) + 1))), .int (xs (Int32.toNatClampNeg (nI (3 * i) + 2)))]) (rest := []) B hK hN hP hD hS hA (c_X7_foresee l D cI cJ q u o T t M k V v (xs (Int32.toNatClampNeg (nI (3 * i) + 1))) (xs (Int32.toNatClampNeg (nI (3 * i) + 2))) bb k' V v (XW cI cJ a b2 x oA G g J j F O []) e2) (cwV 2 hts gL_law_X7_foresee rfl rfl rfl (by decide +kernel) ⟨(Nat.le_of_ble_eq_true rfl), (Nat.le_of_ble_eq_true rfl)⟩) 10 5 rfl rfl rfl hl.1 rfl (Nat.le_of_ble_eq_true rfl) dL_law_1028 ⟨by dsimp only [room_1]; omega, by dsimp only [room_1]; omega⟩ rfl (fun H locs hP hD hS => ?_)
    refine lv_istore (lv' := [(6, .int bb), (5, .int c1), (0, .ref b), (1, .ref (x 0)), (2, .ref (o 0)), (3, .ref oA), (4, .int (nI (3 * i)))]) hx hb dL_law_1031 hl (by decide) rfl (fun ls hl => ?_)
    refine lv_aload_n hx hb dL_law_1033 rfl (lv_at hl 4 rfl) ?_
    refine kVi (As := []) (rest := []) (r := c1) B hK hN hP hD hS hA (c_X7_thrown l D cI cJ q u o T t M k' V v (XW cI cJ a b2 x oA G g J j F O []) _ e3) (cwV 0 hts gL_law_X7_thrown rfl rfl rfl (by decide +kernel) ⟨(Nat.le_of_ble_eq_true rfl), (Nat.le_of_ble_eq_true rfl)⟩) 10 5 rfl rfl rfl hl.1 rfl (Nat.le_of_ble_eq_true rfl) dL_law_1034 ⟨by dsimp only [room_1]; omega, by dsimp only [room_1]; omega⟩ rfl (fun H locs hP hD hS => ?_)
    refine lv_iload hx hb dL_law_1037 (lv_at hl 1 rfl) ?_
    refine lv_icmp_eq (tgt := 1044) hx hb dL_law_1039 (by decide) (fun _ => ?_) (fun h => absurd rfl h)
    refine lv_iload hx hb dL_law_1044 (lv_at hl 1 rfl) ?_
    refine lv_if_ne (tgt := 1061) hx hb dL_law_1046 (by decide) (fun _ => ?_) (fun h => absurd h hc0)
    refine lv_goto (tgt := 1188) hx hb dL_law_1061 (by decide) ?_
    refine W.widen (k := 79 + 220 * (i + 1)) (n := 1050 + 1200 * (i + 1)) (by dsimp only; omega) (by dsimp only; omega) ?_
    exact tail G g J j F O T t M k' V v _ _ _ hs2 (P_perm pmL.symm hP) (D_perm pmL.symm hD) hS (lv_sub hl [2, 3, 4, 5, 6] rfl)
set_option maxHeartbeats 4000000 in
set_option maxRecDepth 100000 in
theorem case_richest {p : Program} {l : Launch} {e : Env} {s : State} {m : MethodId} {below : List Frame} {meth : Method} {c : Code} {b L : Nat} {xs : Nat → Int32} {D : va_G} {cI cJ : ClassId} (C : LC p l s m meth c b L xs D cI cJ) {a b2 x q u o : Nat → Nat} {oA i : Nat} (hi : 3 * i + 3 ≤ L) (tail : LQt p l e s m below meth c b D cI cJ a b2 x q u o oA (i + 1) i 1188 (79 + 220 * (i + 1)) (1050 + 1200 * (i + 1))) : LQt p l e s m below meth c b D cI cJ a b2 x q u o oA i i 1064 (79 + 220 * i) (1050 + 1200 * i) := by
  intro G g J j F O T t M k V v H locs ls hs hP hD hS hl
  obtain ⟨⟨B, hK, hN, hT⟩, hX, hbl, hfl, hL⟩ := C
  obtain ⟨hx, hb, hml, hown, hts⟩ := id B
  have hA : ∀ q : Nat, s.heap.size ≤ q → lA s q := fun _ h => h
  have hbA : ¬ lA s b := Nat.not_le.mpr hbl
  have v1 : vp_in (nI (3 * i) + 1) L := by rw [nI_1]; exact vp_in_nI (by omega) (by omega)
  have v2 : vp_in (nI (3 * i) + 2) L := by rw [show nI (3 * i) + 2 = nI (3 * i + 2) from nI_add _ 2]; exact vp_in_nI (by omega) (by omega)
  obtain ⟨r, e1, e2, hs2⟩ := same_richest hs
  refine lv_aload_n hx hb dL_law_1064 rfl (lv_at hl 1 rfl) ?_
  refine kVi (As := []) (rest := []) B hK hN hP hD hS hA (c_X5_richest l D cI cJ a b2 x G g J j F r ((oA, .inl (cJ, 1, .inr (.inl O))) :: MW cI q u o T t M k V v []) e1) (cwV 0 hts gL_law_X5_richest rfl rfl rfl (by decide +kernel) ⟨(Nat.le_of_ble_eq_true rfl), (Nat.le_of_ble_eq_true rfl)⟩) 8 56 rfl rfl rfl hl.1 rfl (Nat.le_of_ble_eq_true rfl) dL_law_1065 ⟨by dsimp only [room_1]; omega, by dsimp only [room_1]; omega⟩ rfl (fun H locs hP hD hS => ?_)
  have hP : va_P D vwCl (MW cI q u o T t M k V v (XW cI cJ a b2 x oA G g J j F O [])) H := P_perm pmL hP
  have hD : va_D (lA s) (MW cI q u o T t M k V v (XW cI cJ a b2 x oA G g J j F O [])) := D_perm pmL hD
  refine lv_aload_n hx hb dL_law_1068 rfl (lv_at hl 2 rfl) ?_
  refine kVi (As := []) (rest := [.int r]) B hK hN hP hD hS hA (c_X7_richest l D cI cJ q u o T t M k V v r (uS k 0 0) (XW cI cJ a b2 x oA G g J j F O []) e2) (cwV 0 hts gL_law_X7_richest rfl rfl rfl (by decide +kernel) ⟨(Nat.le_of_ble_eq_true rfl), (Nat.le_of_ble_eq_true rfl)⟩) 10 5 rfl rfl rfl hl.1 rfl (Nat.le_of_ble_eq_true rfl) dL_law_1069 ⟨by dsimp only [room_1]; omega, by dsimp only [room_1]; omega⟩ rfl (fun H locs hP hD hS => ?_)
  refine lv_icmp_eq (tgt := 1188) hx hb dL_law_1072 (by decide) (fun _ => ?_) (fun h => absurd rfl h)
  refine W.widen (k := 79 + 220 * (i + 1)) (n := 1050 + 1200 * (i + 1)) (by dsimp only; omega) (by dsimp only; omega) ?_
  exact tail G g J j F O T t M (uS k 0 0) V v _ _ _ hs2 (P_perm pmL.symm hP) (D_perm pmL.symm hD) hS (lv_sub hl [0, 1, 2, 3, 4] rfl)
set_option maxHeartbeats 4000000 in
set_option maxRecDepth 100000 in
theorem case_change {p : Program} {l : Launch} {e : Env} {s : State} {m : MethodId} {below : List Frame} {meth : Method} {c : Code} {b L : Nat} {xs : Nat → Int32} {D : va_G} {cI cJ : ClassId} (C : LC p l s m meth c b L xs D cI cJ) {a b2 x q u o : Nat → Nat} {oA i : Nat} (hi : 3 * i + 3 ≤ L) (tail : LQt p l e s m below meth c b D cI cJ a b2 x q u o oA (i + 1) i 1188 (79 + 220 * (i + 1)) (1050 + 1200 * (i + 1))) : LQt p l e s m below meth c b D cI cJ a b2 x q u o oA i i 1077 (79 + 220 * i) (1050 + 1200 * i) := by
  intro G g J j F O T t M k V v H locs ls hs hP hD hS hl
  obtain ⟨⟨B, hK, hN, hT⟩, hX, hbl, hfl, hL⟩ := C
  obtain ⟨hx, hb, hml, hown, hts⟩ := id B
  have hA : ∀ q : Nat, s.heap.size ≤ q → lA s q := fun _ h => h
  have hbA : ¬ lA s b := Nat.not_le.mpr hbl
  have v1 : vp_in (nI (3 * i) + 1) L := by rw [nI_1]; exact vp_in_nI (by omega) (by omega)
  have v2 : vp_in (nI (3 * i) + 2) L := by rw [show nI (3 * i) + 2 = nI (3 * i + 2) from nI_add _ 2]; exact vp_in_nI (by omega) (by omega)
  rcases op_change F hs (show i ≤ 1000 by omega) (xs (Int32.toNatClampNeg (nI (3 * i) + 1))) with ⟨r, F', k', e1, e2, e3, hs2⟩ | ⟨E1, c1, bb, k', hc, e1, e2, e3, hs2⟩
  · refine lv_aload_n hx hb dL_law_1077 rfl (lv_at hl 1 rfl) ?_
    refine lv_aload_n hx hb dL_law_1078 rfl (lv_at hl 0 rfl) ?_
    refine lv_iload hx hb dL_law_1079 (lv_at hl 4 rfl) ?_
    refine lv_iconst (v := 1) hx hb dL_law_1081 (by decide) ?_
    refine lv_iadd hx hb dL_law_1082 ?_
    refine va_sld hx hb hX hbl hbA hS v1 dL_law_1083 ?_
    refine lv_aload_n hx hb dL_law_1084 rfl (lv_at hl 3 rfl) ?_
    refine kHs (As := [.ref (x 0), .int (xs (Int32.toNatClampNeg (nI (3 * i) + 1))), .ref oA]) (rest := []) B hK hN hT hP hD hS hA (c_L_change l hfl D cI cJ a b2 x G g J j F (xs (Int32.toNatClampNeg (nI (3 * i) + 1))) _ oA O 0 (XW cI cJ a b2 x oA G g J j F' (vp_updL O 0 r.toInt64) (MW cI q u o T t M k V v [])) (MW cI q u o T t M k V v []) e1 (show _ ∧ _ from ⟨rfl, rfl⟩)) (vx_cwSW 3 hts gL_law_L_change rfl rfl rfl (by decide +kernel) ⟨(Nat.le_of_ble_eq_true rfl), (Nat.le_of_ble_eq_true rfl)⟩) rfl hl.1 rfl (Nat.le_of_ble_eq_true rfl) dL_law_1085 ⟨by dsimp only [room_1]; omega, by dsimp only [room_1]; omega⟩ rfl (fun H locs hP hD hS => ?_)
    refine lv_istore (lv' := [(5, .int 0), (0, .ref b), (1, .ref (x 0)), (2, .ref (o 0)), (3, .ref oA), (4, .int (nI (3 * i)))]) hx hb dL_law_1088 hl (by decide) rfl (fun ls hl => ?_)
    have hP : va_P D vwCl (MW cI q u o T t M k V v (XW cI cJ a b2 x oA G g J j F' (vp_updL O 0 r.toInt64) [])) H := P_perm pmL hP
    have hD : va_D (lA s) (MW cI q u o T t M k V v (XW cI cJ a b2 x oA G g J j F' (vp_updL O 0 r.toInt64) [])) := D_perm pmL hD
    refine lv_aload_n hx hb dL_law_1090 rfl (lv_at hl 3 rfl) ?_
    refine lv_aload_n hx hb dL_law_1091 rfl (lv_at hl 1 rfl) ?_
    refine lv_iload hx hb dL_law_1092 (lv_at hl 5 rfl) ?_
    refine lv_iconst (v := 1) hx hb dL_law_1094 (by decide) ?_
    refine lv_iadd hx hb dL_law_1095 ?_
    refine va_sld hx hb hX hbl hbA hS v1 dL_law_1096 ?_
    refine kVi (As := [.int (xs (Int32.toNatClampNeg (nI (3 * i) + 1)))]) (rest := []) B hK hN hP hD hS hA (c_X7_change l D cI cJ q u o T t M k V v (xs (Int32.toNatClampNeg (nI (3 * i) + 1))) r k' (XW cI cJ a b2 x oA G g J j F' (vp_updL O 0 r.toInt64) []) e2) (cwV 1 hts gL_law_X7_change rfl rfl rfl (by decide +kernel) ⟨(Nat.le_of_ble_eq_true rfl), (Nat.le_of_ble_eq_true rfl)⟩) 10 5 rfl rfl rfl hl.1 rfl (Nat.le_of_ble_eq_true rfl) dL_law_1097 ⟨by dsimp only [room_1]; omega, by dsimp only [room_1]; omega⟩ rfl (fun H locs hP hD hS => ?_)
    refine lv_istore (lv' := [(6, .int r), (5, .int 0), (0, .ref b), (1, .ref (x 0)), (2, .ref (o 0)), (3, .ref oA), (4, .int (nI (3 * i)))]) hx hb dL_law_1100 hl (by decide) rfl (fun ls hl => ?_)
    refine lv_aload_n hx hb dL_law_1102 rfl (lv_at hl 4 rfl) ?_
    refine kVi (As := []) (rest := []) (r := 0) B hK hN hP hD hS hA (c_X7_thrown l D cI cJ q u o T t M k' V v (XW cI cJ a b2 x oA G g J j F' (vp_updL O 0 r.toInt64) []) _ e3) (cwV 0 hts gL_law_X7_thrown rfl rfl rfl (by decide +kernel) ⟨(Nat.le_of_ble_eq_true rfl), (Nat.le_of_ble_eq_true rfl)⟩) 10 5 rfl rfl rfl hl.1 rfl (Nat.le_of_ble_eq_true rfl) dL_law_1103 ⟨by dsimp only [room_1]; omega, by dsimp only [room_1]; omega⟩ rfl (fun H locs hP hD hS => ?_)
    refine lv_iload hx hb dL_law_1106 (lv_at hl 1 rfl) ?_
    refine lv_icmp_eq (tgt := 1113) hx hb dL_law_1108 (by decide) (fun _ => ?_) (fun h => absurd rfl h)
    refine lv_iload hx hb dL_law_1113 (lv_at hl 1 rfl) ?_
    refine lv_if_ne (tgt := 1130) hx hb dL_law_1115 (by decide) (fun h => absurd rfl h) (fun _ => ?_)
    refine lv_aload_n hx hb dL_law_1118 rfl (lv_at hl 5 rfl) ?_
    refine lv_iconst (v := 0) hx hb dL_law_1119 (by decide) ?_
    refine va_lald hx hb hK hP 78 1 rfl rfl (vp_in_nI (n := 0) (by decide) (by decide)) dL_law_1120 ?_
    refine lv_iload hx hb dL_law_1121 (lv_at hl 0 rfl) ?_
    refine lv_i2l hx hb dL_law_1123 rfl ?_
    refine lcmpE hx hb dL_law_1124 ?_
    refine lv_if_eq (tgt := 1130) hx hb dL_law_1125 (by decide) (fun _ => ?_) (fun h => absurd rfl h)
    refine lv_goto (tgt := 1188) hx hb dL_law_1130 (by decide) ?_
    refine W.widen (k := 79 + 220 * (i + 1)) (n := 1050 + 1200 * (i + 1)) (by dsimp only; omega) (by dsimp only; omega) ?_
    exact tail G g J j F' (vp_updL O 0 r.toInt64) T t M k' V v _ _ _ hs2 (P_perm pmL.symm hP) (D_perm pmL.symm hD) hS (lv_sub hl [2, 3, 4, 5, 6] rfl)
  · have hc0 : ¬ c1 = 0 := by rw [hc.2]; decide
    refine lv_aload_n hx hb dL_law_1077 rfl (lv_at hl 1 rfl) ?_
    refine lv_aload_n hx hb dL_law_1078 rfl (lv_at hl 0 rfl) ?_
    refine lv_iload hx hb dL_law_1079 (lv_at hl 4 rfl) ?_
    refine lv_iconst (v := 1) hx hb dL_law_1081 (by decide) ?_
    refine lv_iadd hx hb dL_law_1082 ?_
    refine va_sld hx hb hX hbl hbA hS v1 dL_law_1083 ?_
    refine lv_aload_n hx hb dL_law_1084 rfl (lv_at hl 3 rfl) ?_
    refine kHs (As := [.ref (x 0), .int (xs (Int32.toNatClampNeg (nI (3 * i) + 1))), .ref oA]) (rest := []) B hK hN hT hP hD hS hA (c_L_change l hfl D cI cJ a b2 x G g J j F (xs (Int32.toNatClampNeg (nI (3 * i) + 1))) _ oA O c1 (XW cI cJ a b2 x oA G g J j F O (MW cI q u o T t M k V v [])) (MW cI q u o T t M k V v []) e1 (show _ ∧ _ from ⟨hc, rfl⟩)) (vx_cwSW 3 hts gL_law_L_change rfl rfl rfl (by decide +kernel) ⟨(Nat.le_of_ble_eq_true rfl), (Nat.le_of_ble_eq_true rfl)⟩) rfl hl.1 rfl (Nat.le_of_ble_eq_true rfl) dL_law_1085 ⟨by dsimp only [room_1]; omega, by dsimp only [room_1]; omega⟩ rfl (fun H locs hP hD hS => ?_)
    refine lv_istore (lv' := [(5, .int c1), (0, .ref b), (1, .ref (x 0)), (2, .ref (o 0)), (3, .ref oA), (4, .int (nI (3 * i)))]) hx hb dL_law_1088 hl (by decide) rfl (fun ls hl => ?_)
    have hP : va_P D vwCl (MW cI q u o T t M k V v (XW cI cJ a b2 x oA G g J j F O [])) H := P_perm pmL hP
    have hD : va_D (lA s) (MW cI q u o T t M k V v (XW cI cJ a b2 x oA G g J j F O [])) := D_perm pmL hD
    refine lv_aload_n hx hb dL_law_1090 rfl (lv_at hl 3 rfl) ?_
    refine lv_aload_n hx hb dL_law_1091 rfl (lv_at hl 1 rfl) ?_
    refine lv_iload hx hb dL_law_1092 (lv_at hl 5 rfl) ?_
    refine lv_iconst (v := 1) hx hb dL_law_1094 (by decide) ?_
    refine lv_iadd hx hb dL_law_1095 ?_
    refine va_sld hx hb hX hbl hbA hS v1 dL_law_1096 ?_
    refine kVi (As := [.int (xs (Int32.toNatClampNeg (nI (3 * i) + 1)))]) (rest := []) B hK hN hP hD hS hA (c_X7_change l D cI cJ q u o T t M k V v (xs (Int32.toNatClampNeg (nI (3 * i) + 1))) bb k' (XW cI cJ a b2 x oA G g J j F O []) e2) (cwV 1 hts gL_law_X7_change rfl rfl rfl (by decide +kernel) ⟨(Nat.le_of_ble_eq_true rfl), (Nat.le_of_ble_eq_true rfl)⟩) 10 5 rfl rfl rfl hl.1 rfl (Nat.le_of_ble_eq_true rfl) dL_law_1097 ⟨by dsimp only [room_1]; omega, by dsimp only [room_1]; omega⟩ rfl (fun H locs hP hD hS => ?_)
    refine lv_istore (lv' := [(6, .int bb), (5, .int c1), (0, .ref b), (1, .ref (x 0)), (2, .ref (o 0)), (3, .ref oA), (4, .int (nI (3 * i)))]) hx hb dL_law_1100 hl (by decide) rfl (fun ls hl => ?_)
    refine lv_aload_n hx hb dL_law_1102 rfl (lv_at hl 4 rfl) ?_
    refine kVi (As := []) (rest := []) (r := c1) B hK hN hP hD hS hA (c_X7_thrown l D cI cJ q u o T t M k' V v (XW cI cJ a b2 x oA G g J j F O []) _ e3) (cwV 0 hts gL_law_X7_thrown rfl rfl rfl (by decide +kernel) ⟨(Nat.le_of_ble_eq_true rfl), (Nat.le_of_ble_eq_true rfl)⟩) 10 5 rfl rfl rfl hl.1 rfl (Nat.le_of_ble_eq_true rfl) dL_law_1103 ⟨by dsimp only [room_1]; omega, by dsimp only [room_1]; omega⟩ rfl (fun H locs hP hD hS => ?_)
    refine lv_iload hx hb dL_law_1106 (lv_at hl 1 rfl) ?_
    refine lv_icmp_eq (tgt := 1113) hx hb dL_law_1108 (by decide) (fun _ => ?_) (fun h => absurd rfl h)
    refine lv_iload hx hb dL_law_1113 (lv_at hl 1 rfl) ?_
    refine lv_if_ne (tgt := 1130) hx hb dL_law_1115 (by decide) (fun _ => ?_) (fun h => absurd h hc0)
    refine lv_goto (tgt := 1188) hx hb dL_law_1130 (by decide) ?_
    refine W.widen (k := 79 + 220 * (i + 1)) (n := 1050 + 1200 * (i + 1)) (by dsimp only; omega) (by dsimp only; omega) ?_
    exact tail G g J j F O T t M k' V v _ _ _ hs2 (P_perm pmL.symm hP) (D_perm pmL.symm hD) hS (lv_sub hl [2, 3, 4, 5, 6] rfl)
set_option maxHeartbeats 4000000 in
set_option maxRecDepth 100000 in
theorem case_mean {p : Program} {l : Launch} {e : Env} {s : State} {m : MethodId} {below : List Frame} {meth : Method} {c : Code} {b L : Nat} {xs : Nat → Int32} {D : va_G} {cI cJ : ClassId} (C : LC p l s m meth c b L xs D cI cJ) {a b2 x q u o : Nat → Nat} {oA i : Nat} (hi : 3 * i + 3 ≤ L) (tail : LQt p l e s m below meth c b D cI cJ a b2 x q u o oA (i + 1) i 1188 (79 + 220 * (i + 1)) (1050 + 1200 * (i + 1))) : LQt p l e s m below meth c b D cI cJ a b2 x q u o oA i i 1133 (79 + 220 * i) (1050 + 1200 * i) := by
  intro G g J j F O T t M k V v H locs ls hs hP hD hS hl
  obtain ⟨⟨B, hK, hN, hT⟩, hX, hbl, hfl, hL⟩ := C
  obtain ⟨hx, hb, hml, hown, hts⟩ := id B
  have hA : ∀ q : Nat, s.heap.size ≤ q → lA s q := fun _ h => h
  have hbA : ¬ lA s b := Nat.not_le.mpr hbl
  have v1 : vp_in (nI (3 * i) + 1) L := by rw [nI_1]; exact vp_in_nI (by omega) (by omega)
  have v2 : vp_in (nI (3 * i) + 2) L := by rw [show nI (3 * i) + 2 = nI (3 * i + 2) from nI_add _ 2]; exact vp_in_nI (by omega) (by omega)
  obtain ⟨r, -, e1, e2, hs2⟩ := same_mean hs
  refine lv_aload_n hx hb dL_law_1133 rfl (lv_at hl 1 rfl) ?_
  refine kVd (As := []) (rest := []) B hK hN hP hD hS hA (c_X5_mean l D cI cJ a b2 x G g J j F r ((oA, .inl (cJ, 1, .inr (.inl O))) :: MW cI q u o T t M k V v []) e1) (cwV 0 hts gL_law_X5_mean rfl rfl rfl (by decide +kernel) ⟨(Nat.le_of_ble_eq_true rfl), (Nat.le_of_ble_eq_true rfl)⟩) 8 56 rfl rfl rfl hl.1 rfl (Nat.le_of_ble_eq_true rfl) dL_law_1134 ⟨by dsimp only [room_1]; omega, by dsimp only [room_1]; omega⟩ rfl (fun H locs hP hD hS => ?_)
  refine lv_dstore (lv' := [(5, .double r), (0, .ref b), (1, .ref (x 0)), (2, .ref (o 0)), (3, .ref oA), (4, .int (nI (3 * i)))]) hx hb dL_law_1137 hl (by decide) rfl (fun ls hl => ?_)
  have hP : va_P D vwCl (MW cI q u o T t M k V v (XW cI cJ a b2 x oA G g J j F O [])) H := P_perm pmL hP
  have hD : va_D (lA s) (MW cI q u o T t M k V v (XW cI cJ a b2 x oA G g J j F O [])) := D_perm pmL hD
  refine lv_aload_n hx hb dL_law_1139 rfl (lv_at hl 3 rfl) ?_
  refine kVd (As := []) (rest := []) B hK hN hP hD hS hA (c_X7_mean l D cI cJ q u o T t M k V v r (uS k 0 0) (XW cI cJ a b2 x oA G g J j F O []) e2) (cwV 0 hts gL_law_X7_mean rfl rfl rfl (by decide +kernel) ⟨(Nat.le_of_ble_eq_true rfl), (Nat.le_of_ble_eq_true rfl)⟩) 10 5 rfl rfl rfl hl.1 rfl (Nat.le_of_ble_eq_true rfl) dL_law_1140 ⟨by dsimp only [room_1]; omega, by dsimp only [room_1]; omega⟩ rfl (fun H locs hP hD hS => ?_)
  refine lv_dstore (lv' := [(7, .double r), (5, .double r), (0, .ref b), (1, .ref (x 0)), (2, .ref (o 0)), (3, .ref oA), (4, .int (nI (3 * i)))]) hx hb dL_law_1143 hl (by decide) rfl (fun ls hl => ?_)
  refine lv_dload hx hb dL_law_1145 (lv_at hl 1 rfl) ?_
  refine lv_dload hx hb dL_law_1147 (lv_at hl 0 rfl) ?_
  refine lv_dcmp hx hb dL_law_1149 ?_
  obtain ⟨vv, hvv⟩ : ∃ vv, vv = Op.cmpValue (FP.dcmp r r) CmpOp.l := ⟨_, rfl⟩
  rw [← hvv]
  refine lv_if_eq (tgt := 1171) hx hb dL_law_1150 (by decide) (fun _ => ?_) (fun h0 => ?_)
  · refine lv_goto (tgt := 1188) hx hb dL_law_1171 (by decide) ?_
    refine W.widen (k := 79 + 220 * (i + 1)) (n := 1050 + 1200 * (i + 1)) (by dsimp only; omega) (by dsimp only; omega) ?_
    exact tail G g J j F O T t M (uS k 0 0) V v _ _ _ hs2 (P_perm pmL.symm hP) (D_perm pmL.symm hD) hS (lv_sub hl [2, 3, 4, 5, 6] rfl)
  · refine lv_dload hx hb dL_law_1153 (lv_at hl 1 rfl) ?_
    refine lv_dload hx hb dL_law_1155 (lv_at hl 1 rfl) ?_
    refine lv_dcmp hx hb dL_law_1157 ?_
    rw [← hvv]
    refine lv_if_eq (tgt := 1169) hx hb dL_law_1158 (by decide) (fun h => absurd h h0) (fun _ => ?_)
    refine lv_dload hx hb dL_law_1161 (lv_at hl 0 rfl) ?_
    refine lv_dload hx hb dL_law_1163 (lv_at hl 0 rfl) ?_
    refine lv_dcmp hx hb dL_law_1165 ?_
    rw [← hvv]
    refine lv_if_ne (tgt := 1171) hx hb dL_law_1166 (by decide) (fun _ => ?_) (fun h => absurd h h0)
    refine lv_goto (tgt := 1188) hx hb dL_law_1171 (by decide) ?_
    refine W.widen (k := 79 + 220 * (i + 1)) (n := 1050 + 1200 * (i + 1)) (by dsimp only; omega) (by dsimp only; omega) ?_
    exact tail G g J j F O T t M (uS k 0 0) V v _ _ _ hs2 (P_perm pmL.symm hP) (D_perm pmL.symm hD) hS (lv_sub hl [2, 3, 4, 5, 6] rfl)
set_option maxHeartbeats 4000000 in
set_option maxRecDepth 100000 in
theorem case_digest {p : Program} {l : Launch} {e : Env} {s : State} {m : MethodId} {below : List Frame} {meth : Method} {c : Code} {b L : Nat} {xs : Nat → Int32} {D : va_G} {cI cJ : ClassId} (C : LC p l s m meth c b L xs D cI cJ) {a b2 x q u o : Nat → Nat} {oA i : Nat} (hi : 3 * i + 3 ≤ L) (tail : LQt p l e s m below meth c b D cI cJ a b2 x q u o oA (i + 1) i 1188 (79 + 220 * (i + 1)) (1050 + 1200 * (i + 1))) : LQt p l e s m below meth c b D cI cJ a b2 x q u o oA i i 1174 (79 + 220 * i) (1050 + 1200 * i) := by
  intro G g J j F O T t M k V v H locs ls hs hP hD hS hl
  obtain ⟨⟨B, hK, hN, hT⟩, hX, hbl, hfl, hL⟩ := C
  obtain ⟨hx, hb, hml, hown, hts⟩ := id B
  have hA : ∀ q : Nat, s.heap.size ≤ q → lA s q := fun _ h => h
  have hbA : ¬ lA s b := Nat.not_le.mpr hbl
  have v1 : vp_in (nI (3 * i) + 1) L := by rw [nI_1]; exact vp_in_nI (by omega) (by omega)
  have v2 : vp_in (nI (3 * i) + 2) L := by rw [show nI (3 * i) + 2 = nI (3 * i + 2) from nI_add _ 2]; exact vp_in_nI (by omega) (by omega)
  obtain ⟨r, e1, e2, hs2⟩ := same_digest hs
  refine lv_aload_n hx hb dL_law_1174 rfl (lv_at hl 1 rfl) ?_
  refine kVl (As := []) (rest := []) B hK hN hP hD hS hA (c_X5_digest l D cI cJ a b2 x G g J j F r ((oA, .inl (cJ, 1, .inr (.inl O))) :: MW cI q u o T t M k V v []) e1) (cwV 0 hts gL_law_X5_digest rfl rfl rfl (by decide +kernel) ⟨(Nat.le_of_ble_eq_true rfl), (Nat.le_of_ble_eq_true rfl)⟩) 8 56 rfl rfl rfl hl.1 rfl (Nat.le_of_ble_eq_true rfl) dL_law_1175 ⟨by dsimp only [room_1]; omega, by dsimp only [room_1]; omega⟩ rfl (fun H locs hP hD hS => ?_)
  have hP : va_P D vwCl (MW cI q u o T t M k V v (XW cI cJ a b2 x oA G g J j F O [])) H := P_perm pmL hP
  have hD : va_D (lA s) (MW cI q u o T t M k V v (XW cI cJ a b2 x oA G g J j F O [])) := D_perm pmL hD
  refine lv_aload_n hx hb dL_law_1178 rfl (lv_at hl 2 rfl) ?_
  refine kVl (As := []) (rest := [.long r]) B hK hN hP hD hS hA (c_X7_digest l D cI cJ q u o T t M k V v r (uS k 0 0) (XW cI cJ a b2 x oA G g J j F O []) e2) (cwV 0 hts gL_law_X7_digest rfl rfl rfl (by decide +kernel) ⟨(Nat.le_of_ble_eq_true rfl), (Nat.le_of_ble_eq_true rfl)⟩) 10 5 rfl rfl rfl hl.1 rfl (Nat.le_of_ble_eq_true rfl) dL_law_1179 ⟨by dsimp only [room_1]; omega, by dsimp only [room_1]; omega⟩ rfl (fun H locs hP hD hS => ?_)
  refine lcmpE hx hb dL_law_1182 ?_
  refine lv_if_eq (tgt := 1188) hx hb dL_law_1183 (by decide) (fun _ => ?_) (fun h => absurd rfl h)
  refine W.widen (k := 79 + 220 * (i + 1)) (n := 1050 + 1200 * (i + 1)) (by dsimp only; omega) (by dsimp only; omega) ?_
  exact tail G g J j F O T t M (uS k 0 0) V v _ _ _ hs2 (P_perm pmL.symm hP) (D_perm pmL.symm hD) hS (lv_sub hl [0, 1, 2, 3, 4] rfl)
