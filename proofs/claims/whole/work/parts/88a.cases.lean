set_option maxHeartbeats 4000000 in
set_option maxRecDepth 100000 in
theorem case_addLand {p : Program} {l : Launch} {e : Env} {s : State} {m : MethodId} {below : List Frame} {meth : Method} {c : Code} {b L : Nat} {xs : Nat → Int32} {D : va_G} {cI cJ : ClassId} (C : LC p l s m meth c b L xs D cI cJ) {a b2 x q u o : Nat → Nat} {oA i : Nat} (hi : 3 * i + 3 ≤ L) (tail : LQt p l e s m below meth c b D cI cJ a b2 x q u o oA (i + 1) i 1188 (79 + 220 * (i + 1)) (1050 + 1200 * (i + 1))) : LQt p l e s m below meth c b D cI cJ a b2 x q u o oA i i 128 (79 + 220 * i) (1050 + 1200 * i) := by
  intro G g J j F O T t M k V v H locs ls hs hP hD hS hl
  obtain ⟨⟨B, hK, hN, hT⟩, hX, hbl, hfl, hL⟩ := C
  obtain ⟨hx, hb, hml, hown, hts⟩ := id B
  have hA : ∀ q : Nat, s.heap.size ≤ q → lA s q := fun _ h => h
  have hbA : ¬ lA s b := Nat.not_le.mpr hbl
  have v1 : vp_in (nI (3 * i) + 1) L := by rw [nI_1]; exact vp_in_nI (by omega) (by omega)
  have v2 : vp_in (nI (3 * i) + 2) L := by rw [show nI (3 * i) + 2 = nI (3 * i + 2) from nI_add _ 2]; exact vp_in_nI (by omega) (by omega)
  rcases op_addLand hs (xs (Int32.toNatClampNeg (nI (3 * i) + 1))) (xs (Int32.toNatClampNeg (nI (3 * i) + 2))) with ⟨r, G', g', M', k', e1, e2, e3, hs2⟩ | ⟨E1, c1, bb, k', hc, e1, e2, e3, hs2⟩
  · refine lv_aload_n hx hb dL_law_128 rfl (lv_at hl 1 rfl) ?_
    refine lv_aload_n hx hb dL_law_129 rfl (lv_at hl 0 rfl) ?_
    refine lv_iload hx hb dL_law_130 (lv_at hl 4 rfl) ?_
    refine lv_iconst (v := 1) hx hb dL_law_132 (by decide) ?_
    refine lv_iadd hx hb dL_law_133 ?_
    refine va_sld hx hb hX hbl hbA hS v1 dL_law_134 ?_
    refine lv_aload_n hx hb dL_law_135 rfl (lv_at hl 0 rfl) ?_
    refine lv_iload hx hb dL_law_136 (lv_at hl 4 rfl) ?_
    refine lv_iconst (v := 2) hx hb dL_law_138 (by decide) ?_
    refine lv_iadd hx hb dL_law_139 ?_
    refine va_sld hx hb hX hbl hbA hS v2 dL_law_140 ?_
    refine lv_aload_n hx hb dL_law_141 rfl (lv_at hl 3 rfl) ?_
    refine kHs (As := [.ref (x 0), .int (xs (Int32.toNatClampNeg (nI (3 * i) + 1))), .int (xs (Int32.toNatClampNeg (nI (3 * i) + 2))), .ref oA]) (rest := []) B hK hN hT hP hD hS hA (c_L_addLand l hfl D cI cJ a b2 x G g J j F (xs (Int32.toNatClampNeg (nI (3 * i) + 1))) (xs (Int32.toNatClampNeg (nI (3 * i) + 2))) _ oA O 0 (XW cI cJ a b2 x oA G' g' J j F (vp_updL O 0 r.toInt64) (MW cI q u o T t M k V v [])) (MW cI q u o T t M k V v []) e1 (show _ ∧ _ from ⟨rfl, rfl⟩)) (vx_cwSW 4 hts gL_law_L_addLand rfl rfl rfl (by decide +kernel) ⟨(Nat.le_of_ble_eq_true rfl), (Nat.le_of_ble_eq_true rfl)⟩) rfl hl.1 rfl (Nat.le_of_ble_eq_true rfl) dL_law_142 ⟨by dsimp only [room_1]; omega, by dsimp only [room_1]; omega⟩ rfl (fun H locs hP hD hS => ?_)
    refine lv_istore (lv' := [(5, .int 0), (0, .ref b), (1, .ref (x 0)), (2, .ref (o 0)), (3, .ref oA), (4, .int (nI (3 * i)))]) hx hb dL_law_145 hl (by decide) rfl (fun ls hl => ?_)
    have hP : va_P D vwCl (MW cI q u o T t M k V v (XW cI cJ a b2 x oA G' g' J j F (vp_updL O 0 r.toInt64) [])) H := P_perm pmL hP
    have hD : va_D (lA s) (MW cI q u o T t M k V v (XW cI cJ a b2 x oA G' g' J j F (vp_updL O 0 r.toInt64) [])) := D_perm pmL hD
    refine lv_aload_n hx hb dL_law_147 rfl (lv_at hl 3 rfl) ?_
    refine lv_aload_n hx hb dL_law_148 rfl (lv_at hl 1 rfl) ?_
    refine lv_iload hx hb dL_law_149 (lv_at hl 5 rfl) ?_
    refine lv_iconst (v := 1) hx hb dL_law_151 (by decide) ?_
    refine lv_iadd hx hb dL_law_152 ?_
    refine va_sld hx hb hX hbl hbA hS v1 dL_law_153 ?_
    refine lv_aload_n hx hb dL_law_154 rfl (lv_at hl 1 rfl) ?_
    refine lv_iload hx hb dL_law_155 (lv_at hl 5 rfl) ?_
    refine lv_iconst (v := 2) hx hb dL_law_157 (by decide) ?_
    refine lv_iadd hx hb dL_law_158 ?_
    refine va_sld hx hb hX hbl hbA hS v2 dL_law_159 ?_
    refine kVi (As := [.int (xs (Int32.toNatClampNeg (nI (3 * i) + 1))), .int (xs (Int32.toNatClampNeg (nI (3 * i) + 2)))]) (rest := []) B hK hN hP hD hS hA (c_X7_addLand l D cI cJ q u o T t M k V v (xs (Int32.toNatClampNeg (nI (3 * i) + 1))) (xs (Int32.toNatClampNeg (nI (3 * i) + 2))) r M' k' (XW cI cJ a b2 x oA G' g' J j F (vp_updL O 0 r.toInt64) []) e2) (cwV 2 hts gL_law_X7_addLand rfl rfl rfl (by decide +kernel) ⟨(Nat.le_of_ble_eq_true rfl), (Nat.le_of_ble_eq_true rfl)⟩) 10 5 rfl rfl rfl hl.1 rfl (Nat.le_of_ble_eq_true rfl) dL_law_160 ⟨by dsimp only [room_1]; omega, by dsimp only [room_1]; omega⟩ rfl (fun H locs hP hD hS => ?_)
    refine lv_istore (lv' := [(6, .int r), (5, .int 0), (0, .ref b), (1, .ref (x 0)), (2, .ref (o 0)), (3, .ref oA), (4, .int (nI (3 * i)))]) hx hb dL_law_163 hl (by decide) rfl (fun ls hl => ?_)
    refine lv_aload_n hx hb dL_law_165 rfl (lv_at hl 4 rfl) ?_
    refine kVi (As := []) (rest := []) (r := 0) B hK hN hP hD hS hA (c_X7_thrown l D cI cJ q u o T t M' k' V v (XW cI cJ a b2 x oA G' g' J j F (vp_updL O 0 r.toInt64) []) _ e3) (cwV 0 hts gL_law_X7_thrown rfl rfl rfl (by decide +kernel) ⟨(Nat.le_of_ble_eq_true rfl), (Nat.le_of_ble_eq_true rfl)⟩) 10 5 rfl rfl rfl hl.1 rfl (Nat.le_of_ble_eq_true rfl) dL_law_166 ⟨by dsimp only [room_1]; omega, by dsimp only [room_1]; omega⟩ rfl (fun H locs hP hD hS => ?_)
    refine lv_iload hx hb dL_law_169 (lv_at hl 1 rfl) ?_
    refine lv_icmp_eq (tgt := 176) hx hb dL_law_171 (by decide) (fun _ => ?_) (fun h => absurd rfl h)
    refine lv_iload hx hb dL_law_176 (lv_at hl 1 rfl) ?_
    refine lv_if_ne (tgt := 193) hx hb dL_law_178 (by decide) (fun h => absurd rfl h) (fun _ => ?_)
    refine lv_aload_n hx hb dL_law_181 rfl (lv_at hl 5 rfl) ?_
    refine lv_iconst (v := 0) hx hb dL_law_182 (by decide) ?_
    refine va_lald hx hb hK hP 78 1 rfl rfl (vp_in_nI (n := 0) (by decide) (by decide)) dL_law_183 ?_
    refine lv_iload hx hb dL_law_184 (lv_at hl 0 rfl) ?_
    refine lv_i2l hx hb dL_law_186 rfl ?_
    refine lcmpE hx hb dL_law_187 ?_
    refine lv_if_eq (tgt := 193) hx hb dL_law_188 (by decide) (fun _ => ?_) (fun h => absurd rfl h)
    refine lv_goto (tgt := 1188) hx hb dL_law_193 (by decide) ?_
    refine W.widen (k := 79 + 220 * (i + 1)) (n := 1050 + 1200 * (i + 1)) (by dsimp only; omega) (by dsimp only; omega) ?_
    exact tail G' g' J j F (vp_updL O 0 r.toInt64) T t M' k' V v _ _ _ hs2 (P_perm pmL.symm hP) (D_perm pmL.symm hD) hS (lv_sub hl [2, 3, 4, 5, 6] rfl)
  · have hc0 : ¬ c1 = 0 := by rcases hc with ⟨-, rfl⟩ | ⟨-, rfl⟩ <;> decide
    refine lv_aload_n hx hb dL_law_128 rfl (lv_at hl 1 rfl) ?_
    refine lv_aload_n hx hb dL_law_129 rfl (lv_at hl 0 rfl) ?_
    refine lv_iload hx hb dL_law_130 (lv_at hl 4 rfl) ?_
    refine lv_iconst (v := 1) hx hb dL_law_132 (by decide) ?_
    refine lv_iadd hx hb dL_law_133 ?_
    refine va_sld hx hb hX hbl hbA hS v1 dL_law_134 ?_
    refine lv_aload_n hx hb dL_law_135 rfl (lv_at hl 0 rfl) ?_
    refine lv_iload hx hb dL_law_136 (lv_at hl 4 rfl) ?_
    refine lv_iconst (v := 2) hx hb dL_law_138 (by decide) ?_
    refine lv_iadd hx hb dL_law_139 ?_
    refine va_sld hx hb hX hbl hbA hS v2 dL_law_140 ?_
    refine lv_aload_n hx hb dL_law_141 rfl (lv_at hl 3 rfl) ?_
    refine kHs (As := [.ref (x 0), .int (xs (Int32.toNatClampNeg (nI (3 * i) + 1))), .int (xs (Int32.toNatClampNeg (nI (3 * i) + 2))), .ref oA]) (rest := []) B hK hN hT hP hD hS hA (c_L_addLand l hfl D cI cJ a b2 x G g J j F (xs (Int32.toNatClampNeg (nI (3 * i) + 1))) (xs (Int32.toNatClampNeg (nI (3 * i) + 2))) _ oA O c1 (XW cI cJ a b2 x oA G g J j F O (MW cI q u o T t M k V v [])) (MW cI q u o T t M k V v []) e1 (show _ ∧ _ from ⟨hc, rfl⟩)) (vx_cwSW 4 hts gL_law_L_addLand rfl rfl rfl (by decide +kernel) ⟨(Nat.le_of_ble_eq_true rfl), (Nat.le_of_ble_eq_true rfl)⟩) rfl hl.1 rfl (Nat.le_of_ble_eq_true rfl) dL_law_142 ⟨by dsimp only [room_1]; omega, by dsimp only [room_1]; omega⟩ rfl (fun H locs hP hD hS => ?_)
    refine lv_istore (lv' := [(5, .int c1), (0, .ref b), (1, .ref (x 0)), (2, .ref (o 0)), (3, .ref oA), (4, .int (nI (3 * i)))]) hx hb dL_law_145 hl (by decide) rfl (fun ls hl => ?_)
    have hP : va_P D vwCl (MW cI q u o T t M k V v (XW cI cJ a b2 x oA G g J j F O [])) H := P_perm pmL hP
    have hD : va_D (lA s) (MW cI q u o T t M k V v (XW cI cJ a b2 x oA G g J j F O [])) := D_perm pmL hD
    refine lv_aload_n hx hb dL_law_147 rfl (lv_at hl 3 rfl) ?_
    refine lv_aload_n hx hb dL_law_148 rfl (lv_at hl 1 rfl) ?_
    refine lv_iload hx hb dL_law_149 (lv_at hl 5 rfl) ?_
    refine lv_iconst (v := 1) hx hb dL_law_151 (by decide) ?_
    refine lv_iadd hx hb dL_law_152 ?_
    refine va_sld hx hb hX hbl hbA hS v1 dL_law_153 ?_
    refine lv_aload_n hx hb dL_law_154 rfl (lv_at hl 1 rfl) ?_
    refine lv_iload hx hb dL_law_155 (lv_at hl 5 rfl) ?_
    refine lv_iconst (v := 2) hx hb dL_law_157 (by decide) ?_
    refine lv_iadd hx hb dL_law_158 ?_
    refine va_sld hx hb hX hbl hbA hS v2 dL_law_159 ?_
    refine kVi (As := [.int (xs (Int32.toNatClampNeg (nI (3 * i) + 1))), .int (xs (Int32.toNatClampNeg (nI (3 * i) + 2)))]) (rest := []) B hK hN hP hD hS hA (c_X7_addLand l D cI cJ q u o T t M k V v (xs (Int32.toNatClampNeg (nI (3 * i) + 1))) (xs (Int32.toNatClampNeg (nI (3 * i) + 2))) bb M k' (XW cI cJ a b2 x oA G g J j F O []) e2) (cwV 2 hts gL_law_X7_addLand rfl rfl rfl (by decide +kernel) ⟨(Nat.le_of_ble_eq_true rfl), (Nat.le_of_ble_eq_true rfl)⟩) 10 5 rfl rfl rfl hl.1 rfl (Nat.le_of_ble_eq_true rfl) dL_law_160 ⟨by dsimp only [room_1]; omega, by dsimp only [room_1]; omega⟩ rfl (fun H locs hP hD hS => ?_)
    refine lv_istore (lv' := [(6, .int bb), (5, .int c1), (0, .ref b), (1, .ref (x 0)), (2, .ref (o 0)), (3, .ref oA), (4, .int (nI (3 * i)))]) hx hb dL_law_163 hl (by decide) rfl (fun ls hl => ?_)
    refine lv_aload_n hx hb dL_law_165 rfl (lv_at hl 4 rfl) ?_
    refine kVi (As := []) (rest := []) (r := c1) B hK hN hP hD hS hA (c_X7_thrown l D cI cJ q u o T t M k' V v (XW cI cJ a b2 x oA G g J j F O []) _ e3) (cwV 0 hts gL_law_X7_thrown rfl rfl rfl (by decide +kernel) ⟨(Nat.le_of_ble_eq_true rfl), (Nat.le_of_ble_eq_true rfl)⟩) 10 5 rfl rfl rfl hl.1 rfl (Nat.le_of_ble_eq_true rfl) dL_law_166 ⟨by dsimp only [room_1]; omega, by dsimp only [room_1]; omega⟩ rfl (fun H locs hP hD hS => ?_)
    refine lv_iload hx hb dL_law_169 (lv_at hl 1 rfl) ?_
    refine lv_icmp_eq (tgt := 176) hx hb dL_law_171 (by decide) (fun _ => ?_) (fun h => absurd rfl h)
    refine lv_iload hx hb dL_law_176 (lv_at hl 1 rfl) ?_
    refine lv_if_ne (tgt := 193) hx hb dL_law_178 (by decide) (fun _ => ?_) (fun h => absurd h hc0)
    refine lv_goto (tgt := 1188) hx hb dL_law_193 (by decide) ?_
    refine W.widen (k := 79 + 220 * (i + 1)) (n := 1050 + 1200 * (i + 1)) (by dsimp only; omega) (by dsimp only; omega) ?_
    exact tail G g J j F O T t M k' V v _ _ _ hs2 (P_perm pmL.symm hP) (D_perm pmL.symm hD) hS (lv_sub hl [2, 3, 4, 5, 6] rfl)
set_option maxHeartbeats 4000000 in
set_option maxRecDepth 100000 in
theorem case_setTide {p : Program} {l : Launch} {e : Env} {s : State} {m : MethodId} {below : List Frame} {meth : Method} {c : Code} {b L : Nat} {xs : Nat → Int32} {D : va_G} {cI cJ : ClassId} (C : LC p l s m meth c b L xs D cI cJ) {a b2 x q u o : Nat → Nat} {oA i : Nat} (hi : 3 * i + 3 ≤ L) (tail : LQt p l e s m below meth c b D cI cJ a b2 x q u o oA (i + 1) i 1188 (79 + 220 * (i + 1)) (1050 + 1200 * (i + 1))) : LQt p l e s m below meth c b D cI cJ a b2 x q u o oA i i 196 (79 + 220 * i) (1050 + 1200 * i) := by
  intro G g J j F O T t M k V v H locs ls hs hP hD hS hl
  obtain ⟨⟨B, hK, hN, hT⟩, hX, hbl, hfl, hL⟩ := C
  obtain ⟨hx, hb, hml, hown, hts⟩ := id B
  have hA : ∀ q : Nat, s.heap.size ≤ q → lA s q := fun _ h => h
  have hbA : ¬ lA s b := Nat.not_le.mpr hbl
  have v1 : vp_in (nI (3 * i) + 1) L := by rw [nI_1]; exact vp_in_nI (by omega) (by omega)
  have v2 : vp_in (nI (3 * i) + 2) L := by rw [show nI (3 * i) + 2 = nI (3 * i + 2) from nI_add _ 2]; exact vp_in_nI (by omega) (by omega)
  rcases op_setTide hs (xs (Int32.toNatClampNeg (nI (3 * i) + 1))) (xs (Int32.toNatClampNeg (nI (3 * i) + 2))) with ⟨r, G', M', k', e1, e2, e3, hs2⟩ | ⟨E1, c1, bb, k', hc, e1, e2, e3, hs2⟩
  · refine lv_aload_n hx hb dL_law_196 rfl (lv_at hl 1 rfl) ?_
    refine lv_aload_n hx hb dL_law_197 rfl (lv_at hl 0 rfl) ?_
    refine lv_iload hx hb dL_law_198 (lv_at hl 4 rfl) ?_
    refine lv_iconst (v := 1) hx hb dL_law_200 (by decide) ?_
    refine lv_iadd hx hb dL_law_201 ?_
    refine va_sld hx hb hX hbl hbA hS v1 dL_law_202 ?_
    refine lv_aload_n hx hb dL_law_203 rfl (lv_at hl 0 rfl) ?_
    refine lv_iload hx hb dL_law_204 (lv_at hl 4 rfl) ?_
    refine lv_iconst (v := 2) hx hb dL_law_206 (by decide) ?_
    refine lv_iadd hx hb dL_law_207 ?_
    refine va_sld hx hb hX hbl hbA hS v2 dL_law_208 ?_
    refine lv_aload_n hx hb dL_law_209 rfl (lv_at hl 3 rfl) ?_
    refine kHs (As := [.ref (x 0), .int (xs (Int32.toNatClampNeg (nI (3 * i) + 1))), .int (xs (Int32.toNatClampNeg (nI (3 * i) + 2))), .ref oA]) (rest := []) B hK hN hT hP hD hS hA (c_L_setTide l hfl D cI cJ a b2 x G g J j F (xs (Int32.toNatClampNeg (nI (3 * i) + 1))) (xs (Int32.toNatClampNeg (nI (3 * i) + 2))) _ oA O 0 (XW cI cJ a b2 x oA G' g J j F (vp_updL O 0 r.toInt64) (MW cI q u o T t M k V v [])) (MW cI q u o T t M k V v []) e1 (show _ ∧ _ from ⟨rfl, rfl⟩)) (vx_cwSW 4 hts gL_law_L_setTide rfl rfl rfl (by decide +kernel) ⟨(Nat.le_of_ble_eq_true rfl), (Nat.le_of_ble_eq_true rfl)⟩) rfl hl.1 rfl (Nat.le_of_ble_eq_true rfl) dL_law_210 ⟨by dsimp only [room_1]; omega, by dsimp only [room_1]; omega⟩ rfl (fun H locs hP hD hS => ?_)
    refine lv_istore (lv' := [(5, .int 0), (0, .ref b), (1, .ref (x 0)), (2, .ref (o 0)), (3, .ref oA), (4, .int (nI (3 * i)))]) hx hb dL_law_213 hl (by decide) rfl (fun ls hl => ?_)
    have hP : va_P D vwCl (MW cI q u o T t M k V v (XW cI cJ a b2 x oA G' g J j F (vp_updL O 0 r.toInt64) [])) H := P_perm pmL hP
    have hD : va_D (lA s) (MW cI q u o T t M k V v (XW cI cJ a b2 x oA G' g J j F (vp_updL O 0 r.toInt64) [])) := D_perm pmL hD
    refine lv_aload_n hx hb dL_law_215 rfl (lv_at hl 3 rfl) ?_
    refine lv_aload_n hx hb dL_law_216 rfl (lv_at hl 1 rfl) ?_
    refine lv_iload hx hb dL_law_217 (lv_at hl 5 rfl) ?_
    refine lv_iconst (v := 1) hx hb dL_law_219 (by decide) ?_
    refine lv_iadd hx hb dL_law_220 ?_
    refine va_sld hx hb hX hbl hbA hS v1 dL_law_221 ?_
    refine lv_aload_n hx hb dL_law_222 rfl (lv_at hl 1 rfl) ?_
    refine lv_iload hx hb dL_law_223 (lv_at hl 5 rfl) ?_
    refine lv_iconst (v := 2) hx hb dL_law_225 (by decide) ?_
    refine lv_iadd hx hb dL_law_226 ?_
    refine va_sld hx hb hX hbl hbA hS v2 dL_law_227 ?_
    refine kVi (As := [.int (xs (Int32.toNatClampNeg (nI (3 * i) + 1))), .int (xs (Int32.toNatClampNeg (nI (3 * i) + 2)))]) (rest := []) B hK hN hP hD hS hA (c_X7_setTide l D cI cJ q u o T t M k V v (xs (Int32.toNatClampNeg (nI (3 * i) + 1))) (xs (Int32.toNatClampNeg (nI (3 * i) + 2))) r M' k' (XW cI cJ a b2 x oA G' g J j F (vp_updL O 0 r.toInt64) []) e2) (cwV 2 hts gL_law_X7_setTide rfl rfl rfl (by decide +kernel) ⟨(Nat.le_of_ble_eq_true rfl), (Nat.le_of_ble_eq_true rfl)⟩) 10 5 rfl rfl rfl hl.1 rfl (Nat.le_of_ble_eq_true rfl) dL_law_228 ⟨by dsimp only [room_1]; omega, by dsimp only [room_1]; omega⟩ rfl (fun H locs hP hD hS => ?_)
    refine lv_istore (lv' := [(6, .int r), (5, .int 0), (0, .ref b), (1, .ref (x 0)), (2, .ref (o 0)), (3, .ref oA), (4, .int (nI (3 * i)))]) hx hb dL_law_231 hl (by decide) rfl (fun ls hl => ?_)
    refine lv_aload_n hx hb dL_law_233 rfl (lv_at hl 4 rfl) ?_
    refine kVi (As := []) (rest := []) (r := 0) B hK hN hP hD hS hA (c_X7_thrown l D cI cJ q u o T t M' k' V v (XW cI cJ a b2 x oA G' g J j F (vp_updL O 0 r.toInt64) []) _ e3) (cwV 0 hts gL_law_X7_thrown rfl rfl rfl (by decide +kernel) ⟨(Nat.le_of_ble_eq_true rfl), (Nat.le_of_ble_eq_true rfl)⟩) 10 5 rfl rfl rfl hl.1 rfl (Nat.le_of_ble_eq_true rfl) dL_law_234 ⟨by dsimp only [room_1]; omega, by dsimp only [room_1]; omega⟩ rfl (fun H locs hP hD hS => ?_)
    refine lv_iload hx hb dL_law_237 (lv_at hl 1 rfl) ?_
    refine lv_icmp_eq (tgt := 244) hx hb dL_law_239 (by decide) (fun _ => ?_) (fun h => absurd rfl h)
    refine lv_iload hx hb dL_law_244 (lv_at hl 1 rfl) ?_
    refine lv_if_ne (tgt := 261) hx hb dL_law_246 (by decide) (fun h => absurd rfl h) (fun _ => ?_)
    refine lv_aload_n hx hb dL_law_249 rfl (lv_at hl 5 rfl) ?_
    refine lv_iconst (v := 0) hx hb dL_law_250 (by decide) ?_
    refine va_lald hx hb hK hP 78 1 rfl rfl (vp_in_nI (n := 0) (by decide) (by decide)) dL_law_251 ?_
    refine lv_iload hx hb dL_law_252 (lv_at hl 0 rfl) ?_
    refine lv_i2l hx hb dL_law_254 rfl ?_
    refine lcmpE hx hb dL_law_255 ?_
    refine lv_if_eq (tgt := 261) hx hb dL_law_256 (by decide) (fun _ => ?_) (fun h => absurd rfl h)
    refine lv_goto (tgt := 1188) hx hb dL_law_261 (by decide) ?_
    refine W.widen (k := 79 + 220 * (i + 1)) (n := 1050 + 1200 * (i + 1)) (by dsimp only; omega) (by dsimp only; omega) ?_
    exact tail G' g J j F (vp_updL O 0 r.toInt64) T t M' k' V v _ _ _ hs2 (P_perm pmL.symm hP) (D_perm pmL.symm hD) hS (lv_sub hl [2, 3, 4, 5, 6] rfl)
  · have hc0 : ¬ c1 = 0 := by rcases hc with ⟨-, rfl⟩ | ⟨-, rfl⟩ <;> decide
    refine lv_aload_n hx hb dL_law_196 rfl (lv_at hl 1 rfl) ?_
    refine lv_aload_n hx hb dL_law_197 rfl (lv_at hl 0 rfl) ?_
    refine lv_iload hx hb dL_law_198 (lv_at hl 4 rfl) ?_
    refine lv_iconst (v := 1) hx hb dL_law_200 (by decide) ?_
    refine lv_iadd hx hb dL_law_201 ?_
    refine va_sld hx hb hX hbl hbA hS v1 dL_law_202 ?_
    refine lv_aload_n hx hb dL_law_203 rfl (lv_at hl 0 rfl) ?_
    refine lv_iload hx hb dL_law_204 (lv_at hl 4 rfl) ?_
    refine lv_iconst (v := 2) hx hb dL_law_206 (by decide) ?_
    refine lv_iadd hx hb dL_law_207 ?_
    refine va_sld hx hb hX hbl hbA hS v2 dL_law_208 ?_
    refine lv_aload_n hx hb dL_law_209 rfl (lv_at hl 3 rfl) ?_
    refine kHs (As := [.ref (x 0), .int (xs (Int32.toNatClampNeg (nI (3 * i) + 1))), .int (xs (Int32.toNatClampNeg (nI (3 * i) + 2))), .ref oA]) (rest := []) B hK hN hT hP hD hS hA (c_L_setTide l hfl D cI cJ a b2 x G g J j F (xs (Int32.toNatClampNeg (nI (3 * i) + 1))) (xs (Int32.toNatClampNeg (nI (3 * i) + 2))) _ oA O c1 (XW cI cJ a b2 x oA G g J j F O (MW cI q u o T t M k V v [])) (MW cI q u o T t M k V v []) e1 (show _ ∧ _ from ⟨hc, rfl⟩)) (vx_cwSW 4 hts gL_law_L_setTide rfl rfl rfl (by decide +kernel) ⟨(Nat.le_of_ble_eq_true rfl), (Nat.le_of_ble_eq_true rfl)⟩) rfl hl.1 rfl (Nat.le_of_ble_eq_true rfl) dL_law_210 ⟨by dsimp only [room_1]; omega, by dsimp only [room_1]; omega⟩ rfl (fun H locs hP hD hS => ?_)
    refine lv_istore (lv' := [(5, .int c1), (0, .ref b), (1, .ref (x 0)), (2, .ref (o 0)), (3, .ref oA), (4, .int (nI (3 * i)))]) hx hb dL_law_213 hl (by decide) rfl (fun ls hl => ?_)
    have hP : va_P D vwCl (MW cI q u o T t M k V v (XW cI cJ a b2 x oA G g J j F O [])) H := P_perm pmL hP
    have hD : va_D (lA s) (MW cI q u o T t M k V v (XW cI cJ a b2 x oA G g J j F O [])) := D_perm pmL hD
    refine lv_aload_n hx hb dL_law_215 rfl (lv_at hl 3 rfl) ?_
    refine lv_aload_n hx hb dL_law_216 rfl (lv_at hl 1 rfl) ?_
    refine lv_iload hx hb dL_law_217 (lv_at hl 5 rfl) ?_
    refine lv_iconst (v := 1) hx hb dL_law_219 (by decide) ?_
    refine lv_iadd hx hb dL_law_220 ?_
    refine va_sld hx hb hX hbl hbA hS v1 dL_law_221 ?_
    refine lv_aload_n hx hb dL_law_222 rfl (lv_at hl 1 rfl) ?_
    refine lv_iload hx hb dL_law_223 (lv_at hl 5 rfl) ?_
    refine lv_iconst (v := 2) hx hb dL_law_225 (by decide) ?_
    refine lv_iadd hx hb dL_law_226 ?_
    refine va_sld hx hb hX hbl hbA hS v2 dL_law_227 ?_
    refine kVi (As := [.int (xs (Int32.toNatClampNeg (nI (3 * i) + 1))), .int (xs (Int32.toNatClampNeg (nI (3 * i) + 2)))]) (rest := []) B hK hN hP hD hS hA (c_X7_setTide l D cI cJ q u o T t M k V v (xs (Int32.toNatClampNeg (nI (3 * i) + 1))) (xs (Int32.toNatClampNeg (nI (3 * i) + 2))) bb M k' (XW cI cJ a b2 x oA G g J j F O []) e2) (cwV 2 hts gL_law_X7_setTide rfl rfl rfl (by decide +kernel) ⟨(Nat.le_of_ble_eq_true rfl), (Nat.le_of_ble_eq_true rfl)⟩) 10 5 rfl rfl rfl hl.1 rfl (Nat.le_of_ble_eq_true rfl) dL_law_228 ⟨by dsimp only [room_1]; omega, by dsimp only [room_1]; omega⟩ rfl (fun H locs hP hD hS => ?_)
    refine lv_istore (lv' := [(6, .int bb), (5, .int c1), (0, .ref b), (1, .ref (x 0)), (2, .ref (o 0)), (3, .ref oA), (4, .int (nI (3 * i)))]) hx hb dL_law_231 hl (by decide) rfl (fun ls hl => ?_)
    refine lv_aload_n hx hb dL_law_233 rfl (lv_at hl 4 rfl) ?_
    refine kVi (As := []) (rest := []) (r := c1) B hK hN hP hD hS hA (c_X7_thrown l D cI cJ q u o T t M k' V v (XW cI cJ a b2 x oA G g J j F O []) _ e3) (cwV 0 hts gL_law_X7_thrown rfl rfl rfl (by decide +kernel) ⟨(Nat.le_of_ble_eq_true rfl), (Nat.le_of_ble_eq_true rfl)⟩) 10 5 rfl rfl rfl hl.1 rfl (Nat.le_of_ble_eq_true rfl) dL_law_234 ⟨by dsimp only [room_1]; omega, by dsimp only [room_1]; omega⟩ rfl (fun H locs hP hD hS => ?_)
    refine lv_iload hx hb dL_law_237 (lv_at hl 1 rfl) ?_
    refine lv_icmp_eq (tgt := 244) hx hb dL_law_239 (by decide) (fun _ => ?_) (fun h => absurd rfl h)
    refine lv_iload hx hb dL_law_244 (lv_at hl 1 rfl) ?_
    refine lv_if_ne (tgt := 261) hx hb dL_law_246 (by decide) (fun _ => ?_) (fun h => absurd h hc0)
    refine lv_goto (tgt := 1188) hx hb dL_law_261 (by decide) ?_
    refine W.widen (k := 79 + 220 * (i + 1)) (n := 1050 + 1200 * (i + 1)) (by dsimp only; omega) (by dsimp only; omega) ?_
    exact tail G g J j F O T t M k' V v _ _ _ hs2 (P_perm pmL.symm hP) (D_perm pmL.symm hD) hS (lv_sub hl [2, 3, 4, 5, 6] rfl)
set_option maxHeartbeats 4000000 in
set_option maxRecDepth 100000 in
theorem case_wish {p : Program} {l : Launch} {e : Env} {s : State} {m : MethodId} {below : List Frame} {meth : Method} {c : Code} {b L : Nat} {xs : Nat → Int32} {D : va_G} {cI cJ : ClassId} (C : LC p l s m meth c b L xs D cI cJ) {a b2 x q u o : Nat → Nat} {oA i : Nat} (hi : 3 * i + 3 ≤ L) (tail : LQt p l e s m below meth c b D cI cJ a b2 x q u o oA (i + 1) i 1188 (79 + 220 * (i + 1)) (1050 + 1200 * (i + 1))) : LQt p l e s m below meth c b D cI cJ a b2 x q u o oA i i 264 (79 + 220 * i) (1050 + 1200 * i) := by
  intro G g J j F O T t M k V v H locs ls hs hP hD hS hl
  obtain ⟨⟨B, hK, hN, hT⟩, hX, hbl, hfl, hL⟩ := C
  obtain ⟨hx, hb, hml, hown, hts⟩ := id B
  have hA : ∀ q : Nat, s.heap.size ≤ q → lA s q := fun _ h => h
  have hbA : ¬ lA s b := Nat.not_le.mpr hbl
  have v1 : vp_in (nI (3 * i) + 1) L := by rw [nI_1]; exact vp_in_nI (by omega) (by omega)
  have v2 : vp_in (nI (3 * i) + 2) L := by rw [show nI (3 * i) + 2 = nI (3 * i + 2) from nI_add _ 2]; exact vp_in_nI (by omega) (by omega)
  rcases op_wish hs (xs (Int32.toNatClampNeg (nI (3 * i) + 1))) (xs (Int32.toNatClampNeg (nI (3 * i) + 2))) with ⟨r, G', g', T', t', M', k', e1, e2, e3, hs2⟩ | ⟨E1, c1, bb, k', hc, e1, e2, e3, hs2⟩
  · refine lv_aload_n hx hb dL_law_264 rfl (lv_at hl 1 rfl) ?_
    refine lv_aload_n hx hb dL_law_265 rfl (lv_at hl 0 rfl) ?_
    refine lv_iload hx hb dL_law_266 (lv_at hl 4 rfl) ?_
    refine lv_iconst (v := 1) hx hb dL_law_268 (by decide) ?_
    refine lv_iadd hx hb dL_law_269 ?_
    refine va_sld hx hb hX hbl hbA hS v1 dL_law_270 ?_
    refine lv_aload_n hx hb dL_law_271 rfl (lv_at hl 0 rfl) ?_
    refine lv_iload hx hb dL_law_272 (lv_at hl 4 rfl) ?_
    refine lv_iconst (v := 2) hx hb dL_law_274 (by decide) ?_
    refine lv_iadd hx hb dL_law_275 ?_
    refine va_sld hx hb hX hbl hbA hS v2 dL_law_276 ?_
    refine lv_aload_n hx hb dL_law_277 rfl (lv_at hl 3 rfl) ?_
    refine kHs (As := [.ref (x 0), .int (xs (Int32.toNatClampNeg (nI (3 * i) + 1))), .int (xs (Int32.toNatClampNeg (nI (3 * i) + 2))), .ref oA]) (rest := []) B hK hN hT hP hD hS hA (c_L_wish l hfl D cI cJ a b2 x G g J j F (xs (Int32.toNatClampNeg (nI (3 * i) + 1))) (xs (Int32.toNatClampNeg (nI (3 * i) + 2))) _ oA O 0 (XW cI cJ a b2 x oA G' g' J j F (vp_updL O 0 r.toInt64) (MW cI q u o T t M k V v [])) (MW cI q u o T t M k V v []) e1 (show _ ∧ _ from ⟨rfl, rfl⟩)) (vx_cwSW 4 hts gL_law_L_wish rfl rfl rfl (by decide +kernel) ⟨(Nat.le_of_ble_eq_true rfl), (Nat.le_of_ble_eq_true rfl)⟩) rfl hl.1 rfl (Nat.le_of_ble_eq_true rfl) dL_law_278 ⟨by dsimp only [room_1]; omega, by dsimp only [room_1]; omega⟩ rfl (fun H locs hP hD hS => ?_)
    refine lv_istore (lv' := [(5, .int 0), (0, .ref b), (1, .ref (x 0)), (2, .ref (o 0)), (3, .ref oA), (4, .int (nI (3 * i)))]) hx hb dL_law_281 hl (by decide) rfl (fun ls hl => ?_)
    have hP : va_P D vwCl (MW cI q u o T t M k V v (XW cI cJ a b2 x oA G' g' J j F (vp_updL O 0 r.toInt64) [])) H := P_perm pmL hP
    have hD : va_D (lA s) (MW cI q u o T t M k V v (XW cI cJ a b2 x oA G' g' J j F (vp_updL O 0 r.toInt64) [])) := D_perm pmL hD
    refine lv_aload_n hx hb dL_law_283 rfl (lv_at hl 3 rfl) ?_
    refine lv_aload_n hx hb dL_law_284 rfl (lv_at hl 1 rfl) ?_
    refine lv_iload hx hb dL_law_285 (lv_at hl 5 rfl) ?_
    refine lv_iconst (v := 1) hx hb dL_law_287 (by decide) ?_
    refine lv_iadd hx hb dL_law_288 ?_
    refine va_sld hx hb hX hbl hbA hS v1 dL_law_289 ?_
    refine lv_aload_n hx hb dL_law_290 rfl (lv_at hl 1 rfl) ?_
    refine lv_iload hx hb dL_law_291 (lv_at hl 5 rfl) ?_
    refine lv_iconst (v := 2) hx hb dL_law_293 (by decide) ?_
    refine lv_iadd hx hb dL_law_294 ?_
    refine va_sld hx hb hX hbl hbA hS v2 dL_law_295 ?_
    refine kVi (As := [.int (xs (Int32.toNatClampNeg (nI (3 * i) + 1))), .int (xs (Int32.toNatClampNeg (nI (3 * i) + 2)))]) (rest := []) B hK hN hP hD hS hA (c_X7_wish l D cI cJ q u o T t M k V v (xs (Int32.toNatClampNeg (nI (3 * i) + 1))) (xs (Int32.toNatClampNeg (nI (3 * i) + 2))) r T' t' M' k' (XW cI cJ a b2 x oA G' g' J j F (vp_updL O 0 r.toInt64) []) e2) (cwV 2 hts gL_law_X7_wish rfl rfl rfl (by decide +kernel) ⟨(Nat.le_of_ble_eq_true rfl), (Nat.le_of_ble_eq_true rfl)⟩) 10 5 rfl rfl rfl hl.1 rfl (Nat.le_of_ble_eq_true rfl) dL_law_296 ⟨by dsimp only [room_1]; omega, by dsimp only [room_1]; omega⟩ rfl (fun H locs hP hD hS => ?_)
    refine lv_istore (lv' := [(6, .int r), (5, .int 0), (0, .ref b), (1, .ref (x 0)), (2, .ref (o 0)), (3, .ref oA), (4, .int (nI (3 * i)))]) hx hb dL_law_299 hl (by decide) rfl (fun ls hl => ?_)
    refine lv_aload_n hx hb dL_law_301 rfl (lv_at hl 4 rfl) ?_
    refine kVi (As := []) (rest := []) (r := 0) B hK hN hP hD hS hA (c_X7_thrown l D cI cJ q u o T' t' M' k' V v (XW cI cJ a b2 x oA G' g' J j F (vp_updL O 0 r.toInt64) []) _ e3) (cwV 0 hts gL_law_X7_thrown rfl rfl rfl (by decide +kernel) ⟨(Nat.le_of_ble_eq_true rfl), (Nat.le_of_ble_eq_true rfl)⟩) 10 5 rfl rfl rfl hl.1 rfl (Nat.le_of_ble_eq_true rfl) dL_law_302 ⟨by dsimp only [room_1]; omega, by dsimp only [room_1]; omega⟩ rfl (fun H locs hP hD hS => ?_)
    refine lv_iload hx hb dL_law_305 (lv_at hl 1 rfl) ?_
    refine lv_icmp_eq (tgt := 312) hx hb dL_law_307 (by decide) (fun _ => ?_) (fun h => absurd rfl h)
    refine lv_iload hx hb dL_law_312 (lv_at hl 1 rfl) ?_
    refine lv_if_ne (tgt := 329) hx hb dL_law_314 (by decide) (fun h => absurd rfl h) (fun _ => ?_)
    refine lv_aload_n hx hb dL_law_317 rfl (lv_at hl 5 rfl) ?_
    refine lv_iconst (v := 0) hx hb dL_law_318 (by decide) ?_
    refine va_lald hx hb hK hP 78 1 rfl rfl (vp_in_nI (n := 0) (by decide) (by decide)) dL_law_319 ?_
    refine lv_iload hx hb dL_law_320 (lv_at hl 0 rfl) ?_
    refine lv_i2l hx hb dL_law_322 rfl ?_
    refine lcmpE hx hb dL_law_323 ?_
    refine lv_if_eq (tgt := 329) hx hb dL_law_324 (by decide) (fun _ => ?_) (fun h => absurd rfl h)
    refine lv_goto (tgt := 1188) hx hb dL_law_329 (by decide) ?_
    refine W.widen (k := 79 + 220 * (i + 1)) (n := 1050 + 1200 * (i + 1)) (by dsimp only; omega) (by dsimp only; omega) ?_
    exact tail G' g' J j F (vp_updL O 0 r.toInt64) T' t' M' k' V v _ _ _ hs2 (P_perm pmL.symm hP) (D_perm pmL.symm hD) hS (lv_sub hl [2, 3, 4, 5, 6] rfl)
  · have hc0 : ¬ c1 = 0 := by rcases hc with ⟨-, rfl⟩ | ⟨-, rfl⟩ | ⟨-, rfl⟩ <;> decide
    refine lv_aload_n hx hb dL_law_264 rfl (lv_at hl 1 rfl) ?_
    refine lv_aload_n hx hb dL_law_265 rfl (lv_at hl 0 rfl) ?_
    refine lv_iload hx hb dL_law_266 (lv_at hl 4 rfl) ?_
    refine lv_iconst (v := 1) hx hb dL_law_268 (by decide) ?_
    refine lv_iadd hx hb dL_law_269 ?_
    refine va_sld hx hb hX hbl hbA hS v1 dL_law_270 ?_
    refine lv_aload_n hx hb dL_law_271 rfl (lv_at hl 0 rfl) ?_
    refine lv_iload hx hb dL_law_272 (lv_at hl 4 rfl) ?_
    refine lv_iconst (v := 2) hx hb dL_law_274 (by decide) ?_
    refine lv_iadd hx hb dL_law_275 ?_
    refine va_sld hx hb hX hbl hbA hS v2 dL_law_276 ?_
    refine lv_aload_n hx hb dL_law_277 rfl (lv_at hl 3 rfl) ?_
    refine kHs (As := [.ref (x 0), .int (xs (Int32.toNatClampNeg (nI (3 * i) + 1))), .int (xs (Int32.toNatClampNeg (nI (3 * i) + 2))), .ref oA]) (rest := []) B hK hN hT hP hD hS hA (c_L_wish l hfl D cI cJ a b2 x G g J j F (xs (Int32.toNatClampNeg (nI (3 * i) + 1))) (xs (Int32.toNatClampNeg (nI (3 * i) + 2))) _ oA O c1 (XW cI cJ a b2 x oA G g J j F O (MW cI q u o T t M k V v [])) (MW cI q u o T t M k V v []) e1 (show _ ∧ _ from ⟨hc, rfl⟩)) (vx_cwSW 4 hts gL_law_L_wish rfl rfl rfl (by decide +kernel) ⟨(Nat.le_of_ble_eq_true rfl), (Nat.le_of_ble_eq_true rfl)⟩) rfl hl.1 rfl (Nat.le_of_ble_eq_true rfl) dL_law_278 ⟨by dsimp only [room_1]; omega, by dsimp only [room_1]; omega⟩ rfl (fun H locs hP hD hS => ?_)
    refine lv_istore (lv' := [(5, .int c1), (0, .ref b), (1, .ref (x 0)), (2, .ref (o 0)), (3, .ref oA), (4, .int (nI (3 * i)))]) hx hb dL_law_281 hl (by decide) rfl (fun ls hl => ?_)
    have hP : va_P D vwCl (MW cI q u o T t M k V v (XW cI cJ a b2 x oA G g J j F O [])) H := P_perm pmL hP
    have hD : va_D (lA s) (MW cI q u o T t M k V v (XW cI cJ a b2 x oA G g J j F O [])) := D_perm pmL hD
    refine lv_aload_n hx hb dL_law_283 rfl (lv_at hl 3 rfl) ?_
    refine lv_aload_n hx hb dL_law_284 rfl (lv_at hl 1 rfl) ?_
    refine lv_iload hx hb dL_law_285 (lv_at hl 5 rfl) ?_
    refine lv_iconst (v := 1) hx hb dL_law_287 (by decide) ?_
    refine lv_iadd hx hb dL_law_288 ?_
    refine va_sld hx hb hX hbl hbA hS v1 dL_law_289 ?_
    refine lv_aload_n hx hb dL_law_290 rfl (lv_at hl 1 rfl) ?_
    refine lv_iload hx hb dL_law_291 (lv_at hl 5 rfl) ?_
    refine lv_iconst (v := 2) hx hb dL_law_293 (by decide) ?_
    refine lv_iadd hx hb dL_law_294 ?_
    refine va_sld hx hb hX hbl hbA hS v2 dL_law_295 ?_
    refine kVi (As := [.int (xs (Int32.toNatClampNeg (nI (3 * i) + 1))), .int (xs (Int32.toNatClampNeg (nI (3 * i) + 2)))]) (rest := []) B hK hN hP hD hS hA (c_X7_wish l D cI cJ q u o T t M k V v (xs (Int32.toNatClampNeg (nI (3 * i) + 1))) (xs (Int32.toNatClampNeg (nI (3 * i) + 2))) bb T t M k' (XW cI cJ a b2 x oA G g J j F O []) e2) (cwV 2 hts gL_law_X7_wish rfl rfl rfl (by decide +kernel) ⟨(Nat.le_of_ble_eq_true rfl), (Nat.le_of_ble_eq_true rfl)⟩) 10 5 rfl rfl rfl hl.1 rfl (Nat.le_of_ble_eq_true rfl) dL_law_296 ⟨by dsimp only [room_1]; omega, by dsimp only [room_1]; omega⟩ rfl (fun H locs hP hD hS => ?_)
    refine lv_istore (lv' := [(6, .int bb), (5, .int c1), (0, .ref b), (1, .ref (x 0)), (2, .ref (o 0)), (3, .ref oA), (4, .int (nI (3 * i)))]) hx hb dL_law_299 hl (by decide) rfl (fun ls hl => ?_)
    refine lv_aload_n hx hb dL_law_301 rfl (lv_at hl 4 rfl) ?_
    refine kVi (As := []) (rest := []) (r := c1) B hK hN hP hD hS hA (c_X7_thrown l D cI cJ q u o T t M k' V v (XW cI cJ a b2 x oA G g J j F O []) _ e3) (cwV 0 hts gL_law_X7_thrown rfl rfl rfl (by decide +kernel) ⟨(Nat.le_of_ble_eq_true rfl), (Nat.le_of_ble_eq_true rfl)⟩) 10 5 rfl rfl rfl hl.1 rfl (Nat.le_of_ble_eq_true rfl) dL_law_302 ⟨by dsimp only [room_1]; omega, by dsimp only [room_1]; omega⟩ rfl (fun H locs hP hD hS => ?_)
    refine lv_iload hx hb dL_law_305 (lv_at hl 1 rfl) ?_
    refine lv_icmp_eq (tgt := 312) hx hb dL_law_307 (by decide) (fun _ => ?_) (fun h => absurd rfl h)
    refine lv_iload hx hb dL_law_312 (lv_at hl 1 rfl) ?_
    refine lv_if_ne (tgt := 329) hx hb dL_law_314 (by decide) (fun _ => ?_) (fun h => absurd h hc0)
    refine lv_goto (tgt := 1188) hx hb dL_law_329 (by decide) ?_
    refine W.widen (k := 79 + 220 * (i + 1)) (n := 1050 + 1200 * (i + 1)) (by dsimp only; omega) (by dsimp only; omega) ?_
    exact tail G g J j F O T t M k' V v _ _ _ hs2 (P_perm pmL.symm hP) (D_perm pmL.symm hD) hS (lv_sub hl [2, 3, 4, 5, 6] rfl)
set_option maxHeartbeats 4000000 in
set_option maxRecDepth 100000 in
theorem case_withdraw {p : Program} {l : Launch} {e : Env} {s : State} {m : MethodId} {below : List Frame} {meth : Method} {c : Code} {b L : Nat} {xs : Nat → Int32} {D : va_G} {cI cJ : ClassId} (C : LC p l s m meth c b L xs D cI cJ) {a b2 x q u o : Nat → Nat} {oA i : Nat} (hi : 3 * i + 3 ≤ L) (tail : LQt p l e s m below meth c b D cI cJ a b2 x q u o oA (i + 1) i 1188 (79 + 220 * (i + 1)) (1050 + 1200 * (i + 1))) : LQt p l e s m below meth c b D cI cJ a b2 x q u o oA i i 332 (79 + 220 * i) (1050 + 1200 * i) := by
  intro G g J j F O T t M k V v H locs ls hs hP hD hS hl
  obtain ⟨⟨B, hK, hN, hT⟩, hX, hbl, hfl, hL⟩ := C
  obtain ⟨hx, hb, hml, hown, hts⟩ := id B
  have hA : ∀ q : Nat, s.heap.size ≤ q → lA s q := fun _ h => h
  have hbA : ¬ lA s b := Nat.not_le.mpr hbl
  have v1 : vp_in (nI (3 * i) + 1) L := by rw [nI_1]; exact vp_in_nI (by omega) (by omega)
  have v2 : vp_in (nI (3 * i) + 2) L := by rw [show nI (3 * i) + 2 = nI (3 * i + 2) from nI_add _ 2]; exact vp_in_nI (by omega) (by omega)
  rcases op_withdraw hs (show i ≤ 1000 by omega) (xs (Int32.toNatClampNeg (nI (3 * i) + 1))) with ⟨r, G', g', T', t', M', k', e1, e2, e3, hs2⟩ | ⟨E1, c1, bb, k', hc, e1, e2, e3, hs2⟩
  · refine lv_aload_n hx hb dL_law_332 rfl (lv_at hl 1 rfl) ?_
    refine lv_aload_n hx hb dL_law_333 rfl (lv_at hl 0 rfl) ?_
    refine lv_iload hx hb dL_law_334 (lv_at hl 4 rfl) ?_
    refine lv_iconst (v := 1) hx hb dL_law_336 (by decide) ?_
    refine lv_iadd hx hb dL_law_337 ?_
    refine va_sld hx hb hX hbl hbA hS v1 dL_law_338 ?_
    refine lv_aload_n hx hb dL_law_339 rfl (lv_at hl 3 rfl) ?_
    refine kHs (As := [.ref (x 0), .int (xs (Int32.toNatClampNeg (nI (3 * i) + 1))), .ref oA]) (rest := []) B hK hN hT hP hD hS hA (c_L_withdraw l hfl D cI cJ a b2 x G g J j F (xs (Int32.toNatClampNeg (nI (3 * i) + 1))) _ oA O 0 (XW cI cJ a b2 x oA G' g' J j F (vp_updL O 0 r.toInt64) (MW cI q u o T t M k V v [])) (MW cI q u o T t M k V v []) e1 (show _ ∧ _ from ⟨rfl, rfl⟩)) (vx_cwSW 3 hts gL_law_L_withdraw rfl rfl rfl (by decide +kernel) ⟨(Nat.le_of_ble_eq_true rfl), (Nat.le_of_ble_eq_true rfl)⟩) rfl hl.1 rfl (Nat.le_of_ble_eq_true rfl) dL_law_340 ⟨by dsimp only [room_1]; omega, by dsimp only [room_1]; omega⟩ rfl (fun H locs hP hD hS => ?_)
    refine lv_istore (lv' := [(5, .int 0), (0, .ref b), (1, .ref (x 0)), (2, .ref (o 0)), (3, .ref oA), (4, .int (nI (3 * i)))]) hx hb dL_law_343 hl (by decide) rfl (fun ls hl => ?_)
    have hP : va_P D vwCl (MW cI q u o T t M k V v (XW cI cJ a b2 x oA G' g' J j F (vp_updL O 0 r.toInt64) [])) H := P_perm pmL hP
    have hD : va_D (lA s) (MW cI q u o T t M k V v (XW cI cJ a b2 x oA G' g' J j F (vp_updL O 0 r.toInt64) [])) := D_perm pmL hD
    refine lv_aload_n hx hb dL_law_345 rfl (lv_at hl 3 rfl) ?_
    refine lv_aload_n hx hb dL_law_346 rfl (lv_at hl 1 rfl) ?_
    refine lv_iload hx hb dL_law_347 (lv_at hl 5 rfl) ?_
    refine lv_iconst (v := 1) hx hb dL_law_349 (by decide) ?_
    refine lv_iadd hx hb dL_law_350 ?_
    refine va_sld hx hb hX hbl hbA hS v1 dL_law_351 ?_
    refine kVi (As := [.int (xs (Int32.toNatClampNeg (nI (3 * i) + 1)))]) (rest := []) B hK hN hP hD hS hA (c_X7_withdraw l D cI cJ q u o T t M k V v (xs (Int32.toNatClampNeg (nI (3 * i) + 1))) r T' t' M' k' (XW cI cJ a b2 x oA G' g' J j F (vp_updL O 0 r.toInt64) []) e2) (cwV 1 hts gL_law_X7_withdraw rfl rfl rfl (by decide +kernel) ⟨(Nat.le_of_ble_eq_true rfl), (Nat.le_of_ble_eq_true rfl)⟩) 10 5 rfl rfl rfl hl.1 rfl (Nat.le_of_ble_eq_true rfl) dL_law_352 ⟨by dsimp only [room_1]; omega, by dsimp only [room_1]; omega⟩ rfl (fun H locs hP hD hS => ?_)
    refine lv_istore (lv' := [(6, .int r), (5, .int 0), (0, .ref b), (1, .ref (x 0)), (2, .ref (o 0)), (3, .ref oA), (4, .int (nI (3 * i)))]) hx hb dL_law_355 hl (by decide) rfl (fun ls hl => ?_)
    refine lv_aload_n hx hb dL_law_357 rfl (lv_at hl 4 rfl) ?_
    refine kVi (As := []) (rest := []) (r := 0) B hK hN hP hD hS hA (c_X7_thrown l D cI cJ q u o T' t' M' k' V v (XW cI cJ a b2 x oA G' g' J j F (vp_updL O 0 r.toInt64) []) _ e3) (cwV 0 hts gL_law_X7_thrown rfl rfl rfl (by decide +kernel) ⟨(Nat.le_of_ble_eq_true rfl), (Nat.le_of_ble_eq_true rfl)⟩) 10 5 rfl rfl rfl hl.1 rfl (Nat.le_of_ble_eq_true rfl) dL_law_358 ⟨by dsimp only [room_1]; omega, by dsimp only [room_1]; omega⟩ rfl (fun H locs hP hD hS => ?_)
    refine lv_iload hx hb dL_law_361 (lv_at hl 1 rfl) ?_
    refine lv_icmp_eq (tgt := 368) hx hb dL_law_363 (by decide) (fun _ => ?_) (fun h => absurd rfl h)
    refine lv_iload hx hb dL_law_368 (lv_at hl 1 rfl) ?_
    refine lv_if_ne (tgt := 385) hx hb dL_law_370 (by decide) (fun h => absurd rfl h) (fun _ => ?_)
    refine lv_aload_n hx hb dL_law_373 rfl (lv_at hl 5 rfl) ?_
    refine lv_iconst (v := 0) hx hb dL_law_374 (by decide) ?_
    refine va_lald hx hb hK hP 78 1 rfl rfl (vp_in_nI (n := 0) (by decide) (by decide)) dL_law_375 ?_
    refine lv_iload hx hb dL_law_376 (lv_at hl 0 rfl) ?_
    refine lv_i2l hx hb dL_law_378 rfl ?_
    refine lcmpE hx hb dL_law_379 ?_
    refine lv_if_eq (tgt := 385) hx hb dL_law_380 (by decide) (fun _ => ?_) (fun h => absurd rfl h)
    refine lv_goto (tgt := 1188) hx hb dL_law_385 (by decide) ?_
    refine W.widen (k := 79 + 220 * (i + 1)) (n := 1050 + 1200 * (i + 1)) (by dsimp only; omega) (by dsimp only; omega) ?_
    exact tail G' g' J j F (vp_updL O 0 r.toInt64) T' t' M' k' V v _ _ _ hs2 (P_perm pmL.symm hP) (D_perm pmL.symm hD) hS (lv_sub hl [2, 3, 4, 5, 6] rfl)
  · have hc0 : ¬ c1 = 0 := by rcases hc with ⟨-, rfl⟩ | ⟨-, rfl⟩ <;> decide
    refine lv_aload_n hx hb dL_law_332 rfl (lv_at hl 1 rfl) ?_
    refine lv_aload_n hx hb dL_law_333 rfl (lv_at hl 0 rfl) ?_
    refine lv_iload hx hb dL_law_334 (lv_at hl 4 rfl) ?_
    refine lv_iconst (v := 1) hx hb dL_law_336 (by decide) ?_
    refine lv_iadd hx hb dL_law_337 ?_
    refine va_sld hx hb hX hbl hbA hS v1 dL_law_338 ?_
    refine lv_aload_n hx hb dL_law_339 rfl (lv_at hl 3 rfl) ?_
    refine kHs (As := [.ref (x 0), .int (xs (Int32.toNatClampNeg (nI (3 * i) + 1))), .ref oA]) (rest := []) B hK hN hT hP hD hS hA (c_L_withdraw l hfl D cI cJ a b2 x G g J j F (xs (Int32.toNatClampNeg (nI (3 * i) + 1))) _ oA O c1 (XW cI cJ a b2 x oA G g J j F O (MW cI q u o T t M k V v [])) (MW cI q u o T t M k V v []) e1 (show _ ∧ _ from ⟨hc, rfl⟩)) (vx_cwSW 3 hts gL_law_L_withdraw rfl rfl rfl (by decide +kernel) ⟨(Nat.le_of_ble_eq_true rfl), (Nat.le_of_ble_eq_true rfl)⟩) rfl hl.1 rfl (Nat.le_of_ble_eq_true rfl) dL_law_340 ⟨by dsimp only [room_1]; omega, by dsimp only [room_1]; omega⟩ rfl (fun H locs hP hD hS => ?_)
    refine lv_istore (lv' := [(5, .int c1), (0, .ref b), (1, .ref (x 0)), (2, .ref (o 0)), (3, .ref oA), (4, .int (nI (3 * i)))]) hx hb dL_law_343 hl (by decide) rfl (fun ls hl => ?_)
    have hP : va_P D vwCl (MW cI q u o T t M k V v (XW cI cJ a b2 x oA G g J j F O [])) H := P_perm pmL hP
    have hD : va_D (lA s) (MW cI q u o T t M k V v (XW cI cJ a b2 x oA G g J j F O [])) := D_perm pmL hD
    refine lv_aload_n hx hb dL_law_345 rfl (lv_at hl 3 rfl) ?_
    refine lv_aload_n hx hb dL_law_346 rfl (lv_at hl 1 rfl) ?_
    refine lv_iload hx hb dL_law_347 (lv_at hl 5 rfl) ?_
    refine lv_iconst (v := 1) hx hb dL_law_349 (by decide) ?_
    refine lv_iadd hx hb dL_law_350 ?_
    refine va_sld hx hb hX hbl hbA hS v1 dL_law_351 ?_
    refine kVi (As := [.int (xs (Int32.toNatClampNeg (nI (3 * i) + 1)))]) (rest := []) B hK hN hP hD hS hA (c_X7_withdraw l D cI cJ q u o T t M k V v (xs (Int32.toNatClampNeg (nI (3 * i) + 1))) bb T t M k' (XW cI cJ a b2 x oA G g J j F O []) e2) (cwV 1 hts gL_law_X7_withdraw rfl rfl rfl (by decide +kernel) ⟨(Nat.le_of_ble_eq_true rfl), (Nat.le_of_ble_eq_true rfl)⟩) 10 5 rfl rfl rfl hl.1 rfl (Nat.le_of_ble_eq_true rfl) dL_law_352 ⟨by dsimp only [room_1]; omega, by dsimp only [room_1]; omega⟩ rfl (fun H locs hP hD hS => ?_)
    refine lv_istore (lv' := [(6, .int bb), (5, .int c1), (0, .ref b), (1, .ref (x 0)), (2, .ref (o 0)), (3, .ref oA), (4, .int (nI (3 * i)))]) hx hb dL_law_355 hl (by decide) rfl (fun ls hl => ?_)
    refine lv_aload_n hx hb dL_law_357 rfl (lv_at hl 4 rfl) ?_
    refine kVi (As := []) (rest := []) (r := c1) B hK hN hP hD hS hA (c_X7_thrown l D cI cJ q u o T t M k' V v (XW cI cJ a b2 x oA G g J j F O []) _ e3) (cwV 0 hts gL_law_X7_thrown rfl rfl rfl (by decide +kernel) ⟨(Nat.le_of_ble_eq_true rfl), (Nat.le_of_ble_eq_true rfl)⟩) 10 5 rfl rfl rfl hl.1 rfl (Nat.le_of_ble_eq_true rfl) dL_law_358 ⟨by dsimp only [room_1]; omega, by dsimp only [room_1]; omega⟩ rfl (fun H locs hP hD hS => ?_)
    refine lv_iload hx hb dL_law_361 (lv_at hl 1 rfl) ?_
    refine lv_icmp_eq (tgt := 368) hx hb dL_law_363 (by decide) (fun _ => ?_) (fun h => absurd rfl h)
    refine lv_iload hx hb dL_law_368 (lv_at hl 1 rfl) ?_
    refine lv_if_ne (tgt := 385) hx hb dL_law_370 (by decide) (fun _ => ?_) (fun h => absurd h hc0)
    refine lv_goto (tgt := 1188) hx hb dL_law_385 (by decide) ?_
    refine W.widen (k := 79 + 220 * (i + 1)) (n := 1050 + 1200 * (i + 1)) (by dsimp only; omega) (by dsimp only; omega) ?_
    exact tail G g J j F O T t M k' V v _ _ _ hs2 (P_perm pmL.symm hP) (D_perm pmL.symm hD) hS (lv_sub hl [2, 3, 4, 5, 6] rfl)
set_option maxHeartbeats 4000000 in
set_option maxRecDepth 100000 in
theorem case_fish {p : Program} {l : Launch} {e : Env} {s : State} {m : MethodId} {below : List Frame} {meth : Method} {c : Code} {b L : Nat} {xs : Nat → Int32} {D : va_G} {cI cJ : ClassId} (C : LC p l s m meth c b L xs D cI cJ) {a b2 x q u o : Nat → Nat} {oA i : Nat} (hi : 3 * i + 3 ≤ L) (tail : LQt p l e s m below meth c b D cI cJ a b2 x q u o oA (i + 1) i 1188 (79 + 220 * (i + 1)) (1050 + 1200 * (i + 1))) : LQt p l e s m below meth c b D cI cJ a b2 x q u o oA i i 388 (79 + 220 * i) (1050 + 1200 * i) := by
  intro G g J j F O T t M k V v H locs ls hs hP hD hS hl
  obtain ⟨⟨B, hK, hN, hT⟩, hX, hbl, hfl, hL⟩ := C
  obtain ⟨hx, hb, hml, hown, hts⟩ := id B
  have hA : ∀ q : Nat, s.heap.size ≤ q → lA s q := fun _ h => h
  have hbA : ¬ lA s b := Nat.not_le.mpr hbl
  have v1 : vp_in (nI (3 * i) + 1) L := by rw [nI_1]; exact vp_in_nI (by omega) (by omega)
  have v2 : vp_in (nI (3 * i) + 2) L := by rw [show nI (3 * i) + 2 = nI (3 * i + 2) from nI_add _ 2]; exact vp_in_nI (by omega) (by omega)
  rcases op_fish hs (show i ≤ 1000 by omega) (xs (Int32.toNatClampNeg (nI (3 * i) + 1))) (xs (Int32.toNatClampNeg (nI (3 * i) + 2))) with ⟨r, G', g', T', k', e1, e2, e3, hs2⟩ | ⟨E1, c1, bb, k', hc, e1, e2, e3, hs2⟩
  · refine lv_aload_n hx hb dL_law_388 rfl (lv_at hl 1 rfl) ?_
    refine lv_aload_n hx hb dL_law_389 rfl (lv_at hl 0 rfl) ?_
    refine lv_iload hx hb dL_law_390 (lv_at hl 4 rfl) ?_
    refine lv_iconst (v := 1) hx hb dL_law_392 (by decide) ?_
    refine lv_iadd hx hb dL_law_393 ?_
    refine va_sld hx hb hX hbl hbA hS v1 dL_law_394 ?_
    refine lv_aload_n hx hb dL_law_395 rfl (lv_at hl 0 rfl) ?_
    refine lv_iload hx hb dL_law_396 (lv_at hl 4 rfl) ?_
    refine lv_iconst (v := 2) hx hb dL_law_398 (by decide) ?_
    refine lv_iadd hx hb dL_law_399 ?_
    refine va_sld hx hb hX hbl hbA hS v2 dL_law_400 ?_
    refine lv_aload_n hx hb dL_law_401 rfl (lv_at hl 3 rfl) ?_
    refine kHs (As := [.ref (x 0), .int (xs (Int32.toNatClampNeg (nI (3 * i) + 1))), .int (xs (Int32.toNatClampNeg (nI (3 * i) + 2))), .ref oA]) (rest := []) B hK hN hT hP hD hS hA (c_L_fish l hfl D cI cJ a b2 x G g J j F (xs (Int32.toNatClampNeg (nI (3 * i) + 1))) (xs (Int32.toNatClampNeg (nI (3 * i) + 2))) _ oA O 0 (XW cI cJ a b2 x oA G' g' J j F (vp_updL O 0 r.toInt64) (MW cI q u o T t M k V v [])) (MW cI q u o T t M k V v []) e1 (show _ ∧ _ from ⟨rfl, rfl⟩)) (vx_cwSW 4 hts gL_law_L_fish rfl rfl rfl (by decide +kernel) ⟨(Nat.le_of_ble_eq_true rfl), (Nat.le_of_ble_eq_true rfl)⟩) rfl hl.1 rfl (Nat.le_of_ble_eq_true rfl) dL_law_402 ⟨by dsimp only [room_1]; omega, by dsimp only [room_1]; omega⟩ rfl (fun H locs hP hD hS => ?_)
    refine lv_istore (lv' := [(5, .int 0), (0, .ref b), (1, .ref (x 0)), (2, .ref (o 0)), (3, .ref oA), (4, .int (nI (3 * i)))]) hx hb dL_law_405 hl (by decide) rfl (fun ls hl => ?_)
    have hP : va_P D vwCl (MW cI q u o T t M k V v (XW cI cJ a b2 x oA G' g' J j F (vp_updL O 0 r.toInt64) [])) H := P_perm pmL hP
    have hD : va_D (lA s) (MW cI q u o T t M k V v (XW cI cJ a b2 x oA G' g' J j F (vp_updL O 0 r.toInt64) [])) := D_perm pmL hD
    refine lv_aload_n hx hb dL_law_407 rfl (lv_at hl 3 rfl) ?_
    refine lv_aload_n hx hb dL_law_408 rfl (lv_at hl 1 rfl) ?_
    refine lv_iload hx hb dL_law_409 (lv_at hl 5 rfl) ?_
    refine lv_iconst (v := 1) hx hb dL_law_411 (by decide) ?_
    refine lv_iadd hx hb dL_law_412 ?_
    refine va_sld hx hb hX hbl hbA hS v1 dL_law_413 ?_
    refine lv_aload_n hx hb dL_law_414 rfl (lv_at hl 1 rfl) ?_
    refine lv_iload hx hb dL_law_415 (lv_at hl 5 rfl) ?_
    refine lv_iconst (v := 2) hx hb dL_law_417 (by decide) ?_
    refine lv_iadd hx hb dL_law_418 ?_
    refine va_sld hx hb hX hbl hbA hS v2 dL_law_419 ?_
    refine kVi (As := [.int (xs (Int32.toNatClampNeg (nI (3 * i) + 1))), .int (xs (Int32.toNatClampNeg (nI (3 * i) + 2)))]) (rest := []) B hK hN hP hD hS hA (c_X7_fish l D cI cJ q u o T t M k V v (xs (Int32.toNatClampNeg (nI (3 * i) + 1))) (xs (Int32.toNatClampNeg (nI (3 * i) + 2))) r T' k' (XW cI cJ a b2 x oA G' g' J j F (vp_updL O 0 r.toInt64) []) e2) (cwV 2 hts gL_law_X7_fish rfl rfl rfl (by decide +kernel) ⟨(Nat.le_of_ble_eq_true rfl), (Nat.le_of_ble_eq_true rfl)⟩) 10 5 rfl rfl rfl hl.1 rfl (Nat.le_of_ble_eq_true rfl) dL_law_420 ⟨by dsimp only [room_1]; omega, by dsimp only [room_1]; omega⟩ rfl (fun H locs hP hD hS => ?_)
    refine lv_istore (lv' := [(6, .int r), (5, .int 0), (0, .ref b), (1, .ref (x 0)), (2, .ref (o 0)), (3, .ref oA), (4, .int (nI (3 * i)))]) hx hb dL_law_423 hl (by decide) rfl (fun ls hl => ?_)
    refine lv_aload_n hx hb dL_law_425 rfl (lv_at hl 4 rfl) ?_
    refine kVi (As := []) (rest := []) (r := 0) B hK hN hP hD hS hA (c_X7_thrown l D cI cJ q u o T' t M k' V v (XW cI cJ a b2 x oA G' g' J j F (vp_updL O 0 r.toInt64) []) _ e3) (cwV 0 hts gL_law_X7_thrown rfl rfl rfl (by decide +kernel) ⟨(Nat.le_of_ble_eq_true rfl), (Nat.le_of_ble_eq_true rfl)⟩) 10 5 rfl rfl rfl hl.1 rfl (Nat.le_of_ble_eq_true rfl) dL_law_426 ⟨by dsimp only [room_1]; omega, by dsimp only [room_1]; omega⟩ rfl (fun H locs hP hD hS => ?_)
    refine lv_iload hx hb dL_law_429 (lv_at hl 1 rfl) ?_
    refine lv_icmp_eq (tgt := 436) hx hb dL_law_431 (by decide) (fun _ => ?_) (fun h => absurd rfl h)
    refine lv_iload hx hb dL_law_436 (lv_at hl 1 rfl) ?_
    refine lv_if_ne (tgt := 453) hx hb dL_law_438 (by decide) (fun h => absurd rfl h) (fun _ => ?_)
    refine lv_aload_n hx hb dL_law_441 rfl (lv_at hl 5 rfl) ?_
    refine lv_iconst (v := 0) hx hb dL_law_442 (by decide) ?_
    refine va_lald hx hb hK hP 78 1 rfl rfl (vp_in_nI (n := 0) (by decide) (by decide)) dL_law_443 ?_
    refine lv_iload hx hb dL_law_444 (lv_at hl 0 rfl) ?_
    refine lv_i2l hx hb dL_law_446 rfl ?_
    refine lcmpE hx hb dL_law_447 ?_
    refine lv_if_eq (tgt := 453) hx hb dL_law_448 (by decide) (fun _ => ?_) (fun h => absurd rfl h)
    refine lv_goto (tgt := 1188) hx hb dL_law_453 (by decide) ?_
    refine W.widen (k := 79 + 220 * (i + 1)) (n := 1050 + 1200 * (i + 1)) (by dsimp only; omega) (by dsimp only; omega) ?_
    exact tail G' g' J j F (vp_updL O 0 r.toInt64) T' t M k' V v _ _ _ hs2 (P_perm pmL.symm hP) (D_perm pmL.symm hD) hS (lv_sub hl [2, 3, 4, 5, 6] rfl)
  · have hc0 : ¬ c1 = 0 := by rcases hc with ⟨-, rfl⟩ | ⟨-, rfl⟩ <;> decide
    refine lv_aload_n hx hb dL_law_388 rfl (lv_at hl 1 rfl) ?_
    refine lv_aload_n hx hb dL_law_389 rfl (lv_at hl 0 rfl) ?_
    refine lv_iload hx hb dL_law_390 (lv_at hl 4 rfl) ?_
    refine lv_iconst (v := 1) hx hb dL_law_392 (by decide) ?_
    refine lv_iadd hx hb dL_law_393 ?_
    refine va_sld hx hb hX hbl hbA hS v1 dL_law_394 ?_
    refine lv_aload_n hx hb dL_law_395 rfl (lv_at hl 0 rfl) ?_
    refine lv_iload hx hb dL_law_396 (lv_at hl 4 rfl) ?_
    refine lv_iconst (v := 2) hx hb dL_law_398 (by decide) ?_
    refine lv_iadd hx hb dL_law_399 ?_
    refine va_sld hx hb hX hbl hbA hS v2 dL_law_400 ?_
    refine lv_aload_n hx hb dL_law_401 rfl (lv_at hl 3 rfl) ?_
    refine kHs (As := [.ref (x 0), .int (xs (Int32.toNatClampNeg (nI (3 * i) + 1))), .int (xs (Int32.toNatClampNeg (nI (3 * i) + 2))), .ref oA]) (rest := []) B hK hN hT hP hD hS hA (c_L_fish l hfl D cI cJ a b2 x G g J j F (xs (Int32.toNatClampNeg (nI (3 * i) + 1))) (xs (Int32.toNatClampNeg (nI (3 * i) + 2))) _ oA O c1 (XW cI cJ a b2 x oA G g J j F O (MW cI q u o T t M k V v [])) (MW cI q u o T t M k V v []) e1 (show _ ∧ _ from ⟨hc, rfl⟩)) (vx_cwSW 4 hts gL_law_L_fish rfl rfl rfl (by decide +kernel) ⟨(Nat.le_of_ble_eq_true rfl), (Nat.le_of_ble_eq_true rfl)⟩) rfl hl.1 rfl (Nat.le_of_ble_eq_true rfl) dL_law_402 ⟨by dsimp only [room_1]; omega, by dsimp only [room_1]; omega⟩ rfl (fun H locs hP hD hS => ?_)
    refine lv_istore (lv' := [(5, .int c1), (0, .ref b), (1, .ref (x 0)), (2, .ref (o 0)), (3, .ref oA), (4, .int (nI (3 * i)))]) hx hb dL_law_405 hl (by decide) rfl (fun ls hl => ?_)
    have hP : va_P D vwCl (MW cI q u o T t M k V v (XW cI cJ a b2 x oA G g J j F O [])) H := P_perm pmL hP
    have hD : va_D (lA s) (MW cI q u o T t M k V v (XW cI cJ a b2 x oA G g J j F O [])) := D_perm pmL hD
    refine lv_aload_n hx hb dL_law_407 rfl (lv_at hl 3 rfl) ?_
    refine lv_aload_n hx hb dL_law_408 rfl (lv_at hl 1 rfl) ?_
    refine lv_iload hx hb dL_law_409 (lv_at hl 5 rfl) ?_
    refine lv_iconst (v := 1) hx hb dL_law_411 (by decide) ?_
    refine lv_iadd hx hb dL_law_412 ?_
    refine va_sld hx hb hX hbl hbA hS v1 dL_law_413 ?_
    refine lv_aload_n hx hb dL_law_414 rfl (lv_at hl 1 rfl) ?_
    refine lv_iload hx hb dL_law_415 (lv_at hl 5 rfl) ?_
    refine lv_iconst (v := 2) hx hb dL_law_417 (by decide) ?_
    refine lv_iadd hx hb dL_law_418 ?_
    refine va_sld hx hb hX hbl hbA hS v2 dL_law_419 ?_
    refine kVi (As := [.int (xs (Int32.toNatClampNeg (nI (3 * i) + 1))), .int (xs (Int32.toNatClampNeg (nI (3 * i) + 2)))]) (rest := []) B hK hN hP hD hS hA (c_X7_fish l D cI cJ q u o T t M k V v (xs (Int32.toNatClampNeg (nI (3 * i) + 1))) (xs (Int32.toNatClampNeg (nI (3 * i) + 2))) bb T k' (XW cI cJ a b2 x oA G g J j F O []) e2) (cwV 2 hts gL_law_X7_fish rfl rfl rfl (by decide +kernel) ⟨(Nat.le_of_ble_eq_true rfl), (Nat.le_of_ble_eq_true rfl)⟩) 10 5 rfl rfl rfl hl.1 rfl (Nat.le_of_ble_eq_true rfl) dL_law_420 ⟨by dsimp only [room_1]; omega, by dsimp only [room_1]; omega⟩ rfl (fun H locs hP hD hS => ?_)
    refine lv_istore (lv' := [(6, .int bb), (5, .int c1), (0, .ref b), (1, .ref (x 0)), (2, .ref (o 0)), (3, .ref oA), (4, .int (nI (3 * i)))]) hx hb dL_law_423 hl (by decide) rfl (fun ls hl => ?_)
    refine lv_aload_n hx hb dL_law_425 rfl (lv_at hl 4 rfl) ?_
    refine kVi (As := []) (rest := []) (r := c1) B hK hN hP hD hS hA (c_X7_thrown l D cI cJ q u o T t M k' V v (XW cI cJ a b2 x oA G g J j F O []) _ e3) (cwV 0 hts gL_law_X7_thrown rfl rfl rfl (by decide +kernel) ⟨(Nat.le_of_ble_eq_true rfl), (Nat.le_of_ble_eq_true rfl)⟩) 10 5 rfl rfl rfl hl.1 rfl (Nat.le_of_ble_eq_true rfl) dL_law_426 ⟨by dsimp only [room_1]; omega, by dsimp only [room_1]; omega⟩ rfl (fun H locs hP hD hS => ?_)
    refine lv_iload hx hb dL_law_429 (lv_at hl 1 rfl) ?_
    refine lv_icmp_eq (tgt := 436) hx hb dL_law_431 (by decide) (fun _ => ?_) (fun h => absurd rfl h)
    refine lv_iload hx hb dL_law_436 (lv_at hl 1 rfl) ?_
    refine lv_if_ne (tgt := 453) hx hb dL_law_438 (by decide) (fun _ => ?_) (fun h => absurd h hc0)
    refine lv_goto (tgt := 1188) hx hb dL_law_453 (by decide) ?_
    refine W.widen (k := 79 + 220 * (i + 1)) (n := 1050 + 1200 * (i + 1)) (by dsimp only; omega) (by dsimp only; omega) ?_
    exact tail G g J j F O T t M k' V v _ _ _ hs2 (P_perm pmL.symm hP) (D_perm pmL.symm hD) hS (lv_sub hl [2, 3, 4, 5, 6] rfl)
set_option maxHeartbeats 4000000 in
set_option maxRecDepth 100000 in
theorem case_audit {p : Program} {l : Launch} {e : Env} {s : State} {m : MethodId} {below : List Frame} {meth : Method} {c : Code} {b L : Nat} {xs : Nat → Int32} {D : va_G} {cI cJ : ClassId} (C : LC p l s m meth c b L xs D cI cJ) {a b2 x q u o : Nat → Nat} {oA i : Nat} (hi : 3 * i + 3 ≤ L) (tail : LQt p l e s m below meth c b D cI cJ a b2 x q u o oA (i + 1) i 1188 (79 + 220 * (i + 1)) (1050 + 1200 * (i + 1))) : LQt p l e s m below meth c b D cI cJ a b2 x q u o oA i i 456 (79 + 220 * i) (1050 + 1200 * i) := by
  intro G g J j F O T t M k V v H locs ls hs hP hD hS hl
  obtain ⟨⟨B, hK, hN, hT⟩, hX, hbl, hfl, hL⟩ := C
  obtain ⟨hx, hb, hml, hown, hts⟩ := id B
  have hA : ∀ q : Nat, s.heap.size ≤ q → lA s q := fun _ h => h
  have hbA : ¬ lA s b := Nat.not_le.mpr hbl
  have v1 : vp_in (nI (3 * i) + 1) L := by rw [nI_1]; exact vp_in_nI (by omega) (by omega)
  have v2 : vp_in (nI (3 * i) + 2) L := by rw [show nI (3 * i) + 2 = nI (3 * i + 2) from nI_add _ 2]; exact vp_in_nI (by omega) (by omega)
  rcases op_audit hs (xs (Int32.toNatClampNeg (nI (3 * i) + 1))) with ⟨r, G', g', T', M', k', e1, e2, e3, hs2⟩ | ⟨E1, c1, bb, k', hc, e1, e2, e3, hs2⟩
  · refine lv_aload_n hx hb dL_law_456 rfl (lv_at hl 1 rfl) ?_
    refine lv_aload_n hx hb dL_law_457 rfl (lv_at hl 0 rfl) ?_
    refine lv_iload hx hb dL_law_458 (lv_at hl 4 rfl) ?_
    refine lv_iconst (v := 1) hx hb dL_law_460 (by decide) ?_
    refine lv_iadd hx hb dL_law_461 ?_
    refine va_sld hx hb hX hbl hbA hS v1 dL_law_462 ?_
    refine lv_aload_n hx hb dL_law_463 rfl (lv_at hl 3 rfl) ?_
    refine kHs (As := [.ref (x 0), .int (xs (Int32.toNatClampNeg (nI (3 * i) + 1))), .ref oA]) (rest := []) B hK hN hT hP hD hS hA (c_L_audit l hfl D cI cJ a b2 x G g J j F (xs (Int32.toNatClampNeg (nI (3 * i) + 1))) _ oA O 0 (XW cI cJ a b2 x oA G' g' J j F (vp_updL O 0 r.toInt64) (MW cI q u o T t M k V v [])) (MW cI q u o T t M k V v []) e1 (show _ ∧ _ from ⟨rfl, rfl⟩)) (vx_cwSW 3 hts gL_law_L_audit rfl rfl rfl (by decide +kernel) ⟨(Nat.le_of_ble_eq_true rfl), (Nat.le_of_ble_eq_true rfl)⟩) rfl hl.1 rfl (Nat.le_of_ble_eq_true rfl) dL_law_464 ⟨by dsimp only [room_1]; omega, by dsimp only [room_1]; omega⟩ rfl (fun H locs hP hD hS => ?_)
    refine lv_istore (lv' := [(5, .int 0), (0, .ref b), (1, .ref (x 0)), (2, .ref (o 0)), (3, .ref oA), (4, .int (nI (3 * i)))]) hx hb dL_law_467 hl (by decide) rfl (fun ls hl => ?_)
    have hP : va_P D vwCl (MW cI q u o T t M k V v (XW cI cJ a b2 x oA G' g' J j F (vp_updL O 0 r.toInt64) [])) H := P_perm pmL hP
    have hD : va_D (lA s) (MW cI q u o T t M k V v (XW cI cJ a b2 x oA G' g' J j F (vp_updL O 0 r.toInt64) [])) := D_perm pmL hD
    refine lv_aload_n hx hb dL_law_469 rfl (lv_at hl 3 rfl) ?_
    refine lv_aload_n hx hb dL_law_470 rfl (lv_at hl 1 rfl) ?_
    refine lv_iload hx hb dL_law_471 (lv_at hl 5 rfl) ?_
    refine lv_iconst (v := 1) hx hb dL_law_473 (by decide) ?_
    refine lv_iadd hx hb dL_law_474 ?_
    refine va_sld hx hb hX hbl hbA hS v1 dL_law_475 ?_
    refine kVi (As := [.int (xs (Int32.toNatClampNeg (nI (3 * i) + 1)))]) (rest := []) B hK hN hP hD hS hA (c_X7_audit l D cI cJ q u o T t M k V v (xs (Int32.toNatClampNeg (nI (3 * i) + 1))) r T' M' k' (XW cI cJ a b2 x oA G' g' J j F (vp_updL O 0 r.toInt64) []) e2) (cwV 1 hts gL_law_X7_audit rfl rfl rfl (by decide +kernel) ⟨(Nat.le_of_ble_eq_true rfl), (Nat.le_of_ble_eq_true rfl)⟩) 10 5 rfl rfl rfl hl.1 rfl (Nat.le_of_ble_eq_true rfl) dL_law_476 ⟨by dsimp only [room_1]; omega, by dsimp only [room_1]; omega⟩ rfl (fun H locs hP hD hS => ?_)
    refine lv_istore (lv' := [(6, .int r), (5, .int 0), (0, .ref b), (1, .ref (x 0)), (2, .ref (o 0)), (3, .ref oA), (4, .int (nI (3 * i)))]) hx hb dL_law_479 hl (by decide) rfl (fun ls hl => ?_)
    refine lv_aload_n hx hb dL_law_481 rfl (lv_at hl 4 rfl) ?_
    refine kVi (As := []) (rest := []) (r := 0) B hK hN hP hD hS hA (c_X7_thrown l D cI cJ q u o T' t M' k' V v (XW cI cJ a b2 x oA G' g' J j F (vp_updL O 0 r.toInt64) []) _ e3) (cwV 0 hts gL_law_X7_thrown rfl rfl rfl (by decide +kernel) ⟨(Nat.le_of_ble_eq_true rfl), (Nat.le_of_ble_eq_true rfl)⟩) 10 5 rfl rfl rfl hl.1 rfl (Nat.le_of_ble_eq_true rfl) dL_law_482 ⟨by dsimp only [room_1]; omega, by dsimp only [room_1]; omega⟩ rfl (fun H locs hP hD hS => ?_)
    refine lv_iload hx hb dL_law_485 (lv_at hl 1 rfl) ?_
    refine lv_icmp_eq (tgt := 492) hx hb dL_law_487 (by decide) (fun _ => ?_) (fun h => absurd rfl h)
    refine lv_iload hx hb dL_law_492 (lv_at hl 1 rfl) ?_
    refine lv_if_ne (tgt := 509) hx hb dL_law_494 (by decide) (fun h => absurd rfl h) (fun _ => ?_)
    refine lv_aload_n hx hb dL_law_497 rfl (lv_at hl 5 rfl) ?_
    refine lv_iconst (v := 0) hx hb dL_law_498 (by decide) ?_
    refine va_lald hx hb hK hP 78 1 rfl rfl (vp_in_nI (n := 0) (by decide) (by decide)) dL_law_499 ?_
    refine lv_iload hx hb dL_law_500 (lv_at hl 0 rfl) ?_
    refine lv_i2l hx hb dL_law_502 rfl ?_
    refine lcmpE hx hb dL_law_503 ?_
    refine lv_if_eq (tgt := 509) hx hb dL_law_504 (by decide) (fun _ => ?_) (fun h => absurd rfl h)
    refine lv_goto (tgt := 1188) hx hb dL_law_509 (by decide) ?_
    refine W.widen (k := 79 + 220 * (i + 1)) (n := 1050 + 1200 * (i + 1)) (by dsimp only; omega) (by dsimp only; omega) ?_
    exact tail G' g' J j F (vp_updL O 0 r.toInt64) T' t M' k' V v _ _ _ hs2 (P_perm pmL.symm hP) (D_perm pmL.symm hD) hS (lv_sub hl [2, 3, 4, 5, 6] rfl)
  · have hc0 : ¬ c1 = 0 := by rw [hc.2]; decide
    refine lv_aload_n hx hb dL_law_456 rfl (lv_at hl 1 rfl) ?_
    refine lv_aload_n hx hb dL_law_457 rfl (lv_at hl 0 rfl) ?_
    refine lv_iload hx hb dL_law_458 (lv_at hl 4 rfl) ?_
    refine lv_iconst (v := 1) hx hb dL_law_460 (by decide) ?_
    refine lv_iadd hx hb dL_law_461 ?_
    refine va_sld hx hb hX hbl hbA hS v1 dL_law_462 ?_
    refine lv_aload_n hx hb dL_law_463 rfl (lv_at hl 3 rfl) ?_
    refine kHs (As := [.ref (x 0), .int (xs (Int32.toNatClampNeg (nI (3 * i) + 1))), .ref oA]) (rest := []) B hK hN hT hP hD hS hA (c_L_audit l hfl D cI cJ a b2 x G g J j F (xs (Int32.toNatClampNeg (nI (3 * i) + 1))) _ oA O c1 (XW cI cJ a b2 x oA G g J j F O (MW cI q u o T t M k V v [])) (MW cI q u o T t M k V v []) e1 (show _ ∧ _ from ⟨hc, rfl⟩)) (vx_cwSW 3 hts gL_law_L_audit rfl rfl rfl (by decide +kernel) ⟨(Nat.le_of_ble_eq_true rfl), (Nat.le_of_ble_eq_true rfl)⟩) rfl hl.1 rfl (Nat.le_of_ble_eq_true rfl) dL_law_464 ⟨by dsimp only [room_1]; omega, by dsimp only [room_1]; omega⟩ rfl (fun H locs hP hD hS => ?_)
    refine lv_istore (lv' := [(5, .int c1), (0, .ref b), (1, .ref (x 0)), (2, .ref (o 0)), (3, .ref oA), (4, .int (nI (3 * i)))]) hx hb dL_law_467 hl (by decide) rfl (fun ls hl => ?_)
    have hP : va_P D vwCl (MW cI q u o T t M k V v (XW cI cJ a b2 x oA G g J j F O [])) H := P_perm pmL hP
    have hD : va_D (lA s) (MW cI q u o T t M k V v (XW cI cJ a b2 x oA G g J j F O [])) := D_perm pmL hD
    refine lv_aload_n hx hb dL_law_469 rfl (lv_at hl 3 rfl) ?_
    refine lv_aload_n hx hb dL_law_470 rfl (lv_at hl 1 rfl) ?_
    refine lv_iload hx hb dL_law_471 (lv_at hl 5 rfl) ?_
    refine lv_iconst (v := 1) hx hb dL_law_473 (by decide) ?_
    refine lv_iadd hx hb dL_law_474 ?_
    refine va_sld hx hb hX hbl hbA hS v1 dL_law_475 ?_
    refine kVi (As := [.int (xs (Int32.toNatClampNeg (nI (3 * i) + 1)))]) (rest := []) B hK hN hP hD hS hA (c_X7_audit l D cI cJ q u o T t M k V v (xs (Int32.toNatClampNeg (nI (3 * i) + 1))) bb T M k' (XW cI cJ a b2 x oA G g J j F O []) e2) (cwV 1 hts gL_law_X7_audit rfl rfl rfl (by decide +kernel) ⟨(Nat.le_of_ble_eq_true rfl), (Nat.le_of_ble_eq_true rfl)⟩) 10 5 rfl rfl rfl hl.1 rfl (Nat.le_of_ble_eq_true rfl) dL_law_476 ⟨by dsimp only [room_1]; omega, by dsimp only [room_1]; omega⟩ rfl (fun H locs hP hD hS => ?_)
    refine lv_istore (lv' := [(6, .int bb), (5, .int c1), (0, .ref b), (1, .ref (x 0)), (2, .ref (o 0)), (3, .ref oA), (4, .int (nI (3 * i)))]) hx hb dL_law_479 hl (by decide) rfl (fun ls hl => ?_)
    refine lv_aload_n hx hb dL_law_481 rfl (lv_at hl 4 rfl) ?_
    refine kVi (As := []) (rest := []) (r := c1) B hK hN hP hD hS hA (c_X7_thrown l D cI cJ q u o T t M k' V v (XW cI cJ a b2 x oA G g J j F O []) _ e3) (cwV 0 hts gL_law_X7_thrown rfl rfl rfl (by decide +kernel) ⟨(Nat.le_of_ble_eq_true rfl), (Nat.le_of_ble_eq_true rfl)⟩) 10 5 rfl rfl rfl hl.1 rfl (Nat.le_of_ble_eq_true rfl) dL_law_482 ⟨by dsimp only [room_1]; omega, by dsimp only [room_1]; omega⟩ rfl (fun H locs hP hD hS => ?_)
    refine lv_iload hx hb dL_law_485 (lv_at hl 1 rfl) ?_
    refine lv_icmp_eq (tgt := 492) hx hb dL_law_487 (by decide) (fun _ => ?_) (fun h => absurd rfl h)
    refine lv_iload hx hb dL_law_492 (lv_at hl 1 rfl) ?_
    refine lv_if_ne (tgt := 509) hx hb dL_law_494 (by decide) (fun _ => ?_) (fun h => absurd h hc0)
    refine lv_goto (tgt := 1188) hx hb dL_law_509 (by decide) ?_
    refine W.widen (k := 79 + 220 * (i + 1)) (n := 1050 + 1200 * (i + 1)) (by dsimp only; omega) (by dsimp only; omega) ?_
    exact tail G g J j F O T t M k' V v _ _ _ hs2 (P_perm pmL.symm hP) (D_perm pmL.symm hD) hS (lv_sub hl [2, 3, 4, 5, 6] rfl)
set_option maxHeartbeats 4000000 in
set_option maxRecDepth 100000 in
theorem case_missing {p : Program} {l : Launch} {e : Env} {s : State} {m : MethodId} {below : List Frame} {meth : Method} {c : Code} {b L : Nat} {xs : Nat → Int32} {D : va_G} {cI cJ : ClassId} (C : LC p l s m meth c b L xs D cI cJ) {a b2 x q u o : Nat → Nat} {oA i : Nat} (hi : 3 * i + 3 ≤ L) (tail : LQt p l e s m below meth c b D cI cJ a b2 x q u o oA (i + 1) i 1188 (79 + 220 * (i + 1)) (1050 + 1200 * (i + 1))) : LQt p l e s m below meth c b D cI cJ a b2 x q u o oA i i 512 (79 + 220 * i) (1050 + 1200 * i) := by
  intro G g J j F O T t M k V v H locs ls hs hP hD hS hl
  obtain ⟨⟨B, hK, hN, hT⟩, hX, hbl, hfl, hL⟩ := C
  obtain ⟨hx, hb, hml, hown, hts⟩ := id B
  have hA : ∀ q : Nat, s.heap.size ≤ q → lA s q := fun _ h => h
  have hbA : ¬ lA s b := Nat.not_le.mpr hbl
  have v1 : vp_in (nI (3 * i) + 1) L := by rw [nI_1]; exact vp_in_nI (by omega) (by omega)
  have v2 : vp_in (nI (3 * i) + 2) L := by rw [show nI (3 * i) + 2 = nI (3 * i + 2) from nI_add _ 2]; exact vp_in_nI (by omega) (by omega)
  rcases op_missing hs (xs (Int32.toNatClampNeg (nI (3 * i) + 1))) with ⟨r, k', e1, e2, e3, hs2⟩ | ⟨E1, c1, bb, k', hc, e1, e2, e3, hs2⟩
  · refine lv_aload_n hx hb dL_law_512 rfl (lv_at hl 1 rfl) ?_
    refine lv_aload_n hx hb dL_law_513 rfl (lv_at hl 0 rfl) ?_
    refine lv_iload hx hb dL_law_514 (lv_at hl 4 rfl) ?_
    refine lv_iconst (v := 1) hx hb dL_law_516 (by decide) ?_
    refine lv_iadd hx hb dL_law_517 ?_
    refine va_sld hx hb hX hbl hbA hS v1 dL_law_518 ?_
    refine lv_aload_n hx hb dL_law_519 rfl (lv_at hl 3 rfl) ?_
    refine kHs (As := [.ref (x 0), .int (xs (Int32.toNatClampNeg (nI (3 * i) + 1))), .ref oA]) (rest := []) B hK hN hT hP hD hS hA (c_L_missing l hfl D cI cJ a b2 x G g J j F (xs (Int32.toNatClampNeg (nI (3 * i) + 1))) _ oA O 0 (XW cI cJ a b2 x oA G g J j F (vp_updL O 0 r.toInt64) (MW cI q u o T t M k V v [])) (MW cI q u o T t M k V v []) e1 (show _ ∧ _ from ⟨rfl, rfl⟩)) (vx_cwSW 3 hts gL_law_L_missing rfl rfl rfl (by decide +kernel) ⟨(Nat.le_of_ble_eq_true rfl), (Nat.le_of_ble_eq_true rfl)⟩) rfl hl.1 rfl (Nat.le_of_ble_eq_true rfl) dL_law_520 ⟨by dsimp only [room_1]; omega, by dsimp only [room_1]; omega⟩ rfl (fun H locs hP hD hS => ?_)
    refine lv_istore (lv' := [(5, .int 0), (0, .ref b), (1, .ref (x 0)), (2, .ref (o 0)), (3, .ref oA), (4, .int (nI (3 * i)))]) hx hb dL_law_523 hl (by decide) rfl (fun ls hl => ?_)
    have hP : va_P D vwCl (MW cI q u o T t M k V v (XW cI cJ a b2 x oA G g J j F (vp_updL O 0 r.toInt64) [])) H := P_perm pmL hP
    have hD : va_D (lA s) (MW cI q u o T t M k V v (XW cI cJ a b2 x oA G g J j F (vp_updL O 0 r.toInt64) [])) := D_perm pmL hD
    refine lv_aload_n hx hb dL_law_525 rfl (lv_at hl 3 rfl) ?_
    refine lv_aload_n hx hb dL_law_526 rfl (lv_at hl 1 rfl) ?_
    refine lv_iload hx hb dL_law_527 (lv_at hl 5 rfl) ?_
    refine lv_iconst (v := 1) hx hb dL_law_529 (by decide) ?_
    refine lv_iadd hx hb dL_law_530 ?_
    refine va_sld hx hb hX hbl hbA hS v1 dL_law_531 ?_
    refine kVi (As := [.int (xs (Int32.toNatClampNeg (nI (3 * i) + 1)))]) (rest := []) B hK hN hP hD hS hA (c_X7_missing l D cI cJ q u o T t M k V v (xs (Int32.toNatClampNeg (nI (3 * i) + 1))) r k' (XW cI cJ a b2 x oA G g J j F (vp_updL O 0 r.toInt64) []) e2) (cwV 1 hts gL_law_X7_missing rfl rfl rfl (by decide +kernel) ⟨(Nat.le_of_ble_eq_true rfl), (Nat.le_of_ble_eq_true rfl)⟩) 10 5 rfl rfl rfl hl.1 rfl (Nat.le_of_ble_eq_true rfl) dL_law_532 ⟨by dsimp only [room_1]; omega, by dsimp only [room_1]; omega⟩ rfl (fun H locs hP hD hS => ?_)
    refine lv_istore (lv' := [(6, .int r), (5, .int 0), (0, .ref b), (1, .ref (x 0)), (2, .ref (o 0)), (3, .ref oA), (4, .int (nI (3 * i)))]) hx hb dL_law_535 hl (by decide) rfl (fun ls hl => ?_)
    refine lv_aload_n hx hb dL_law_537 rfl (lv_at hl 4 rfl) ?_
    refine kVi (As := []) (rest := []) (r := 0) B hK hN hP hD hS hA (c_X7_thrown l D cI cJ q u o T t M k' V v (XW cI cJ a b2 x oA G g J j F (vp_updL O 0 r.toInt64) []) _ e3) (cwV 0 hts gL_law_X7_thrown rfl rfl rfl (by decide +kernel) ⟨(Nat.le_of_ble_eq_true rfl), (Nat.le_of_ble_eq_true rfl)⟩) 10 5 rfl rfl rfl hl.1 rfl (Nat.le_of_ble_eq_true rfl) dL_law_538 ⟨by dsimp only [room_1]; omega, by dsimp only [room_1]; omega⟩ rfl (fun H locs hP hD hS => ?_)
    refine lv_iload hx hb dL_law_541 (lv_at hl 1 rfl) ?_
    refine lv_icmp_eq (tgt := 548) hx hb dL_law_543 (by decide) (fun _ => ?_) (fun h => absurd rfl h)
    refine lv_iload hx hb dL_law_548 (lv_at hl 1 rfl) ?_
    refine lv_if_ne (tgt := 565) hx hb dL_law_550 (by decide) (fun h => absurd rfl h) (fun _ => ?_)
    refine lv_aload_n hx hb dL_law_553 rfl (lv_at hl 5 rfl) ?_
    refine lv_iconst (v := 0) hx hb dL_law_554 (by decide) ?_
    refine va_lald hx hb hK hP 78 1 rfl rfl (vp_in_nI (n := 0) (by decide) (by decide)) dL_law_555 ?_
    refine lv_iload hx hb dL_law_556 (lv_at hl 0 rfl) ?_
    refine lv_i2l hx hb dL_law_558 rfl ?_
    refine lcmpE hx hb dL_law_559 ?_
    refine lv_if_eq (tgt := 565) hx hb dL_law_560 (by decide) (fun _ => ?_) (fun h => absurd rfl h)
    refine lv_goto (tgt := 1188) hx hb dL_law_565 (by decide) ?_
    refine W.widen (k := 79 + 220 * (i + 1)) (n := 1050 + 1200 * (i + 1)) (by dsimp only; omega) (by dsimp only; omega) ?_
    exact tail G g J j F (vp_updL O 0 r.toInt64) T t M k' V v _ _ _ hs2 (P_perm pmL.symm hP) (D_perm pmL.symm hD) hS (lv_sub hl [2, 3, 4, 5, 6] rfl)
  · have hc0 : ¬ c1 = 0 := by rw [hc.2]; decide
    refine lv_aload_n hx hb dL_law_512 rfl (lv_at hl 1 rfl) ?_
    refine lv_aload_n hx hb dL_law_513 rfl (lv_at hl 0 rfl) ?_
    refine lv_iload hx hb dL_law_514 (lv_at hl 4 rfl) ?_
    refine lv_iconst (v := 1) hx hb dL_law_516 (by decide) ?_
    refine lv_iadd hx hb dL_law_517 ?_
    refine va_sld hx hb hX hbl hbA hS v1 dL_law_518 ?_
    refine lv_aload_n hx hb dL_law_519 rfl (lv_at hl 3 rfl) ?_
    refine kHs (As := [.ref (x 0), .int (xs (Int32.toNatClampNeg (nI (3 * i) + 1))), .ref oA]) (rest := []) B hK hN hT hP hD hS hA (c_L_missing l hfl D cI cJ a b2 x G g J j F (xs (Int32.toNatClampNeg (nI (3 * i) + 1))) _ oA O c1 (XW cI cJ a b2 x oA G g J j F O (MW cI q u o T t M k V v [])) (MW cI q u o T t M k V v []) e1 (show _ ∧ _ from ⟨hc, rfl⟩)) (vx_cwSW 3 hts gL_law_L_missing rfl rfl rfl (by decide +kernel) ⟨(Nat.le_of_ble_eq_true rfl), (Nat.le_of_ble_eq_true rfl)⟩) rfl hl.1 rfl (Nat.le_of_ble_eq_true rfl) dL_law_520 ⟨by dsimp only [room_1]; omega, by dsimp only [room_1]; omega⟩ rfl (fun H locs hP hD hS => ?_)
    refine lv_istore (lv' := [(5, .int c1), (0, .ref b), (1, .ref (x 0)), (2, .ref (o 0)), (3, .ref oA), (4, .int (nI (3 * i)))]) hx hb dL_law_523 hl (by decide) rfl (fun ls hl => ?_)
    have hP : va_P D vwCl (MW cI q u o T t M k V v (XW cI cJ a b2 x oA G g J j F O [])) H := P_perm pmL hP
    have hD : va_D (lA s) (MW cI q u o T t M k V v (XW cI cJ a b2 x oA G g J j F O [])) := D_perm pmL hD
    refine lv_aload_n hx hb dL_law_525 rfl (lv_at hl 3 rfl) ?_
    refine lv_aload_n hx hb dL_law_526 rfl (lv_at hl 1 rfl) ?_
    refine lv_iload hx hb dL_law_527 (lv_at hl 5 rfl) ?_
    refine lv_iconst (v := 1) hx hb dL_law_529 (by decide) ?_
    refine lv_iadd hx hb dL_law_530 ?_
    refine va_sld hx hb hX hbl hbA hS v1 dL_law_531 ?_
    refine kVi (As := [.int (xs (Int32.toNatClampNeg (nI (3 * i) + 1)))]) (rest := []) B hK hN hP hD hS hA (c_X7_missing l D cI cJ q u o T t M k V v (xs (Int32.toNatClampNeg (nI (3 * i) + 1))) bb k' (XW cI cJ a b2 x oA G g J j F O []) e2) (cwV 1 hts gL_law_X7_missing rfl rfl rfl (by decide +kernel) ⟨(Nat.le_of_ble_eq_true rfl), (Nat.le_of_ble_eq_true rfl)⟩) 10 5 rfl rfl rfl hl.1 rfl (Nat.le_of_ble_eq_true rfl) dL_law_532 ⟨by dsimp only [room_1]; omega, by dsimp only [room_1]; omega⟩ rfl (fun H locs hP hD hS => ?_)
    refine lv_istore (lv' := [(6, .int bb), (5, .int c1), (0, .ref b), (1, .ref (x 0)), (2, .ref (o 0)), (3, .ref oA), (4, .int (nI (3 * i)))]) hx hb dL_law_535 hl (by decide) rfl (fun ls hl => ?_)
    refine lv_aload_n hx hb dL_law_537 rfl (lv_at hl 4 rfl) ?_
    refine kVi (As := []) (rest := []) (r := c1) B hK hN hP hD hS hA (c_X7_thrown l D cI cJ q u o T t M k' V v (XW cI cJ a b2 x oA G g J j F O []) _ e3) (cwV 0 hts gL_law_X7_thrown rfl rfl rfl (by decide +kernel) ⟨(Nat.le_of_ble_eq_true rfl), (Nat.le_of_ble_eq_true rfl)⟩) 10 5 rfl rfl rfl hl.1 rfl (Nat.le_of_ble_eq_true rfl) dL_law_538 ⟨by dsimp only [room_1]; omega, by dsimp only [room_1]; omega⟩ rfl (fun H locs hP hD hS => ?_)
    refine lv_iload hx hb dL_law_541 (lv_at hl 1 rfl) ?_
    refine lv_icmp_eq (tgt := 548) hx hb dL_law_543 (by decide) (fun _ => ?_) (fun h => absurd rfl h)
    refine lv_iload hx hb dL_law_548 (lv_at hl 1 rfl) ?_
    refine lv_if_ne (tgt := 565) hx hb dL_law_550 (by decide) (fun _ => ?_) (fun h => absurd h hc0)
    refine lv_goto (tgt := 1188) hx hb dL_law_565 (by decide) ?_
    refine W.widen (k := 79 + 220 * (i + 1)) (n := 1050 + 1200 * (i + 1)) (by dsimp only; omega) (by dsimp only; omega) ?_
    exact tail G g J j F O T t M k' V v _ _ _ hs2 (P_perm pmL.symm hP) (D_perm pmL.symm hD) hS (lv_sub hl [2, 3, 4, 5, 6] rfl)
set_option maxHeartbeats 4000000 in
set_option maxRecDepth 100000 in
theorem case_land {p : Program} {l : Launch} {e : Env} {s : State} {m : MethodId} {below : List Frame} {meth : Method} {c : Code} {b L : Nat} {xs : Nat → Int32} {D : va_G} {cI cJ : ClassId} (C : LC p l s m meth c b L xs D cI cJ) {a b2 x q u o : Nat → Nat} {oA i : Nat} (hi : 3 * i + 3 ≤ L) (tail : LQt p l e s m below meth c b D cI cJ a b2 x q u o oA (i + 1) i 1188 (79 + 220 * (i + 1)) (1050 + 1200 * (i + 1))) : LQt p l e s m below meth c b D cI cJ a b2 x q u o oA i i 568 (79 + 220 * i) (1050 + 1200 * i) := by
  intro G g J j F O T t M k V v H locs ls hs hP hD hS hl
  obtain ⟨⟨B, hK, hN, hT⟩, hX, hbl, hfl, hL⟩ := C
  obtain ⟨hx, hb, hml, hown, hts⟩ := id B
  have hA : ∀ q : Nat, s.heap.size ≤ q → lA s q := fun _ h => h
  have hbA : ¬ lA s b := Nat.not_le.mpr hbl
  have v1 : vp_in (nI (3 * i) + 1) L := by rw [nI_1]; exact vp_in_nI (by omega) (by omega)
  have v2 : vp_in (nI (3 * i) + 2) L := by rw [show nI (3 * i) + 2 = nI (3 * i + 2) from nI_add _ 2]; exact vp_in_nI (by omega) (by omega)
  rcases op_land hs (xs (Int32.toNatClampNeg (nI (3 * i) + 1))) (xs (Int32.toNatClampNeg (nI (3 * i) + 2))) with ⟨r, k', e1, e2, e3, hs2⟩ | ⟨E1, c1, bb, k', hc, e1, e2, e3, hs2⟩
  · refine lv_aload_n hx hb dL_law_568 rfl (lv_at hl 1 rfl) ?_
    refine lv_aload_n hx hb dL_law_569 rfl (lv_at hl 0 rfl) ?_
    refine lv_iload hx hb dL_law_570 (lv_at hl 4 rfl) ?_
    refine lv_iconst (v := 1) hx hb dL_law_572 (by decide) ?_
    refine lv_iadd hx hb dL_law_573 ?_
    refine va_sld hx hb hX hbl hbA hS v1 dL_law_574 ?_
    refine lv_aload_n hx hb dL_law_575 rfl (lv_at hl 0 rfl) ?_
    refine lv_iload hx hb dL_law_576 (lv_at hl 4 rfl) ?_
    refine lv_iconst (v := 2) hx hb dL_law_578 (by decide) ?_
    refine lv_iadd hx hb dL_law_579 ?_
    refine va_sld hx hb hX hbl hbA hS v2 dL_law_580 ?_
    refine lv_aload_n hx hb dL_law_581 rfl (lv_at hl 3 rfl) ?_
    refine kHs (As := [.ref (x 0), .int (xs (Int32.toNatClampNeg (nI (3 * i) + 1))), .int (xs (Int32.toNatClampNeg (nI (3 * i) + 2))), .ref oA]) (rest := []) B hK hN hT hP hD hS hA (c_L_land l hfl D cI cJ a b2 x G g J j F (xs (Int32.toNatClampNeg (nI (3 * i) + 1))) (xs (Int32.toNatClampNeg (nI (3 * i) + 2))) _ oA O 0 (XW cI cJ a b2 x oA G g J j F (vp_updL O 0 r.toInt64) (MW cI q u o T t M k V v [])) (MW cI q u o T t M k V v []) e1 (show _ ∧ _ from ⟨rfl, rfl⟩)) (vx_cwSW 4 hts gL_law_L_land rfl rfl rfl (by decide +kernel) ⟨(Nat.le_of_ble_eq_true rfl), (Nat.le_of_ble_eq_true rfl)⟩) rfl hl.1 rfl (Nat.le_of_ble_eq_true rfl) dL_law_582 ⟨by dsimp only [room_1]; omega, by dsimp only [room_1]; omega⟩ rfl (fun H locs hP hD hS => ?_)
    refine lv_istore (lv' := [(5, .int 0), (0, .ref b), (1, .ref (x 0)), (2, .ref (o 0)), (3, .ref oA), (4, .int (nI (3 * i)))]) hx hb dL_law_585 hl (by decide) rfl (fun ls hl => ?_)
    have hP : va_P D vwCl (MW cI q u o T t M k V v (XW cI cJ a b2 x oA G g J j F (vp_updL O 0 r.toInt64) [])) H := P_perm pmL hP
    have hD : va_D (lA s) (MW cI q u o T t M k V v (XW cI cJ a b2 x oA G g J j F (vp_updL O 0 r.toInt64) [])) := D_perm pmL hD
    refine lv_aload_n hx hb dL_law_587 rfl (lv_at hl 3 rfl) ?_
    refine lv_aload_n hx hb dL_law_588 rfl (lv_at hl 1 rfl) ?_
    refine lv_iload hx hb dL_law_589 (lv_at hl 5 rfl) ?_
    refine lv_iconst (v := 1) hx hb dL_law_591 (by decide) ?_
    refine lv_iadd hx hb dL_law_592 ?_
    refine va_sld hx hb hX hbl hbA hS v1 dL_law_593 ?_
    refine lv_aload_n hx hb dL_law_594 rfl (lv_at hl 1 rfl) ?_
    refine lv_iload hx hb dL_law_595 (lv_at hl 5 rfl) ?_
    refine lv_iconst (v := 2) hx hb dL_law_597 (by decide) ?_
    refine lv_iadd hx hb dL_law_598 ?_
    refine va_sld hx hb hX hbl hbA hS v2 dL_law_599 ?_
    refine kVi (As := [.int (xs (Int32.toNatClampNeg (nI (3 * i) + 1))), .int (xs (Int32.toNatClampNeg (nI (3 * i) + 2)))]) (rest := []) B hK hN hP hD hS hA (c_X7_land l D cI cJ q u o T t M k V v (xs (Int32.toNatClampNeg (nI (3 * i) + 1))) (xs (Int32.toNatClampNeg (nI (3 * i) + 2))) r k' (XW cI cJ a b2 x oA G g J j F (vp_updL O 0 r.toInt64) []) e2) (cwV 2 hts gL_law_X7_land rfl rfl rfl (by decide +kernel) ⟨(Nat.le_of_ble_eq_true rfl), (Nat.le_of_ble_eq_true rfl)⟩) 10 5 rfl rfl rfl hl.1 rfl (Nat.le_of_ble_eq_true rfl) dL_law_600 ⟨by dsimp only [room_1]; omega, by dsimp only [room_1]; omega⟩ rfl (fun H locs hP hD hS => ?_)
    refine lv_istore (lv' := [(6, .int r), (5, .int 0), (0, .ref b), (1, .ref (x 0)), (2, .ref (o 0)), (3, .ref oA), (4, .int (nI (3 * i)))]) hx hb dL_law_603 hl (by decide) rfl (fun ls hl => ?_)
    refine lv_aload_n hx hb dL_law_605 rfl (lv_at hl 4 rfl) ?_
    refine kVi (As := []) (rest := []) (r := 0) B hK hN hP hD hS hA (c_X7_thrown l D cI cJ q u o T t M k' V v (XW cI cJ a b2 x oA G g J j F (vp_updL O 0 r.toInt64) []) _ e3) (cwV 0 hts gL_law_X7_thrown rfl rfl rfl (by decide +kernel) ⟨(Nat.le_of_ble_eq_true rfl), (Nat.le_of_ble_eq_true rfl)⟩) 10 5 rfl rfl rfl hl.1 rfl (Nat.le_of_ble_eq_true rfl) dL_law_606 ⟨by dsimp only [room_1]; omega, by dsimp only [room_1]; omega⟩ rfl (fun H locs hP hD hS => ?_)
    refine lv_iload hx hb dL_law_609 (lv_at hl 1 rfl) ?_
    refine lv_icmp_eq (tgt := 616) hx hb dL_law_611 (by decide) (fun _ => ?_) (fun h => absurd rfl h)
    refine lv_iload hx hb dL_law_616 (lv_at hl 1 rfl) ?_
    refine lv_if_ne (tgt := 633) hx hb dL_law_618 (by decide) (fun h => absurd rfl h) (fun _ => ?_)
    refine lv_aload_n hx hb dL_law_621 rfl (lv_at hl 5 rfl) ?_
    refine lv_iconst (v := 0) hx hb dL_law_622 (by decide) ?_
    refine va_lald hx hb hK hP 78 1 rfl rfl (vp_in_nI (n := 0) (by decide) (by decide)) dL_law_623 ?_
    refine lv_iload hx hb dL_law_624 (lv_at hl 0 rfl) ?_
    refine lv_i2l hx hb dL_law_626 rfl ?_
    refine lcmpE hx hb dL_law_627 ?_
    refine lv_if_eq (tgt := 633) hx hb dL_law_628 (by decide) (fun _ => ?_) (fun h => absurd rfl h)
    refine lv_goto (tgt := 1188) hx hb dL_law_633 (by decide) ?_
    refine W.widen (k := 79 + 220 * (i + 1)) (n := 1050 + 1200 * (i + 1)) (by dsimp only; omega) (by dsimp only; omega) ?_
    exact tail G g J j F (vp_updL O 0 r.toInt64) T t M k' V v _ _ _ hs2 (P_perm pmL.symm hP) (D_perm pmL.symm hD) hS (lv_sub hl [2, 3, 4, 5, 6] rfl)
  · have hc0 : ¬ c1 = 0 := by rw [hc.2]; decide
    refine lv_aload_n hx hb dL_law_568 rfl (lv_at hl 1 rfl) ?_
    refine lv_aload_n hx hb dL_law_569 rfl (lv_at hl 0 rfl) ?_
    refine lv_iload hx hb dL_law_570 (lv_at hl 4 rfl) ?_
    refine lv_iconst (v := 1) hx hb dL_law_572 (by decide) ?_
    refine lv_iadd hx hb dL_law_573 ?_
    refine va_sld hx hb hX hbl hbA hS v1 dL_law_574 ?_
    refine lv_aload_n hx hb dL_law_575 rfl (lv_at hl 0 rfl) ?_
    refine lv_iload hx hb dL_law_576 (lv_at hl 4 rfl) ?_
    refine lv_iconst (v := 2) hx hb dL_law_578 (by decide) ?_
    refine lv_iadd hx hb dL_law_579 ?_
    refine va_sld hx hb hX hbl hbA hS v2 dL_law_580 ?_
    refine lv_aload_n hx hb dL_law_581 rfl (lv_at hl 3 rfl) ?_
    refine kHs (As := [.ref (x 0), .int (xs (Int32.toNatClampNeg (nI (3 * i) + 1))), .int (xs (Int32.toNatClampNeg (nI (3 * i) + 2))), .ref oA]) (rest := []) B hK hN hT hP hD hS hA (c_L_land l hfl D cI cJ a b2 x G g J j F (xs (Int32.toNatClampNeg (nI (3 * i) + 1))) (xs (Int32.toNatClampNeg (nI (3 * i) + 2))) _ oA O c1 (XW cI cJ a b2 x oA G g J j F O (MW cI q u o T t M k V v [])) (MW cI q u o T t M k V v []) e1 (show _ ∧ _ from ⟨hc, rfl⟩)) (vx_cwSW 4 hts gL_law_L_land rfl rfl rfl (by decide +kernel) ⟨(Nat.le_of_ble_eq_true rfl), (Nat.le_of_ble_eq_true rfl)⟩) rfl hl.1 rfl (Nat.le_of_ble_eq_true rfl) dL_law_582 ⟨by dsimp only [room_1]; omega, by dsimp only [room_1]; omega⟩ rfl (fun H locs hP hD hS => ?_)
    refine lv_istore (lv' := [(5, .int c1), (0, .ref b), (1, .ref (x 0)), (2, .ref (o 0)), (3, .ref oA), (4, .int (nI (3 * i)))]) hx hb dL_law_585 hl (by decide) rfl (fun ls hl => ?_)
    have hP : va_P D vwCl (MW cI q u o T t M k V v (XW cI cJ a b2 x oA G g J j F O [])) H := P_perm pmL hP
    have hD : va_D (lA s) (MW cI q u o T t M k V v (XW cI cJ a b2 x oA G g J j F O [])) := D_perm pmL hD
    refine lv_aload_n hx hb dL_law_587 rfl (lv_at hl 3 rfl) ?_
    refine lv_aload_n hx hb dL_law_588 rfl (lv_at hl 1 rfl) ?_
    refine lv_iload hx hb dL_law_589 (lv_at hl 5 rfl) ?_
    refine lv_iconst (v := 1) hx hb dL_law_591 (by decide) ?_
    refine lv_iadd hx hb dL_law_592 ?_
    refine va_sld hx hb hX hbl hbA hS v1 dL_law_593 ?_
    refine lv_aload_n hx hb dL_law_594 rfl (lv_at hl 1 rfl) ?_
    refine lv_iload hx hb dL_law_595 (lv_at hl 5 rfl) ?_
    refine lv_iconst (v := 2) hx hb dL_law_597 (by decide) ?_
    refine lv_iadd hx hb dL_law_598 ?_
    refine va_sld hx hb hX hbl hbA hS v2 dL_law_599 ?_
    refine kVi (As := [.int (xs (Int32.toNatClampNeg (nI (3 * i) + 1))), .int (xs (Int32.toNatClampNeg (nI (3 * i) + 2)))]) (rest := []) B hK hN hP hD hS hA (c_X7_land l D cI cJ q u o T t M k V v (xs (Int32.toNatClampNeg (nI (3 * i) + 1))) (xs (Int32.toNatClampNeg (nI (3 * i) + 2))) bb k' (XW cI cJ a b2 x oA G g J j F O []) e2) (cwV 2 hts gL_law_X7_land rfl rfl rfl (by decide +kernel) ⟨(Nat.le_of_ble_eq_true rfl), (Nat.le_of_ble_eq_true rfl)⟩) 10 5 rfl rfl rfl hl.1 rfl (Nat.le_of_ble_eq_true rfl) dL_law_600 ⟨by dsimp only [room_1]; omega, by dsimp only [room_1]; omega⟩ rfl (fun H locs hP hD hS => ?_)
    refine lv_istore (lv' := [(6, .int bb), (5, .int c1), (0, .ref b), (1, .ref (x 0)), (2, .ref (o 0)), (3, .ref oA), (4, .int (nI (3 * i)))]) hx hb dL_law_603 hl (by decide) rfl (fun ls hl => ?_)
    refine lv_aload_n hx hb dL_law_605 rfl (lv_at hl 4 rfl) ?_
    refine kVi (As := []) (rest := []) (r := c1) B hK hN hP hD hS hA (c_X7_thrown l D cI cJ q u o T t M k' V v (XW cI cJ a b2 x oA G g J j F O []) _ e3) (cwV 0 hts gL_law_X7_thrown rfl rfl rfl (by decide +kernel) ⟨(Nat.le_of_ble_eq_true rfl), (Nat.le_of_ble_eq_true rfl)⟩) 10 5 rfl rfl rfl hl.1 rfl (Nat.le_of_ble_eq_true rfl) dL_law_606 ⟨by dsimp only [room_1]; omega, by dsimp only [room_1]; omega⟩ rfl (fun H locs hP hD hS => ?_)
    refine lv_iload hx hb dL_law_609 (lv_at hl 1 rfl) ?_
    refine lv_icmp_eq (tgt := 616) hx hb dL_law_611 (by decide) (fun _ => ?_) (fun h => absurd rfl h)
    refine lv_iload hx hb dL_law_616 (lv_at hl 1 rfl) ?_
    refine lv_if_ne (tgt := 633) hx hb dL_law_618 (by decide) (fun _ => ?_) (fun h => absurd h hc0)
    refine lv_goto (tgt := 1188) hx hb dL_law_633 (by decide) ?_
    refine W.widen (k := 79 + 220 * (i + 1)) (n := 1050 + 1200 * (i + 1)) (by dsimp only; omega) (by dsimp only; omega) ?_
    exact tail G g J j F O T t M k' V v _ _ _ hs2 (P_perm pmL.symm hP) (D_perm pmL.symm hD) hS (lv_sub hl [2, 3, 4, 5, 6] rfl)
