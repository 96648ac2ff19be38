/-! the law's entry: what the tables and the premises give -/
theorem st_nestF : ∀ q ∈ nestF, Cond.fieldLinkNest q.1 q.2.1 q.2.2.1 q.2.2.2.1 q.2.2.2.2.1 q.2.2.2.2.2 ∈ lw_tbl := by decide +kernel
theorem st_nestM : ∀ q ∈ nestM, Cond.methodLinkNest q.1 q.2.1 q.2.2.1 q.2.2.2 ∈ lw_tbl := by decide +kernel
theorem st_NN {args : Array Value} {s : State} (hts : ∀ w ∈ lw_tbl, w.before args s = true) : NN s := ⟨fun q hq => va_Nw.of rfl (hts _ (st_nestF q hq)), fun q hq => va_Nw.of rfl (hts _ (st_nestM q hq))⟩
theorem st_str : ∀ q ∈ strL, Cond.stringRef RX5 q.1 q.2 ∈ lw_tbl := by decide +kernel
theorem st_cast : ∀ E ∈ exL, Cond.castable E E ∈ lw_tbl := by decide +kernel
theorem st_dec : ∀ y ∈ dcL, Cond.declares y ∈ lw_tbl := by decide +kernel
theorem st_ex {args : Array Value} {s : State} (h : (Jvm.Cond.and given_1 narrow_1).before args s = true) : ∀ q ∈ strL, (Cond.exactly (Term.string RX5 q.1) "java/lang/String").before args s = true := by
  have hs := flat_of_before _ h
  have h0 : (Cond.exactly (Term.string RX5 34) "java/lang/String").before args s = true := hs _ (by decide +kernel)
  have h1 : (Cond.exactly (Term.string RX5 39) "java/lang/String").before args s = true := hs _ (by decide +kernel)
  have h2 : (Cond.exactly (Term.string RX5 53) "java/lang/String").before args s = true := hs _ (by decide +kernel)
  have h3 : (Cond.exactly (Term.string RX5 62) "java/lang/String").before args s = true := hs _ (by decide +kernel)
  have h4 : (Cond.exactly (Term.string RX5 65) "java/lang/String").before args s = true := hs _ (by decide +kernel)
  have h5 : (Cond.exactly (Term.string RX5 82) "java/lang/String").before args s = true := hs _ (by decide +kernel)
  have h6 : (Cond.exactly (Term.string RX5 84) "java/lang/String").before args s = true := hs _ (by decide +kernel)
  have h7 : (Cond.exactly (Term.string RX5 93) "java/lang/String").before args s = true := hs _ (by decide +kernel)
  have h8 : (Cond.exactly (Term.string RX5 105) "java/lang/String").before args s = true := hs _ (by decide +kernel)
  have h9 : (Cond.exactly (Term.string RX5 110) "java/lang/String").before args s = true := hs _ (by decide +kernel)
  have h10 : (Cond.exactly (Term.string RX5 115) "java/lang/String").before args s = true := hs _ (by decide +kernel)
  have h11 : (Cond.exactly (Term.string RX5 117) "java/lang/String").before args s = true := hs _ (by decide +kernel)
  have h12 : (Cond.exactly (Term.string RX5 128) "java/lang/String").before args s = true := hs _ (by decide +kernel)
  have h13 : (Cond.exactly (Term.string RX5 144) "java/lang/String").before args s = true := hs _ (by decide +kernel)
  have h14 : (Cond.exactly (Term.string RX5 148) "java/lang/String").before args s = true := hs _ (by decide +kernel)
  have h15 : (Cond.exactly (Term.string RX5 159) "java/lang/String").before args s = true := hs _ (by decide +kernel)
  have h16 : (Cond.exactly (Term.string RX5 178) "java/lang/String").before args s = true := hs _ (by decide +kernel)
  exact List.forall_mem_cons.mpr ⟨h0, List.forall_mem_cons.mpr ⟨h1, List.forall_mem_cons.mpr ⟨h2, List.forall_mem_cons.mpr ⟨h3, List.forall_mem_cons.mpr ⟨h4, List.forall_mem_cons.mpr ⟨h5, List.forall_mem_cons.mpr ⟨h6, List.forall_mem_cons.mpr ⟨h7, List.forall_mem_cons.mpr ⟨h8, List.forall_mem_cons.mpr ⟨h9, List.forall_mem_cons.mpr ⟨h10, List.forall_mem_cons.mpr ⟨h11, List.forall_mem_cons.mpr ⟨h12, List.forall_mem_cons.mpr ⟨h13, List.forall_mem_cons.mpr ⟨h14, List.forall_mem_cons.mpr ⟨h15, List.forall_mem_cons.mpr ⟨h16, fun _ h => absurd h List.not_mem_nil⟩⟩⟩⟩⟩⟩⟩⟩⟩⟩⟩⟩⟩⟩⟩⟩⟩
theorem st_nc {args : Array Value} {s : State} (h : (Jvm.Cond.and given_1 narrow_1).before args s = true) : ∀ q ∈ ncL, va_Nc q.1 q.2 s := by
  have hs := flat_of_before _ h
  have h0 : va_Nc "java/lang/IllegalStateException" "java/lang/IllegalArgumentException" s := va_Nc.of (args := args) (hs (Cond.not (.castable "java/lang/IllegalStateException" "java/lang/IllegalArgumentException")) (by decide +kernel))
  have h1 : va_Nc "java/lang/IndexOutOfBoundsException" "java/lang/IllegalArgumentException" s := va_Nc.of (args := args) (hs (Cond.not (.castable "java/lang/IndexOutOfBoundsException" "java/lang/IllegalArgumentException")) (by decide +kernel))
  have h2 : va_Nc "java/lang/IllegalArgumentException" "java/lang/IllegalStateException" s := va_Nc.of (args := args) (hs (Cond.not (.castable "java/lang/IllegalArgumentException" "java/lang/IllegalStateException")) (by decide +kernel))
  have h3 : va_Nc "java/lang/IndexOutOfBoundsException" "java/lang/IllegalStateException" s := va_Nc.of (args := args) (hs (Cond.not (.castable "java/lang/IndexOutOfBoundsException" "java/lang/IllegalStateException")) (by decide +kernel))
  have h4 : va_Nc "java/lang/IllegalArgumentException" "java/lang/IndexOutOfBoundsException" s := va_Nc.of (args := args) (hs (Cond.not (.castable "java/lang/IllegalArgumentException" "java/lang/IndexOutOfBoundsException")) (by decide +kernel))
  have h5 : va_Nc "java/lang/IllegalStateException" "java/lang/IndexOutOfBoundsException" s := va_Nc.of (args := args) (hs (Cond.not (.castable "java/lang/IllegalStateException" "java/lang/IndexOutOfBoundsException")) (by decide +kernel))
  exact List.forall_mem_cons.mpr ⟨h0, List.forall_mem_cons.mpr ⟨h1, List.forall_mem_cons.mpr ⟨h2, List.forall_mem_cons.mpr ⟨h3, List.forall_mem_cons.mpr ⟨h4, List.forall_mem_cons.mpr ⟨h5, fun _ h => absurd h List.not_mem_nil⟩⟩⟩⟩⟩⟩
theorem st_TX {args : Array Value} {s : State} (hts : ∀ w ∈ lw_tbl, w.before args s = true) (h : (Jvm.Cond.and given_1 narrow_1).before args s = true) : TX (lA s) s := by
  have hs := flat_of_before _ h
  have hA : ∀ a : Nat, a < s.heap.size → ¬ lA s a := fun a h q => absurd h (Nat.not_lt.mpr q)
  refine ⟨vx_Zqof (args := args) (hts _ (by decide +kernel)) (hts _ (by decide +kernel)) (hs _ (by decide +kernel)) hA, vx_Zqof (args := args) (hts _ (by decide +kernel)) (hts _ (by decide +kernel)) (hs _ (by decide +kernel)) hA, fun q hq => ?_, fun E hE => va_Nw.of rfl (hts _ (st_cast E hE)), st_nc h, fun y hy => va_Nw.of rfl (hts _ (st_dec y hy))⟩
  obtain ⟨a, c, cell, k, q1, -⟩ := Cond.exactly_spec (st_ex h q hq)
  exact ⟨a, vk_R.of (A := args) (hts _ (st_str q hq)) q1⟩
theorem st_wJ0 : (∀ w ∈ u_ws RJ0 TJ0 4, w ∈ lw_tbl) ∧ Cond.instantiable RJ0 4 ∈ lw_tbl := ⟨by decide +kernel, by decide +kernel⟩
theorem st_wJ4 : (∀ w ∈ u_ws RJ4 TJ4 4, w ∈ lw_tbl) ∧ Cond.instantiable RJ4 4 ∈ lw_tbl := ⟨by decide +kernel, by decide +kernel⟩
theorem st_wJx00060 : (∀ w ∈ u_ws RJx00060 TJx00060 6, w ∈ lw_tbl) ∧ Cond.instantiable RJx00060 6 ∈ lw_tbl := ⟨by decide +kernel, by decide +kernel⟩
theorem st_wX0 : (∀ w ∈ u_ws RX0 TX0 6, w ∈ lw_tbl) ∧ Cond.instantiable RX0 6 ∈ lw_tbl := ⟨by decide +kernel, by decide +kernel⟩
theorem st_wX1 : (∀ w ∈ u_ws RX1 TX1 1, w ∈ lw_tbl) ∧ Cond.instantiable RX1 1 ∈ lw_tbl := ⟨by decide +kernel, by decide +kernel⟩
theorem st_wX2 : (∀ w ∈ u_ws RX2 TX2 1, w ∈ lw_tbl) ∧ Cond.instantiable RX2 1 ∈ lw_tbl := ⟨by decide +kernel, by decide +kernel⟩
theorem st_wX3 : (∀ w ∈ u_ws RX3 TX3 9, w ∈ lw_tbl) ∧ Cond.instantiable RX3 9 ∈ lw_tbl := ⟨by decide +kernel, by decide +kernel⟩
theorem st_wX4 : (∀ w ∈ u_ws RX4 TX4 6, w ∈ lw_tbl) ∧ Cond.instantiable RX4 6 ∈ lw_tbl := ⟨by decide +kernel, by decide +kernel⟩
theorem st_wX5 : (∀ w ∈ u_ws RX5 TX5 3, w ∈ lw_tbl) ∧ Cond.instantiable RX5 3 ∈ lw_tbl := ⟨by decide +kernel, by decide +kernel⟩
theorem st_wX6 : (∀ w ∈ u_ws RX6 TX6 8, w ∈ lw_tbl) ∧ Cond.instantiable RX6 8 ∈ lw_tbl := ⟨by decide +kernel, by decide +kernel⟩
theorem st_wX7 : (∀ w ∈ u_ws RX7 TX7 15, w ∈ lw_tbl) ∧ Cond.instantiable RX7 15 ∈ lw_tbl := ⟨by decide +kernel, by decide +kernel⟩
theorem st_arr {args : Array Value} {s : State} {ty : FieldType} (h : (Cond.arrayClass ty).before args s = true) : ∃ cA : ClassId, ArrOfT s cA ty ∧ s.vm.findClass ("[" ++ ty.toString) = some cA := by
  obtain ⟨cA, kA, comp, h1, h2, h3⟩ := Cond.arrayClass_spec h
  exact ⟨cA, fun n z => ⟨fun k h => (by cases h), kA, h2, comp, h3⟩, h1⟩
theorem st_K {args : Array Value} {s : State} (hts : ∀ w ∈ lw_tbl, w.before args s = true) : ∃ (D : va_G) (cI cJ : ClassId), va_K D vwCl (tyL cI cJ) s := by
  obtain ⟨c0, i0, k0⟩ := u_known hts st_wJ0.1 (hts _ st_wJ0.2)
  obtain ⟨c1, i1, k1⟩ := u_known hts st_wJ4.1 (hts _ st_wJ4.2)
  obtain ⟨c2, i2, k2⟩ := u_known hts st_wJx00060.1 (hts _ st_wJx00060.2)
  obtain ⟨c3, i3, k3⟩ := u_known hts st_wX0.1 (hts _ st_wX0.2)
  obtain ⟨c4, i4, k4⟩ := u_known hts st_wX1.1 (hts _ st_wX1.2)
  obtain ⟨c5, i5, k5⟩ := u_known hts st_wX2.1 (hts _ st_wX2.2)
  obtain ⟨c6, i6, k6⟩ := u_known hts st_wX3.1 (hts _ st_wX3.2)
  obtain ⟨c7, i7, k7⟩ := u_known hts st_wX4.1 (hts _ st_wX4.2)
  obtain ⟨c8, i8, k8⟩ := u_known hts st_wX5.1 (hts _ st_wX5.2)
  obtain ⟨c9, i9, k9⟩ := u_known hts st_wX6.1 (hts _ st_wX6.2)
  obtain ⟨c10, i10, k10⟩ := u_known hts st_wX7.1 (hts _ st_wX7.2)
  obtain ⟨cI, a1, a2⟩ := st_arr (hts (.arrayClass .int) (by decide +kernel))
  obtain ⟨cJ, b1, b2⟩ := st_arr (hts (.arrayClass .long) (by decide +kernel))
  refine ⟨(fun n => match n with | 0 => c0 | 1 => c1 | 2 => c2 | 3 => c3 | 4 => c4 | 5 => c5 | 6 => c6 | 7 => c7 | 8 => c8 | 9 => c9 | _ => c10, fun n => match n with | 0 => i0 | 1 => i1 | 2 => i2 | 3 => i3 | 4 => i4 | 5 => i5 | 6 => i6 | 7 => i7 | 8 => i8 | 9 => i9 | _ => i10), cI, cJ, fun n q hq => ?_, fun n q hq => ?_⟩
  · have hn : n < 11 := (List.getElem?_eq_some_iff.mp hq).1
    rcases (show n = 0 ∨ n = 1 ∨ n = 2 ∨ n = 3 ∨ n = 4 ∨ n = 5 ∨ n = 6 ∨ n = 7 ∨ n = 8 ∨ n = 9 ∨ n = 10 by omega) with h | h | h | h | h | h | h | h | h | h | h <;> subst h <;> cases hq <;> assumption
  · have hn : n < 2 := (List.getElem?_eq_some_iff.mp hq).1
    rcases (show n = 0 ∨ n = 1 by omega) with h | h <;> subst h <;> cases hq
    · exact ⟨a1, a2⟩
    · exact ⟨b1, b2⟩
theorem pmS {A B C D E F : va_W} {e : Nat × va_E} : List.Perm ((D ++ (E ++ (F ++ (A ++ (B ++ (C ++ [])))))) ++ [e]) (A ++ (B ++ (C ++ (e :: (D ++ (E ++ (F ++ []))))))) := by
  have h : List.Perm ((D ++ (E ++ F)) ++ (A ++ (B ++ (C ++ [e])))) ((A ++ (B ++ (C ++ [e]))) ++ (D ++ (E ++ F))) := List.perm_append_comm
  simpa [List.append_assoc] using h
/-! the first state -/
theorem SIM_0 : SIM 0 Gz gz Gz Gz Gz gz Gz (fun _ => 0) := by
  refine ⟨0, 0, 0, 0, ⟨⟨rfl, rfl, rfl⟩, ⟨by omega, fun j hj => absurd hj (Nat.not_lt_zero j), fun j _ => rfl⟩, fun j _ => ⟨0, by omega, rfl⟩, ⟨by omega, fun w hw => absurd hw (Nat.not_lt_zero w), fun w hw => absurd hw (Nat.not_lt_zero w), fun w _ => rfl⟩, ⟨fun _ => 0, fun p _ => rfl, fun p _ _ => rfl, fun j _ => by show 0 + 0 + 0 + 0 + 0 ≤ 0; omega⟩⟩, ⟨⟨rfl, rfl, rfl, rfl⟩, ⟨rfl, rfl, rfl, rfl, rfl, rfl, rfl, rfl⟩, ⟨rfl, rfl, rfl⟩, ⟨rfl, rfl, rfl, rfl⟩⟩, fun k _ j _ => rfl, fun k _ j _ => rfl, ⟨fun j _ => rfl, fun j _ => rfl, fun j _ => rfl, fun j _ => rfl⟩, by omega, by omega⟩
/-! the loop -/
set_option maxHeartbeats 4000000 in
set_option maxRecDepth 100000 in
theorem law_loop {p : Program} {l : Launch} {e : Env} {s : State} {m : MethodId} {below : List Frame} {meth : Method} {c : Code} {b L : Nat} {xs : Nat → Int32} {D : va_G} {cI cJ : ClassId} (C : LC p l s m meth c b L xs D cI cJ) (hr : meth.sig.returnType = ret) (hlocks : meth.locks = false) {a b2 x q u o : Nat → Nat} {oA : Nat} : ∀ (n i : Nat), L + 1 ≤ 3 * i + 3 * n → i ≤ 512 → LQt p l e s m below meth c b D cI cJ a b2 x q u o oA i i 23 (79 + 220 * i) (1050 + 1200 * i) := by
  intro n
  induction n with
  | zero =>
    intro i h1 h2 G g J j F O T t M k V v H locs ls hs hP hD hS hl
    obtain ⟨⟨B, hK, hN, hT⟩, hX, hbl, hfl, hL⟩ := id C
    obtain ⟨hx, hb, hml, hown, hts⟩ := id B
    have hbA : ¬ lA s b := Nat.not_le.mpr hbl
    refine lv_iload hx hb dL_law_23 (lv_at hl 4 rfl) ?_
    refine lv_aload_n hx hb dL_law_25 rfl (lv_at hl 0 rfl) ?_
    refine va_slen hx hb hX hbl hbA hS dL_law_26 ?_
    refine lv_iconst (v := 3) hx hb dL_law_27 (by decide) ?_
    refine lv_isub hx hb dL_law_28 ?_
    have hgt : L < 3 * i + 3 → nI L - 3 < nI (3 * i) := fun hlt => by
      rw [show (3 : Int32) = nI 3 from rfl]
      by_cases c3 : 3 ≤ L
      · rw [pk_sub c3]; exact nI_lt (by omega) (by omega)
      · exact Int32.lt_of_lt_of_le (pk_sneg (by omega) (by omega)) (nI_pos' (by omega))
    refine lv_icmp_gt (tgt := 1194) hx hb dL_law_29 (by decide) (fun _ => ?_) (fun h => absurd (hgt (by omega)) h)
    refine lv_iconst (v := 1) hx hb dL_law_1194 (by decide) ?_
    refine va_forget (fun q hq => hS.2.2 q hq) ?_
    refine W.widen (k := 601024) (n := 7293034) (by omega) (by omega) ?_
    refine W.base ?_
    exact lw_ret (Drawn.sameBut.refl s.drawn lw_cs) hx hb hr hlocks dL_law_1195
  | succ n ih =>
    intro i h1 h2 G g J j F O T t M k V v H locs ls hs hP hD hS hl
    obtain ⟨⟨B, hK, hN, hT⟩, hX, hbl, hfl, hL⟩ := id C
    obtain ⟨hx, hb, hml, hown, hts⟩ := id B
    have hbA : ¬ lA s b := Nat.not_le.mpr hbl
    refine lv_iload hx hb dL_law_23 (lv_at hl 4 rfl) ?_
    refine lv_aload_n hx hb dL_law_25 rfl (lv_at hl 0 rfl) ?_
    refine va_slen hx hb hX hbl hbA hS dL_law_26 ?_
    refine lv_iconst (v := 3) hx hb dL_law_27 (by decide) ?_
    refine lv_isub hx hb dL_law_28 ?_
    have hgt : L < 3 * i + 3 → nI L - 3 < nI (3 * i) := fun hlt => by
      rw [show (3 : Int32) = nI 3 from rfl]
      by_cases c3 : 3 ≤ L
      · rw [pk_sub c3]; exact nI_lt (by omega) (by omega)
      · exact Int32.lt_of_lt_of_le (pk_sneg (by omega) (by omega)) (nI_pos' (by omega))
    refine lv_icmp_gt (tgt := 1194) hx hb dL_law_29 (by decide) (fun _ => ?_) (fun h => ?_)
    · refine lv_iconst (v := 1) hx hb dL_law_1194 (by decide) ?_
      refine va_forget (fun q hq => hS.2.2 q hq) ?_
      refine W.widen (k := 601024) (n := 7293034) (by omega) (by omega) ?_
      refine W.base ?_
      exact lw_ret (Drawn.sameBut.refl s.drawn lw_cs) hx hb hr hlocks dL_law_1195
    · have hi : 3 * i + 3 ≤ L := Nat.not_lt.mp fun q => h (hgt q)
      have tail : LQt p l e s m below meth c b D cI cJ a b2 x q u o oA (i + 1) i 1188 (79 + 220 * (i + 1)) (1050 + 1200 * (i + 1)) := by
        intro G g J j F O T t M k V v H locs ls hs hP hD hS hl
        refine lv_iinc (v := nI (3 * (i + 1))) (lv' := [(4, .int (nI (3 * (i + 1)))), (0, .ref b), (1, .ref (x 0)), (2, .ref (o 0)), (3, .ref oA)]) hx hb dL_law_1188 hl (k := 4) rfl (by show nI (3 * i) + nI 3 = _; rw [nI_add, show 3 * (i + 1) = 3 * i + 3 by omega]) (by decide) rfl (fun ls hl => ?_)
        refine lv_goto (tgt := 23) hx hb dL_law_1191 (by decide) ?_
        exact ih (i + 1) (by omega) (by omega) G g J j F O T t M k V v H locs ls hs hP hD hS (lv_sub hl [1, 2, 3, 4, 0] rfl)
      refine lv_aload_n hx hb dL_law_32 rfl (lv_at hl 0 rfl) ?_
      refine lv_iload hx hb dL_law_33 (lv_at hl 4 rfl) ?_
      refine va_sld hx hb hX hbl hbA hS (vp_in_nI (by omega) (by omega)) dL_law_35 ?_
      refine lv_bipush (v := 31) hx hb dL_law_36 (by decide) ?_
      refine lv_iand hx hb dL_law_38 ?_
      obtain ⟨w, hw, ew⟩ := pk_andE (xs (Int32.toNatClampNeg (nI (3 * i)))) (m := 31) 5 (by decide)
      rw [ew]
      rcases (show w = 0 ∨ w = 1 ∨ w = 2 ∨ w = 3 ∨ w = 4 ∨ w = 5 ∨ w = 6 ∨ w = 7 ∨ w = 8 ∨ w = 9 ∨ w = 10 ∨ w = 11 ∨ w = 12 ∨ w = 13 ∨ w = 14 ∨ w = 15 ∨ w = 16 ∨ w = 17 ∨ w = 18 ∨ 19 ≤ w by omega) with hw1 | hw1 | hw1 | hw1 | hw1 | hw1 | hw1 | hw1 | hw1 | hw1 | hw1 | hw1 | hw1 | hw1 | hw1 | hw1 | hw1 | hw1 | hw1 | hw1
      · subst hw1
        refine lv_tableIn (tgt := 128) hx hb dL_law_39 (by decide) (by decide) rfl (by decide) ?_
        exact case_addLand C hi tail G g J j F O T t M k V v H locs ls hs hP hD hS hl
      · subst hw1
        refine lv_tableIn (tgt := 196) hx hb dL_law_39 (by decide) (by decide) rfl (by decide) ?_
        exact case_setTide C hi tail G g J j F O T t M k V v H locs ls hs hP hD hS hl
      · subst hw1
        refine lv_tableIn (tgt := 264) hx hb dL_law_39 (by decide) (by decide) rfl (by decide) ?_
        exact case_wish C hi tail G g J j F O T t M k V v H locs ls hs hP hD hS hl
      · subst hw1
        refine lv_tableIn (tgt := 332) hx hb dL_law_39 (by decide) (by decide) rfl (by decide) ?_
        exact case_withdraw C hi tail G g J j F O T t M k V v H locs ls hs hP hD hS hl
      · subst hw1
        refine lv_tableIn (tgt := 388) hx hb dL_law_39 (by decide) (by decide) rfl (by decide) ?_
        exact case_fish C hi tail G g J j F O T t M k V v H locs ls hs hP hD hS hl
      · subst hw1
        refine lv_tableIn (tgt := 456) hx hb dL_law_39 (by decide) (by decide) rfl (by decide) ?_
        exact case_audit C hi tail G g J j F O T t M k V v H locs ls hs hP hD hS hl
      · subst hw1
        refine lv_tableIn (tgt := 512) hx hb dL_law_39 (by decide) (by decide) rfl (by decide) ?_
        exact case_missing C hi tail G g J j F O T t M k V v H locs ls hs hP hD hS hl
      · subst hw1
        refine lv_tableIn (tgt := 568) hx hb dL_law_39 (by decide) (by decide) rfl (by decide) ?_
        exact case_land C hi tail G g J j F O T t M k V v H locs ls hs hP hD hS hl
      · subst hw1
        refine lv_tableIn (tgt := 636) hx hb dL_law_39 (by decide) (by decide) rfl (by decide) ?_
        exact case_coins C hi tail G g J j F O T t M k V v H locs ls hs hP hD hS hl
      · subst hw1
        refine lv_tableIn (tgt := 704) hx hb dL_law_39 (by decide) (by decide) rfl (by decide) ?_
        exact case_told C hi tail G g J j F O T t M k V v H locs ls hs hP hD hS hl
      · subst hw1
        refine lv_tableIn (tgt := 772) hx hb dL_law_39 (by decide) (by decide) rfl (by decide) ?_
        exact case_count C hi tail G g J j F O T t M k V v H locs ls hs hP hD hS hl
      · subst hw1
        refine lv_tableIn (tgt := 828) hx hb dL_law_39 (by decide) (by decide) rfl (by decide) ?_
        exact case_pass C hi tail G g J j F O T t M k V v H locs ls hs hP hD hS hl
      · subst hw1
        refine lv_tableIn (tgt := 884) hx hb dL_law_39 (by decide) (by decide) rfl (by decide) ?_
        exact case_next C hi tail G g J j F O T t M k V v H locs ls hs hP hD hS hl
      · subst hw1
        refine lv_tableIn (tgt := 940) hx hb dL_law_39 (by decide) (by decide) rfl (by decide) ?_
        exact case_waits C hi tail G g J j F O T t M k V v H locs ls hs hP hD hS hl
      · subst hw1
        refine lv_tableIn (tgt := 996) hx hb dL_law_39 (by decide) (by decide) rfl (by decide) ?_
        exact case_foresee C hi tail G g J j F O T t M k V v H locs ls hs hP hD hS hl
      · subst hw1
        refine lv_tableIn (tgt := 1064) hx hb dL_law_39 (by decide) (by decide) rfl (by decide) ?_
        exact case_richest C hi tail G g J j F O T t M k V v H locs ls hs hP hD hS hl
      · subst hw1
        refine lv_tableIn (tgt := 1077) hx hb dL_law_39 (by decide) (by decide) rfl (by decide) ?_
        exact case_change C hi tail G g J j F O T t M k V v H locs ls hs hP hD hS hl
      · subst hw1
        refine lv_tableIn (tgt := 1133) hx hb dL_law_39 (by decide) (by decide) rfl (by decide) ?_
        exact case_mean C hi tail G g J j F O T t M k V v H locs ls hs hP hD hS hl
      · subst hw1
        refine lv_tableIn (tgt := 1174) hx hb dL_law_39 (by decide) (by decide) rfl (by decide) ?_
        exact case_digest C hi tail G g J j F O T t M k V v H locs ls hs hP hD hS hl
      · refine lv_tableOut (tgt := 1188) hx hb dL_law_39 (Or.inr (by rw [nI_toInt (by omega)]; omega)) (by decide) ?_
        obtain ⟨L0, N0, B0, d0, q1, q2, q3, q4, q5, q6, q7⟩ := hs
        refine W.widen (k := 79 + 220 * (i + 1)) (n := 1050 + 1200 * (i + 1)) (by omega) (by omega) ?_
        exact tail G g J j F O T t M k V v H locs ls ⟨L0, N0, B0, d0, q1, q2, q3, q4, q5, by omega, by omega⟩ hP hD hS hl
set_option maxHeartbeats 4000000 in
set_option maxRecDepth 100000 in
theorem whole_start {p : Program} {e : Env} {s : State} {m : MethodId} {below : List Frame} {meth : Method} {c : Code} (l : Launch) (hflags : l.flags = flags0) {b L : Nat} {xs : Nat → Int32} (hL : L ≤ 1536) (C0 : lw_At p s m meth c b L xs) : W p l e room_1 s m #[Value.ref b] below meth c s.heap [] 0 0 (lw_Z below #[Value.ref b] s) (entryFrame m ([Value.ref b] : List Value).toArray 9) := by
  obtain ⟨hx, hb, hr, hml, hown, hts0, hX, hbl, hlocks, hgv⟩ := C0
  have hts : ∀ w ∈ wsL_law, w.before #[Value.ref b] s = true := fun w h => hts0 w (wsL_law_in w h)
  have hfl : l.stackTraces = false := by
    have := congrArg (fun f => f) hflags
    first | (simp [Launch.stackTraces, hflags, flags0]; done) | (unfold Launch.stackTraces; rw [hflags]; decide) | (show l.flags.stackTraces = false; rw [hflags]; rfl)
  have hN : NN s := st_NN hts0
  have hT : TX (lA s) s := st_TX hts0 hgv
  obtain ⟨D, cI, cJ, hK⟩ := st_K hts0
  have B : CallFix p m c cL_law 9 s #[Value.ref b] wsL_law RL := ⟨hx, hb, hml, hown, hts⟩
  have C : LC p l s m meth c b L xs D cI cJ := ⟨⟨B, hK, hN, hT⟩, hX, hbl, hfl, hL⟩
  have hA : ∀ q : Nat, s.heap.size ≤ q → lA s q := fun _ h => h
  have hS : va_S (lA s) s.heap s.heap [] := va_S.rf
  have hP : va_P D vwCl [] s.heap := fun k q h => (by cases h)
  have hD : va_D (lA s) [] := ⟨fun i j p q h => (by cases h), fun k q h => (by cases h)⟩
  have hl := lv_entry ([.ref b]) (n := 9) (Nat.le_of_ble_eq_true rfl)
  rw [lg_entry_eq]
  generalize (lg_sl ([.ref b]) ++ List.replicate (9 - (lg_sl ([.ref b])).length) Slot.unset).toArray = ls at hl ⊢
  have hl : lv_has ls 9 [(0, .ref b)] := hl
  refine va_new (D := D) (ci := 8) (fs := [.null, .null, .null]) (C := RX5) (T := TX5) (N := 3) hx hb hts inlX5 tyX5 tyX5_ok hown (hts (Cond.classLink RL 8 RX5) (by decide +kernel)) (hts (.instantiable RX5 3) (by decide +kernel)) (hts (.initialized RX5) (by decide +kernel)) hK hP hD hS hA rfl (fun j hj => by rcases (show j = 0 ∨ j = 1 ∨ j = 2 by omega) with rfl | rfl | rfl <;> rfl) (Nat.le_of_ble_eq_true rfl) (Nat.le_of_ble_eq_true rfl) dL_law_0 (fun x0 H hP hD hS => ?_)
  have hP : va_P D vwCl ((x0, .inr (8, [.null, .null, .null])) :: []) H := hP
  have hD : va_D (lA s) ((x0, .inr (8, [.null, .null, .null])) :: []) := hD
  refine lv_dup hx hb dL_law_3 rfl ?_
  refine kI (As := []) (rest := [.ref x0]) B hK hN hP hD hS hA (c_X5_init l D cI cJ x0 []) (cwI 0 hts gL_law_X5_init rfl rfl rfl (hts (.initialized RX5) (by decide +kernel)) (hts (.methodLink RL 65 yX5_init) (by decide +kernel)) (hts (.instanceMethod yX5_init) (by decide +kernel)) rfl (by decide +kernel) ⟨(Nat.le_of_ble_eq_true rfl), (Nat.le_of_ble_eq_true rfl)⟩) rfl hl.1 rfl (Nat.le_of_ble_eq_true rfl) dL_law_4 ⟨(Nat.le_of_ble_eq_true rfl), (Nat.le_of_ble_eq_true rfl)⟩ (fun ua H locs hP hD hS => ?_)
  refine lv_astore_n (lv' := [(1, .ref x0), (0, .ref b)]) hx hb dL_law_7 rfl hl (by decide) rfl (fun ls hl => ?_)
  refine va_new (D := D) (ci := 10) (fs := [.int 0, .int 0, .null, .null, .null, .null, .null, .int 0, .null, .null, .null, .int 0, .int 0, .null, .null]) (C := RX7) (T := TX7) (N := 15) hx hb hts inlX7 tyX7 tyX7_ok hown (hts (Cond.classLink RL 66 RX7) (by decide +kernel)) (hts (.instantiable RX7 15) (by decide +kernel)) (hts (.initialized RX7) (by decide +kernel)) hK hP hD hS hA rfl (fun j hj => by rcases (show j = 0 ∨ j = 1 ∨ j = 2 ∨ j = 3 ∨ j = 4 ∨ j = 5 ∨ j = 6 ∨ j = 7 ∨ j = 8 ∨ j = 9 ∨ j = 10 ∨ j = 11 ∨ j = 12 ∨ j = 13 ∨ j = 14 by omega) with rfl | rfl | rfl | rfl | rfl | rfl | rfl | rfl | rfl | rfl | rfl | rfl | rfl | rfl | rfl <;> rfl) (Nat.le_of_ble_eq_true rfl) (Nat.le_of_ble_eq_true rfl) dL_law_8 (fun o0 H hP hD hS => ?_)
  have hP : va_P D vwCl ((o0, .inr (10, [.int 0, .int 0, .null, .null, .null, .null, .null, .int 0, .null, .null, .null, .int 0, .int 0, .null, .null])) :: (wl cI ua Gz gz ++ (wl cI (fun i => ua (28 + i)) Gz gz ++ (xr cI ua (fun i => ua (28 + i)) (w0 x0 (fun i => ua (56 + i))) (fun _ => 0) ++ [])))) H := P_perm (List.perm_append_singleton _ _) hP
  have hD : va_D (lA s) ((o0, .inr (10, [.int 0, .int 0, .null, .null, .null, .null, .null, .int 0, .null, .null, .null, .int 0, .int 0, .null, .null])) :: (wl cI ua Gz gz ++ (wl cI (fun i => ua (28 + i)) Gz gz ++ (xr cI ua (fun i => ua (28 + i)) (w0 x0 (fun i => ua (56 + i))) (fun _ => 0) ++ [])))) := D_perm (List.perm_append_singleton _ _) hD
  refine lv_dup hx hb dL_law_11 rfl ?_
  refine kI (As := []) (rest := [.ref o0]) B hK hN hP hD hS hA (c_X7_init l D cI cJ o0 (wl cI ua Gz gz ++ (wl cI (fun i => ua (28 + i)) Gz gz ++ (xr cI ua (fun i => ua (28 + i)) (w0 x0 (fun i => ua (56 + i))) (fun _ => 0) ++ [])))) (cwI 0 hts gL_law_X7_init rfl rfl rfl (hts (.initialized RX7) (by decide +kernel)) (hts (.methodLink RL 68 yX7_init) (by decide +kernel)) (hts (.instanceMethod yX7_init) (by decide +kernel)) rfl (by decide +kernel) ⟨(Nat.le_of_ble_eq_true rfl), (Nat.le_of_ble_eq_true rfl)⟩) rfl hl.1 rfl (Nat.le_of_ble_eq_true rfl) dL_law_12 ⟨(Nat.le_of_ble_eq_true rfl), (Nat.le_of_ble_eq_true rfl)⟩ (fun um H locs hP hD hS => ?_)
  refine lv_astore_n (lv' := [(2, .ref o0), (1, .ref x0), (0, .ref b)]) hx hb dL_law_15 rfl hl (by decide) rfl (fun ls hl => ?_)
  refine lv_iconst (v := 1) hx hb dL_law_16 (by decide) ?_
  refine va_newa (atype := .long) (n := 1) (N' := 1) (a0 := (1, .inr (.inl (fun _ => 0)))) hx hb (hts (.arrayClass .long) (by decide +kernel)) rfl hK hP hD hS hA (fun cA => rfl) (by decide) rfl (by decide) (Nat.le_of_ble_eq_true rfl) (Nat.le_of_ble_eq_true rfl) dL_law_17 (fun oA cA H hK' hP hD hS => ?_)
  have e1 : s.vm.findClass ("[" ++ FieldType.long.toString) = some cJ := (hK'.2 1 (cJ, .long) rfl).2
  have e2 : s.vm.findClass ("[" ++ FieldType.long.toString) = some cA := (hK'.2 2 (cA, .long) rfl).2
  have e3 : cJ = cA := Option.some.inj (e1.symm.trans e2)
  subst e3
  have hp : List.Perm ((ms cI (fun i => um (8 + i)) (w0 o0 um) Gz gz ++ (mo cI (w0 o0 um) (um 8) (um 13) Gz (fun _ => 0) ++ (ms cI (fun i => um (13 + i)) (w0 o0 um) Gz gz ++ (wl cI ua Gz gz ++ (wl cI (fun i => ua (28 + i)) Gz gz ++ (xr cI ua (fun i => ua (28 + i)) (w0 x0 (fun i => ua (56 + i))) (fun _ => 0) ++ [])))))) ++ [(oA, .inl (cJ, 1, .inr (.inl (fun _ => 0))))]) (XW cI cJ ua (fun i => ua (28 + i)) (w0 x0 (fun i => ua (56 + i))) oA Gz gz Gz gz (fun _ => 0) (fun _ => 0) (MW cI (fun i => um (8 + i)) (fun i => um (13 + i)) (w0 o0 um) Gz gz Gz (fun _ => 0) Gz gz [])) := pmS
  refine lv_astore_n (lv' := [(3, .ref oA), (2, .ref o0), (1, .ref x0), (0, .ref b)]) hx hb dL_law_19 rfl hl (by decide) rfl (fun ls hl => ?_)
  refine lv_iconst (v := 0) hx hb dL_law_20 (by decide) ?_
  refine lv_istore (lv' := [(4, .int 0), (3, .ref oA), (2, .ref o0), (1, .ref x0), (0, .ref b)]) hx hb dL_law_21 hl (by decide) rfl (fun ls hl => ?_)
  refine W.widen (k := 79 + 220 * 0) (n := 1050 + 1200 * 0) (Nat.le_of_ble_eq_true rfl) (Nat.le_of_ble_eq_true rfl) ?_
  exact law_loop C hr hlocks (a := ua) (b2 := fun i => ua (28 + i)) (x := w0 x0 (fun i => ua (56 + i))) (q := fun i => um (8 + i)) (u := fun i => um (13 + i)) (o := w0 o0 um) (oA := oA) 513 0 (by omega) (by omega) Gz gz Gz gz (fun _ => 0) (fun _ => 0) Gz gz Gz (fun _ => 0) Gz gz _ _ _ SIM_0 (P_perm hp hP) (D_perm hp hD) hS (lv_sub hl [4, 3, 2, 1, 0] rfl)
