set_option maxRecDepth 100000 in
set_option maxHeartbeats 4000000 in
/-- Site.countsDay(d) -/
theorem c_X1_countsDay (l : Launch) (D : va_G) (k : Nat → ClassId) (ad : Nat → Nat) (M : Nat → Nat → Nat) (O : Nat → Nat → Int32) (i : Nat) (hs : zSi M i) (d : Nat) (hi : i < 4) (hd : d < 2 ^ 31) : Met l yX1_countsDay wsX1_countsDay ({ frames := 0, cells := 0, slots := 0, locals := 0 }) (va_Pc [.ref (ad (4 + 4 * i)), .int (nI d)] (zR D k (20 + 2 * M 0 1) ad (cX k ad M O))) (vp_Si (fun r => r = bI ((M 1 i).testBit (d % 7) = true))) 0 0 (fun _ => False) := by
  refine Met.ofW (cc := cX1_countsDay) (maxL := 2) (ret := (some .boolean)) (by decide) rfl ?_
  intro p e s m args below meth c s₁ B hml hv
  obtain ⟨rfl, hP, hK⟩ := hv
  have hx := B.exec
  have hb := B.bytes
  have hr := B.returns
  have hts := atoms_spec (ws := wsX1_countsDay) B.pre
  have hown : s.vm.findClass RX1 = some m.cls := findClass_of_methodNamed B.named
  have hlocks := B.notSynchronized
  have F : CallFix p m c cX1_countsDay 2 s _ wsX1_countsDay RX1 := ⟨hx, hb, hml, hown, hts⟩
  have hl := lv_entry ([.ref (ad (4 + 4 * i)), .int (nI d)]) (n := 2) (Nat.le_of_ble_eq_true rfl)
  rw [lg_entry_eq]
  generalize (lg_sl ([.ref (ad (4 + 4 * i)), .int (nI d)]) ++ List.replicate (2 - (lg_sl ([.ref (ad (4 + 4 * i)), .int (nI d)])).length) Slot.unset).toArray = ls at hl ⊢
  have hl : lv_has ls 2 [(0, .ref (ad (4 + 4 * i))), (1, .int (nI d))] := hl
  have hi1 : ∀ w ∈ u_ws RX1 TX1 9, w ∈ wsX1_countsDay := by decide +kernel
  obtain ⟨hd1, hd2, hd3, hd4⟩ := id hs
  refine lv_aload_n hx hb dX1_countsDay_0 rfl (lv_at hl 0 rfl) ?_
  refine z_get (C := RX1) (T := TX1) (N := 9) (ci := 1) (v := .int (nI (M 1 i))) F hK hP hi1 rfl (4 + 4 * i) 0 (by have := hi; omega) (cX_s hi) (by decide) rfl (by decide +kernel) dX1_countsDay_1 ?_
  refine lv_iload_n hx hb dX1_countsDay_4 rfl (lv_at hl 1 rfl) ?_
  refine lv_bipush (v := nI 7) hx hb dX1_countsDay_5 (by decide) ?_
  refine z_rem F (by omega) (by omega) (by omega) dX1_countsDay_7 ?_
  refine lv_ishr hx hb dX1_countsDay_8 ?_
  refine lv_iconst (v := nI 1) hx hb dX1_countsDay_9 (by decide) ?_
  refine lv_iand hx hb dX1_countsDay_10 ?_
  refine z_top (show (nI (M 1 i) >>> (nI (d % 7) &&& 31)) &&& nI 1 = bI ((M 1 i).testBit (d % 7) = true) by rw [bit_shr _ hd1 _ (Nat.mod_lt _ (by decide)), bit_b]) ?_
  refine z_ifb_eq (tgt := 18) F dX1_countsDay_11 (by decide) (fun c1 => ?_) (fun c1 => ?_)
  · refine lv_iconst (v := nI 0) hx hb dX1_countsDay_18 (by decide) ?_
    exact W.zret (v := nI 0) hx hb hr rfl (fun t ht hW => ⟨nI 0, rfl, (bI_f c1).symm, ht⟩) (fun q h => by cases h) dX1_countsDay_19
  · refine lv_iconst (v := nI 1) hx hb dX1_countsDay_14 (by decide) ?_
    refine lv_goto (tgt := 19) hx hb dX1_countsDay_15 (by decide) ?_
    exact W.zret (v := nI 1) hx hb hr rfl (fun t ht hW => ⟨nI 1, rfl, (bI_t c1).symm, ht⟩) (fun q h => by cases h) dX1_countsDay_19
set_option maxRecDepth 100000 in
set_option maxHeartbeats 4000000 in
/-- Site.counts(h) -/
theorem c_X1_counts (l : Launch) (D : va_G) (k : Nat → ClassId) (ad : Nat → Nat) (M : Nat → Nat → Nat) (O : Nat → Nat → Int32) (i : Nat) (hs : zSi M i) (h : Nat) (hi : i < 4) (hh : h < 2 ^ 31) : Met l yX1_counts wsX1_counts ({ frames := 1, cells := 0, slots := 0, locals := 21 }) (va_Pc [.ref (ad (4 + 4 * i)), .int (nI h)] (zR D k (20 + 2 * M 0 1) ad (cX k ad M O))) (vp_Si (fun r => r = bI (hrB M i h = true))) 0 0 (fun _ => False) := by
  refine Met.ofW (cc := cX1_counts) (maxL := 3) (ret := (some .boolean)) (by decide) rfl ?_
  intro p e s m args below meth c s₁ B hml hv
  obtain ⟨rfl, hP, hK⟩ := hv
  have hx := B.exec
  have hb := B.bytes
  have hr := B.returns
  have hts := atoms_spec (ws := wsX1_counts) B.pre
  have hown : s.vm.findClass RX1 = some m.cls := findClass_of_methodNamed B.named
  have hlocks := B.notSynchronized
  have F : CallFix p m c cX1_counts 3 s _ wsX1_counts RX1 := ⟨hx, hb, hml, hown, hts⟩
  have hl := lv_entry ([.ref (ad (4 + 4 * i)), .int (nI h)]) (n := 3) (Nat.le_of_ble_eq_true rfl)
  rw [lg_entry_eq]
  generalize (lg_sl ([.ref (ad (4 + 4 * i)), .int (nI h)]) ++ List.replicate (3 - (lg_sl ([.ref (ad (4 + 4 * i)), .int (nI h)])).length) Slot.unset).toArray = ls at hl ⊢
  have hl : lv_has ls 3 [(0, .ref (ad (4 + 4 * i))), (1, .int (nI h))] := hl
  have hi1 : ∀ w ∈ u_ws RX1 TX1 9, w ∈ wsX1_counts := by decide +kernel
  obtain ⟨hd1, hd2, hd3, hd4⟩ := id hs
  refine lv_iload_n hx hb dX1_counts_0 rfl (lv_at hl 1 rfl) ?_
  refine lv_bipush (v := nI 24) hx hb dX1_counts_1 (by decide) ?_
  refine z_rem F (by omega) (by omega) (by omega) dX1_counts_3 ?_
  refine lv_istore_n (lv' := [(2, .int (nI (h % 24))), (0, .ref (ad (4 + 4 * i))), (1, .int (nI h))]) hx hb dX1_counts_4 rfl hl (by decide) rfl (fun ls hl => ?_)
  refine lv_aload_n hx hb dX1_counts_5 rfl (lv_at hl 1 rfl) ?_
  refine lv_iload_n hx hb dX1_counts_6 rfl (lv_at hl 2 rfl) ?_
  refine lv_bipush (v := nI 24) hx hb dX1_counts_7 (by decide) ?_
  refine z_div F (by omega) (by omega) (by omega) dX1_counts_9 ?_
  refine z_cV (qc := (RX1, TX1, 9)) (As := [.int (nI (h / 24))]) (rest := []) (4 + 4 * i) F (c_X1_countsDay l D k ad M O i hs (h / 24) hi (by omega)) (cwV 1 hts gX1_counts_X1_countsDay rfl rfl rfl (by decide +kernel) ⟨Nat.le_of_ble_eq_true rfl, Nat.le_of_ble_eq_true rfl⟩) hK hP (by have := hi; omega) (cX_s hi) rfl rfl hl.1 rfl (Nat.le_of_ble_eq_true rfl) dX1_counts_10 ⟨Nat.le_of_ble_eq_true rfl, Nat.le_of_ble_eq_true rfl⟩ (fun r hr => ?_)
  subst hr
  refine z_ifb_eq (tgt := 36) F dX1_counts_13 (by decide) (fun c2 => ?_) (fun c2 => ?_)
  · refine lv_iconst (v := nI 0) hx hb dX1_counts_36 (by decide) ?_
    exact W.zret (v := nI 0) hx hb hr rfl (fun t ht hW => ⟨nI 0, rfl, (bI_f (fun zz1 => c2 (by unfold hrB at zz1; simp only [Bool.and_eq_true] at zz1; exact zz1.1))).symm, ht⟩) (fun q h => by cases h) dX1_counts_37
  · refine lv_aload_n hx hb dX1_counts_16 rfl (lv_at hl 1 rfl) ?_
    refine z_get (C := RX1) (T := TX1) (N := 9) (ci := 1) (v := .int (nI (M 2 i))) F hK hP hi1 rfl (4 + 4 * i) 1 (by have := hi; omega) (cX_s hi) (by decide) rfl (by decide +kernel) dX1_counts_17 ?_
    refine lv_iload_n hx hb dX1_counts_20 rfl (lv_at hl 0 rfl) ?_
    refine z_icmp_gt (tgt := 36) F (by omega) (by omega) dX1_counts_21 (by decide) (fun c3 => ?_) (fun c3 => ?_)
    · refine lv_iconst (v := nI 0) hx hb dX1_counts_36 (by decide) ?_
      exact W.zret (v := nI 0) hx hb hr rfl (fun t ht hW => ⟨nI 0, rfl, (bI_f (fun zz1 => by unfold hrB at zz1; simp only [Bool.and_eq_true, decide_eq_true_eq] at zz1; omega)).symm, ht⟩) (fun q h => by cases h) dX1_counts_37
    · refine lv_iload_n hx hb dX1_counts_24 rfl (lv_at hl 0 rfl) ?_
      refine lv_aload_n hx hb dX1_counts_25 rfl (lv_at hl 1 rfl) ?_
      refine z_get (C := RX1) (T := TX1) (N := 9) (ci := 1) (v := .int (nI (M 3 i))) F hK hP hi1 rfl (4 + 4 * i) 2 (by have := hi; omega) (cX_s hi) (by decide) rfl (by decide +kernel) dX1_counts_26 ?_
      refine z_icmp_gt (tgt := 36) F (by omega) (by omega) dX1_counts_29 (by decide) (fun c4 => ?_) (fun c4 => ?_)
      · refine lv_iconst (v := nI 0) hx hb dX1_counts_36 (by decide) ?_
        exact W.zret (v := nI 0) hx hb hr rfl (fun t ht hW => ⟨nI 0, rfl, (bI_f (fun zz1 => by unfold hrB at zz1; simp only [Bool.and_eq_true, decide_eq_true_eq] at zz1; omega)).symm, ht⟩) (fun q h => by cases h) dX1_counts_37
      · refine lv_iconst (v := nI 1) hx hb dX1_counts_32 (by decide) ?_
        refine lv_goto (tgt := 37) hx hb dX1_counts_33 (by decide) ?_
        exact W.zret (v := nI 1) hx hb hr rfl (fun t ht hW => ⟨nI 1, rfl, (bI_t (by unfold hrB; rw [c2]; simp only [decide_eq_true c3, decide_eq_true c4]; rfl)).symm, ht⟩) (fun q h => by cases h) dX1_counts_37
/-- Integer.bitCount, step by step -/
def bc1 (x : Int32) : Int32 := x - ((x.toUInt32 >>> ((nI 1).toUInt32 &&& Int32.toUInt32 31)).toInt32 &&& 1431655765)
def bc2 (x : Int32) : Int32 := (x &&& 858993459) + ((x.toUInt32 >>> ((nI 2).toUInt32 &&& Int32.toUInt32 31)).toInt32 &&& 858993459)
def bc3 (x : Int32) : Int32 := (x + (x.toUInt32 >>> ((nI 4).toUInt32 &&& Int32.toUInt32 31)).toInt32) &&& 252645135
def bc4 (x : Int32) : Int32 := x + (x.toUInt32 >>> ((nI 8).toUInt32 &&& Int32.toUInt32 31)).toInt32
def bc5 (x : Int32) : Int32 := x + (x.toUInt32 >>> ((nI 16).toUInt32 &&& Int32.toUInt32 31)).toInt32
def bcF (x : Int32) : Int32 := bc5 (bc4 (bc3 (bc2 (bc1 x)))) &&& nI 63
theorem bcF_7 : ∀ D, D < 128 → bcF (nI D) = nI (pc7 D) := by decide +kernel
set_option maxRecDepth 100000 in
set_option maxHeartbeats 4000000 in
theorem c_bitCount (l : Launch) (x0 : Int32) : Met l yJ6_bitCount_0f7a4 wsJ6_bitCount_0f7a4 ({ frames := 0, cells := 0, slots := 0, locals := 0 }) (va_Pc [.int x0] (fun _ => True)) (vp_Si (fun r => r = bcF x0)) 0 0 (fun _ => False) := by
  refine Met.ofW (cc := cJ6_bitCount_0f7a4) (maxL := 1) (ret := (some .int)) (by decide) rfl ?_
  intro p e s m args below meth c s₁ B hml hv
  obtain ⟨rfl, -⟩ := hv
  have hx := B.exec
  have hb := B.bytes
  have hr := B.returns
  have hts := atoms_spec (ws := wsJ6_bitCount_0f7a4) B.pre
  have hown : s.vm.findClass RJ6 = some m.cls := findClass_of_methodNamed B.named
  have hlocks := B.notSynchronized
  have F : CallFix p m c cJ6_bitCount_0f7a4 1 s _ wsJ6_bitCount_0f7a4 RJ6 := ⟨hx, hb, hml, hown, hts⟩
  have hl := lv_entry ([.int x0]) (n := 1) (Nat.le_of_ble_eq_true rfl)
  rw [lg_entry_eq]
  generalize (lg_sl ([.int x0]) ++ List.replicate (1 - (lg_sl ([.int x0])).length) Slot.unset).toArray = ls at hl ⊢
  have hl : lv_has ls 1 [(0, .int x0)] := hl
  refine lv_iload_n hx hb dJ6_bitCount_0f7a4_0 rfl (lv_at hl 0 rfl) ?_
  refine lv_iload_n hx hb dJ6_bitCount_0f7a4_1 rfl (lv_at hl 0 rfl) ?_
  refine lv_iconst (v := nI 1) hx hb dJ6_bitCount_0f7a4_2 (by decide) ?_
  refine lv_iushr (v := (x0.toUInt32 >>> ((nI 1).toUInt32 &&& Int32.toUInt32 31)).toInt32) hx hb dJ6_bitCount_0f7a4_3 rfl ?_
  refine lv_ldcw (v := 1431655765) hx hb hown (hts (.constant RJ6 265 (1431655765)) (by decide +kernel)) dJ6_bitCount_0f7a4_4 ?_
  refine lv_iand hx hb dJ6_bitCount_0f7a4_7 ?_
  refine lv_isub hx hb dJ6_bitCount_0f7a4_8 ?_
  refine z_top (show _ = bc1 x0 from rfl) ?_
  refine lv_topi (fun x1 ex1 => ?_)
  refine lv_istore_n (lv' := [(0, .int x1)]) hx hb dJ6_bitCount_0f7a4_9 rfl hl (by decide) rfl (fun ls hl => ?_)
  refine lv_iload_n hx hb dJ6_bitCount_0f7a4_10 rfl (lv_at hl 0 rfl) ?_
  refine lv_ldcw (v := 858993459) hx hb hown (hts (.constant RJ6 266 (858993459)) (by decide +kernel)) dJ6_bitCount_0f7a4_11 ?_
  refine lv_iand hx hb dJ6_bitCount_0f7a4_14 ?_
  refine lv_iload_n hx hb dJ6_bitCount_0f7a4_15 rfl (lv_at hl 0 rfl) ?_
  refine lv_iconst (v := nI 2) hx hb dJ6_bitCount_0f7a4_16 (by decide) ?_
  refine lv_iushr (v := (x1.toUInt32 >>> ((nI 2).toUInt32 &&& Int32.toUInt32 31)).toInt32) hx hb dJ6_bitCount_0f7a4_17 rfl ?_
  refine lv_ldcw (v := 858993459) hx hb hown (hts (.constant RJ6 266 (858993459)) (by decide +kernel)) dJ6_bitCount_0f7a4_18 ?_
  refine lv_iand hx hb dJ6_bitCount_0f7a4_21 ?_
  refine lv_iadd hx hb dJ6_bitCount_0f7a4_22 ?_
  refine z_top (show _ = bc2 x1 from rfl) ?_
  refine lv_topi (fun x2 ex2 => ?_)
  refine lv_istore_n (lv' := [(0, .int x2)]) hx hb dJ6_bitCount_0f7a4_23 rfl hl (by decide) rfl (fun ls hl => ?_)
  refine lv_iload_n hx hb dJ6_bitCount_0f7a4_24 rfl (lv_at hl 0 rfl) ?_
  refine lv_iload_n hx hb dJ6_bitCount_0f7a4_25 rfl (lv_at hl 0 rfl) ?_
  refine lv_iconst (v := nI 4) hx hb dJ6_bitCount_0f7a4_26 (by decide) ?_
  refine lv_iushr (v := (x2.toUInt32 >>> ((nI 4).toUInt32 &&& Int32.toUInt32 31)).toInt32) hx hb dJ6_bitCount_0f7a4_27 rfl ?_
  refine lv_iadd hx hb dJ6_bitCount_0f7a4_28 ?_
  refine lv_ldcw (v := 252645135) hx hb hown (hts (.constant RJ6 267 (252645135)) (by decide +kernel)) dJ6_bitCount_0f7a4_29 ?_
  refine lv_iand hx hb dJ6_bitCount_0f7a4_32 ?_
  refine z_top (show _ = bc3 x2 from rfl) ?_
  refine lv_topi (fun x3 ex3 => ?_)
  refine lv_istore_n (lv' := [(0, .int x3)]) hx hb dJ6_bitCount_0f7a4_33 rfl hl (by decide) rfl (fun ls hl => ?_)
  refine lv_iload_n hx hb dJ6_bitCount_0f7a4_34 rfl (lv_at hl 0 rfl) ?_
  refine lv_iload_n hx hb dJ6_bitCount_0f7a4_35 rfl (lv_at hl 0 rfl) ?_
  refine lv_bipush (v := nI 8) hx hb dJ6_bitCount_0f7a4_36 (by decide) ?_
  refine lv_iushr (v := (x3.toUInt32 >>> ((nI 8).toUInt32 &&& Int32.toUInt32 31)).toInt32) hx hb dJ6_bitCount_0f7a4_38 rfl ?_
  refine lv_iadd hx hb dJ6_bitCount_0f7a4_39 ?_
  refine z_top (show _ = bc4 x3 from rfl) ?_
  refine lv_topi (fun x4 ex4 => ?_)
  refine lv_istore_n (lv' := [(0, .int x4)]) hx hb dJ6_bitCount_0f7a4_40 rfl hl (by decide) rfl (fun ls hl => ?_)
  refine lv_iload_n hx hb dJ6_bitCount_0f7a4_41 rfl (lv_at hl 0 rfl) ?_
  refine lv_iload_n hx hb dJ6_bitCount_0f7a4_42 rfl (lv_at hl 0 rfl) ?_
  refine lv_bipush (v := nI 16) hx hb dJ6_bitCount_0f7a4_43 (by decide) ?_
  refine lv_iushr (v := (x4.toUInt32 >>> ((nI 16).toUInt32 &&& Int32.toUInt32 31)).toInt32) hx hb dJ6_bitCount_0f7a4_45 rfl ?_
  refine lv_iadd hx hb dJ6_bitCount_0f7a4_46 ?_
  refine z_top (show _ = bc5 x4 from rfl) ?_
  refine lv_topi (fun x5 ex5 => ?_)
  refine lv_istore_n (lv' := [(0, .int x5)]) hx hb dJ6_bitCount_0f7a4_47 rfl hl (by decide) rfl (fun ls hl => ?_)
  refine lv_iload_n hx hb dJ6_bitCount_0f7a4_48 rfl (lv_at hl 0 rfl) ?_
  refine lv_bipush (v := nI 63) hx hb dJ6_bitCount_0f7a4_49 (by decide) ?_
  refine lv_iand hx hb dJ6_bitCount_0f7a4_51 ?_
  exact W.iret (v := x5 &&& (nI 63)) hx hb hr (fun t ht hW => ⟨x5 &&& (nI 63), rfl, by rw [ex5, ex4, ex3, ex2, ex1]; rfl, ht⟩) (fun q h => by cases h) dJ6_bitCount_0f7a4_52
set_option maxRecDepth 100000 in
set_option maxHeartbeats 4000000 in
/-- Site.countBefore(e0) -/
theorem c_X1_countBefore (l : Launch) (D : va_G) (k : Nat → ClassId) (ad : Nat → Nat) (M : Nat → Nat → Nat) (O : Nat → Nat → Int32) (i : Nat) (hs : zSi M i) (e0 : Nat) (hi : i < 4) (he0 : e0 ≤ 24000) : Met l yX1_countBefore wsX1_countBefore ({ frames := 1, cells := 0, slots := 0, locals := 21 }) (va_Pc [.ref (ad (4 + 4 * i)), .int (nI e0)] (zR D k (20 + 2 * M 0 1) ad (cX k ad M O))) (vp_Si (fun r => r = nI (hN M i e0))) 0 0 (fun _ => False) := by
  refine Met.ofW (cc := cX1_countBefore) (maxL := 7) (ret := (some .int)) (by decide) rfl ?_
  intro p e s m args below meth c s₁ B hml hv
  obtain ⟨rfl, hP, hK⟩ := hv
  have hx := B.exec
  have hb := B.bytes
  have hr := B.returns
  have hts := atoms_spec (ws := wsX1_countBefore) B.pre
  have hown : s.vm.findClass RX1 = some m.cls := findClass_of_methodNamed B.named
  have hlocks := B.notSynchronized
  have F : CallFix p m c cX1_countBefore 7 s _ wsX1_countBefore RX1 := ⟨hx, hb, hml, hown, hts⟩
  have hl := lv_entry ([.ref (ad (4 + 4 * i)), .int (nI e0)]) (n := 7) (Nat.le_of_ble_eq_true rfl)
  rw [lg_entry_eq]
  generalize (lg_sl ([.ref (ad (4 + 4 * i)), .int (nI e0)]) ++ List.replicate (7 - (lg_sl ([.ref (ad (4 + 4 * i)), .int (nI e0)])).length) Slot.unset).toArray = ls at hl ⊢
  have hl : lv_has ls 7 [(0, .ref (ad (4 + 4 * i))), (1, .int (nI e0))] := hl
  have hi1 : ∀ w ∈ u_ws RX1 TX1 9, w ∈ wsX1_countBefore := by decide +kernel
  obtain ⟨hd1, hd2, hd3, hd4⟩ := id hs
  refine lv_iload_n hx hb dX1_countBefore_0 rfl (lv_at hl 1 rfl) ?_
  refine lv_bipush (v := nI 24) hx hb dX1_countBefore_1 (by decide) ?_
  refine z_div F (by omega) (by omega) (by omega) dX1_countBefore_3 ?_
  refine lv_istore_n (lv' := [(2, .int (nI (e0 / 24))), (0, .ref (ad (4 + 4 * i))), (1, .int (nI e0))]) hx hb dX1_countBefore_4 rfl hl (by decide) rfl (fun ls hl => ?_)
  refine lv_aload_n hx hb dX1_countBefore_5 rfl (lv_at hl 1 rfl) ?_
  refine z_get (C := RX1) (T := TX1) (N := 9) (ci := 1) (v := .int (nI (M 1 i))) F hK hP hi1 rfl (4 + 4 * i) 0 (by have := hi; omega) (cX_s hi) (by decide) rfl (by decide +kernel) dX1_countBefore_6 ?_
  refine lv_iconst (v := nI 1) hx hb dX1_countBefore_9 (by decide) ?_
  refine lv_iload_n hx hb dX1_countBefore_10 rfl (lv_at hl 0 rfl) ?_
  refine lv_bipush (v := nI 7) hx hb dX1_countBefore_11 (by decide) ?_
  refine z_rem F (by omega) (by omega) (by omega) dX1_countBefore_13 ?_
  refine lv_ishl hx hb dX1_countBefore_14 ?_
  refine lv_iconst (v := nI 1) hx hb dX1_countBefore_15 (by decide) ?_
  refine lv_isub hx hb dX1_countBefore_16 ?_
  refine lv_iand hx hb dX1_countBefore_17 ?_
  refine z_top (bit_and _ hd1 _ (Nat.mod_lt _ (by decide))) ?_
  refine lv_istore_n (lv' := [(3, .int (nI (M 1 i % 2 ^ (e0 / 24 % 7)))), (2, .int (nI (e0 / 24))), (0, .ref (ad (4 + 4 * i))), (1, .int (nI e0))]) hx hb dX1_countBefore_18 rfl hl (by decide) rfl (fun ls hl => ?_)
  refine lv_iload_n hx hb dX1_countBefore_19 rfl (lv_at hl 1 rfl) ?_
  refine lv_bipush (v := nI 7) hx hb dX1_countBefore_20 (by decide) ?_
  refine z_div F (by omega) (by omega) (by omega) dX1_countBefore_22 ?_
  refine lv_aload_n hx hb dX1_countBefore_23 rfl (lv_at hl 2 rfl) ?_
  refine z_get (C := RX1) (T := TX1) (N := 9) (ci := 1) (v := .int (nI (M 1 i))) F hK hP hi1 rfl (4 + 4 * i) 0 (by have := hi; omega) (cX_s hi) (by decide) rfl (by decide +kernel) dX1_countBefore_24 ?_
  refine z_cS (As := [.int (nI (M 1 i))]) (rest := [.int (nI ((e0 / 24) / 7))]) F (c_bitCount l (nI (M 1 i))) (va_cwS 1 hts gX1_countBefore_J6_bitCount_0f7a4 rfl rfl rfl (by decide +kernel) ⟨Nat.le_of_ble_eq_true rfl, Nat.le_of_ble_eq_true rfl⟩) rfl hl.1 rfl (Nat.le_of_ble_eq_true rfl) dX1_countBefore_27 ⟨Nat.le_of_ble_eq_true rfl, Nat.le_of_ble_eq_true rfl⟩ (fun r hr => ?_)
  subst hr
  refine z_top (bcF_7 _ hd1) ?_
  refine z_mul F dX1_countBefore_30 ?_
  refine lv_iload_n hx hb dX1_countBefore_31 rfl (lv_at hl 0 rfl) ?_
  refine z_cS (As := [.int (nI (M 1 i % 2 ^ (e0 / 24 % 7)))]) (rest := [.int (nI (((e0 / 24) / 7) * (pc7 (M 1 i))))]) F (c_bitCount l (nI (M 1 i % 2 ^ (e0 / 24 % 7)))) (va_cwS 1 hts gX1_countBefore_J6_bitCount_0f7a4 rfl rfl rfl (by decide +kernel) ⟨Nat.le_of_ble_eq_true rfl, Nat.le_of_ble_eq_true rfl⟩) rfl hl.1 rfl (Nat.le_of_ble_eq_true rfl) dX1_countBefore_32 ⟨Nat.le_of_ble_eq_true rfl, Nat.le_of_ble_eq_true rfl⟩ (fun r hr => ?_)
  subst hr
  refine z_top (bcF_7 _ (Nat.lt_of_le_of_lt (Nat.mod_le _ _) hd1)) ?_
  refine z_add F dX1_countBefore_35 ?_
  refine lv_istore (lv' := [(4, .int (nI ((((e0 / 24) / 7) * (pc7 (M 1 i))) + (pc7 (M 1 i % 2 ^ (e0 / 24 % 7)))))), (3, .int (nI (M 1 i % 2 ^ (e0 / 24 % 7)))), (2, .int (nI (e0 / 24))), (0, .ref (ad (4 + 4 * i))), (1, .int (nI e0))]) hx hb dX1_countBefore_36 hl (by decide) rfl (fun ls hl => ?_)
  refine lv_aload_n hx hb dX1_countBefore_38 rfl (lv_at hl 3 rfl) ?_
  refine z_get (C := RX1) (T := TX1) (N := 9) (ci := 1) (v := .int (nI (M 3 i))) F hK hP hi1 rfl (4 + 4 * i) 2 (by have := hi; omega) (cX_s hi) (by decide) rfl (by decide +kernel) dX1_countBefore_39 ?_
  refine lv_aload_n hx hb dX1_countBefore_42 rfl (lv_at hl 3 rfl) ?_
  refine z_get (C := RX1) (T := TX1) (N := 9) (ci := 1) (v := .int (nI (M 2 i))) F hK hP hi1 rfl (4 + 4 * i) 1 (by have := hi; omega) (cX_s hi) (by decide) rfl (by decide +kernel) dX1_countBefore_43 ?_
  refine z_sub F (by omega) dX1_countBefore_46 ?_
  refine lv_iconst (v := nI 1) hx hb dX1_countBefore_47 (by decide) ?_
  refine z_add F dX1_countBefore_48 ?_
  refine lv_istore (lv' := [(5, .int (nI (((M 3 i) - (M 2 i)) + 1))), (4, .int (nI ((((e0 / 24) / 7) * (pc7 (M 1 i))) + (pc7 (M 1 i % 2 ^ (e0 / 24 % 7)))))), (3, .int (nI (M 1 i % 2 ^ (e0 / 24 % 7)))), (2, .int (nI (e0 / 24))), (0, .ref (ad (4 + 4 * i))), (1, .int (nI e0))]) hx hb dX1_countBefore_49 hl (by decide) rfl (fun ls hl => ?_)
  refine lv_iload hx hb dX1_countBefore_51 (lv_at hl 1 rfl) ?_
  refine lv_iload hx hb dX1_countBefore_53 (lv_at hl 0 rfl) ?_
  refine z_mul F dX1_countBefore_55 ?_
  refine lv_istore (lv' := [(6, .int (nI (((((e0 / 24) / 7) * (pc7 (M 1 i))) + (pc7 (M 1 i % 2 ^ (e0 / 24 % 7)))) * (((M 3 i) - (M 2 i)) + 1)))), (5, .int (nI (((M 3 i) - (M 2 i)) + 1))), (4, .int (nI ((((e0 / 24) / 7) * (pc7 (M 1 i))) + (pc7 (M 1 i % 2 ^ (e0 / 24 % 7)))))), (3, .int (nI (M 1 i % 2 ^ (e0 / 24 % 7)))), (2, .int (nI (e0 / 24))), (0, .ref (ad (4 + 4 * i))), (1, .int (nI e0))]) hx hb dX1_countBefore_56 hl (by decide) rfl (fun ls hl => ?_)
  refine lv_aload_n hx hb dX1_countBefore_58 rfl (lv_at hl 5 rfl) ?_
  refine lv_iload_n hx hb dX1_countBefore_59 rfl (lv_at hl 4 rfl) ?_
  refine z_cV (qc := (RX1, TX1, 9)) (As := [.int (nI (e0 / 24))]) (rest := []) (4 + 4 * i) F (c_X1_countsDay l D k ad M O i hs (e0 / 24) hi (by omega)) (cwV 1 hts gX1_countBefore_X1_countsDay rfl rfl rfl (by decide +kernel) ⟨Nat.le_of_ble_eq_true rfl, Nat.le_of_ble_eq_true rfl⟩) hK hP (by have := hi; omega) (cX_s hi) rfl rfl hl.1 rfl (Nat.le_of_ble_eq_true rfl) dX1_countBefore_60 ⟨Nat.le_of_ble_eq_true rfl, Nat.le_of_ble_eq_true rfl⟩ (fun r hr => ?_)
  subst hr
  refine z_ifb_eq (tgt := 89) F dX1_countBefore_63 (by decide) (fun c5 => ?_) (fun c5 => ?_)
  · refine lv_iload hx hb dX1_countBefore_89 (lv_at hl 0 rfl) ?_
    exact W.iret (v := nI (((((e0 / 24) / 7) * (pc7 (M 1 i))) + (pc7 (M 1 i % 2 ^ (e0 / 24 % 7)))) * (((M 3 i) - (M 2 i)) + 1))) hx hb hr (fun t ht hW => ⟨nI (((((e0 / 24) / 7) * (pc7 (M 1 i))) + (pc7 (M 1 i % 2 ^ (e0 / 24 % 7)))) * (((M 3 i) - (M 2 i)) + 1)), rfl, (by rw [hN_closed hd1 hd2 hd3, if_neg c5, Nat.add_zero]; unfold wk; rfl), ht⟩) (fun q h => by cases h) dX1_countBefore_91
  · refine lv_iload hx hb dX1_countBefore_66 (lv_at hl 0 rfl) ?_
    refine lv_iload_n hx hb dX1_countBefore_68 rfl (lv_at hl 6 rfl) ?_
    refine lv_bipush (v := nI 24) hx hb dX1_countBefore_69 (by decide) ?_
    refine z_rem F (by omega) (by omega) (by omega) dX1_countBefore_71 ?_
    refine lv_aload_n hx hb dX1_countBefore_72 rfl (lv_at hl 5 rfl) ?_
    refine z_get (C := RX1) (T := TX1) (N := 9) (ci := 1) (v := .int (nI (M 2 i))) F hK hP hi1 rfl (4 + 4 * i) 1 (by have := hi; omega) (cX_s hi) (by decide) rfl (by decide +kernel) dX1_countBefore_73 ?_
    refine lv_isub hx hb dX1_countBefore_76 ?_
    refine lv_iconst (v := nI 0) hx hb dX1_countBefore_77 (by decide) ?_
    refine z_mmax0 F hl.1 (by decide +kernel) (by decide +kernel) (by decide +kernel) (by decide +kernel) ⟨Nat.le_of_ble_eq_true rfl, Nat.le_of_ble_eq_true rfl⟩ ⟨Nat.le_of_ble_eq_true rfl, Nat.le_of_ble_eq_true rfl⟩ (by omega) (by omega) dX1_countBefore_78 ?_
    refine lv_iload hx hb dX1_countBefore_81 (lv_at hl 1 rfl) ?_
    refine z_mmin F hl.1 (by decide +kernel) (by decide +kernel) (by decide +kernel) (by decide +kernel) ⟨Nat.le_of_ble_eq_true rfl, Nat.le_of_ble_eq_true rfl⟩ ⟨Nat.le_of_ble_eq_true rfl, Nat.le_of_ble_eq_true rfl⟩ (by omega) (by omega) dX1_countBefore_83 ?_
    refine z_add F dX1_countBefore_86 ?_
    refine lv_istore (lv' := [(6, .int (nI ((((((e0 / 24) / 7) * (pc7 (M 1 i))) + (pc7 (M 1 i % 2 ^ (e0 / 24 % 7)))) * (((M 3 i) - (M 2 i)) + 1)) + (min (e0 % 24 - M 2 i) (((M 3 i) - (M 2 i)) + 1))))), (5, .int (nI (((M 3 i) - (M 2 i)) + 1))), (4, .int (nI ((((e0 / 24) / 7) * (pc7 (M 1 i))) + (pc7 (M 1 i % 2 ^ (e0 / 24 % 7)))))), (3, .int (nI (M 1 i % 2 ^ (e0 / 24 % 7)))), (2, .int (nI (e0 / 24))), (0, .ref (ad (4 + 4 * i))), (1, .int (nI e0))]) hx hb dX1_countBefore_87 hl (by decide) rfl (fun ls hl => ?_)
    refine lv_iload hx hb dX1_countBefore_89 (lv_at hl 0 rfl) ?_
    exact W.iret (v := nI ((((((e0 / 24) / 7) * (pc7 (M 1 i))) + (pc7 (M 1 i % 2 ^ (e0 / 24 % 7)))) * (((M 3 i) - (M 2 i)) + 1)) + (min (e0 % 24 - M 2 i) (((M 3 i) - (M 2 i)) + 1)))) hx hb hr (fun t ht hW => ⟨nI ((((((e0 / 24) / 7) * (pc7 (M 1 i))) + (pc7 (M 1 i % 2 ^ (e0 / 24 % 7)))) * (((M 3 i) - (M 2 i)) + 1)) + (min (e0 % 24 - M 2 i) (((M 3 i) - (M 2 i)) + 1))), rfl, (by rw [hN_closed hd1 hd2 hd3, if_pos c5]; unfold wk; rfl), ht⟩) (fun q h => by cases h) dX1_countBefore_91
set_option maxRecDepth 100000 in
set_option maxHeartbeats 4000000 in
/-- Site.countHours(a, b) -/
theorem c_X1_countHours (l : Launch) (D : va_G) (k : Nat → ClassId) (ad : Nat → Nat) (M : Nat → Nat → Nat) (O : Nat → Nat → Int32) (i : Nat) (hs : zSi M i) (a b : Nat) (hi : i < 4) (hab : a ≤ b) (hb0 : b ≤ 24000) : Met l yX1_countHours wsX1_countHours ({ frames := 2, cells := 0, slots := 0, locals := 47 }) (va_Pc [.ref (ad (4 + 4 * i)), .int (nI a), .int (nI b)] (zR D k (20 + 2 * M 0 1) ad (cX k ad M O))) (vp_Si (fun r => r = nI (hN M i b - hN M i a))) 0 0 (fun _ => False) := by
  refine Met.ofW (cc := cX1_countHours) (maxL := 3) (ret := (some .int)) (by decide) rfl ?_
  intro p e s m args below meth c s₁ B hml hv
  obtain ⟨rfl, hP, hK⟩ := hv
  have hx := B.exec
  have hb := B.bytes
  have hr := B.returns
  have hts := atoms_spec (ws := wsX1_countHours) B.pre
  have hown : s.vm.findClass RX1 = some m.cls := findClass_of_methodNamed B.named
  have hlocks := B.notSynchronized
  have F : CallFix p m c cX1_countHours 3 s _ wsX1_countHours RX1 := ⟨hx, hb, hml, hown, hts⟩
  have hl := lv_entry ([.ref (ad (4 + 4 * i)), .int (nI a), .int (nI b)]) (n := 3) (Nat.le_of_ble_eq_true rfl)
  rw [lg_entry_eq]
  generalize (lg_sl ([.ref (ad (4 + 4 * i)), .int (nI a), .int (nI b)]) ++ List.replicate (3 - (lg_sl ([.ref (ad (4 + 4 * i)), .int (nI a), .int (nI b)])).length) Slot.unset).toArray = ls at hl ⊢
  have hl : lv_has ls 3 [(0, .ref (ad (4 + 4 * i))), (1, .int (nI a)), (2, .int (nI b))] := hl
  obtain ⟨hd1, hd2, hd3, hd4⟩ := id hs
  refine lv_aload_n hx hb dX1_countHours_0 rfl (lv_at hl 0 rfl) ?_
  refine lv_iload_n hx hb dX1_countHours_1 rfl (lv_at hl 2 rfl) ?_
  refine z_cV (qc := (RX1, TX1, 9)) (As := [.int (nI b)]) (rest := []) (4 + 4 * i) F (c_X1_countBefore l D k ad M O i hs (b) hi (by omega)) (cwV 1 hts gX1_countHours_X1_countBefore rfl rfl rfl (by decide +kernel) ⟨Nat.le_of_ble_eq_true rfl, Nat.le_of_ble_eq_true rfl⟩) hK hP (by have := hi; omega) (cX_s hi) rfl rfl hl.1 rfl (Nat.le_of_ble_eq_true rfl) dX1_countHours_2 ⟨Nat.le_of_ble_eq_true rfl, Nat.le_of_ble_eq_true rfl⟩ (fun r hr => ?_)
  subst hr
  refine lv_aload_n hx hb dX1_countHours_5 rfl (lv_at hl 0 rfl) ?_
  refine lv_iload_n hx hb dX1_countHours_6 rfl (lv_at hl 1 rfl) ?_
  refine z_cV (qc := (RX1, TX1, 9)) (As := [.int (nI a)]) (rest := [.int (nI (hN M i b))]) (4 + 4 * i) F (c_X1_countBefore l D k ad M O i hs (a) hi (by omega)) (cwV 1 hts gX1_countHours_X1_countBefore rfl rfl rfl (by decide +kernel) ⟨Nat.le_of_ble_eq_true rfl, Nat.le_of_ble_eq_true rfl⟩) hK hP (by have := hi; omega) (cX_s hi) rfl rfl hl.1 rfl (Nat.le_of_ble_eq_true rfl) dX1_countHours_7 ⟨Nat.le_of_ble_eq_true rfl, Nat.le_of_ble_eq_true rfl⟩ (fun r hr => ?_)
  subst hr
  refine z_sub F (by have zz1 := hN_mono M i a (b - a); rw [show a + (b - a) = b by omega] at zz1; exact zz1.1) dX1_countHours_10 ?_
  exact W.iret (v := nI ((hN M i b) - (hN M i a))) hx hb hr (fun t ht hW => ⟨nI ((hN M i b) - (hN M i a)), rfl, rfl, ht⟩) (fun q h => by cases h) dX1_countHours_11
theorem cov_bit : ∀ D, D < 16 → ∀ w, w < 4 → (nI D >>> (nI w &&& 31)) &&& nI 1 = nI ((D.testBit w).toNat) := by decide +kernel
set_option maxRecDepth 100000 in
set_option maxHeartbeats 4000000 in
theorem lp_covers {p : Program} {l : Launch} {e : Env} {s : State} {m : MethodId} {args : Array Value} {below : List Frame} {meth : Method} {c : Code} {H : Heap} {locs : List Loc} {cells slots : Nat} {Q : State → Prop} {D : va_G} {k : Nat → ClassId} {ad : Nat → Nat} {M : Nat → Nat → Nat} {O : Nat → Nat → Int32} (F : CallFix p m c cX1_covers 4 s args wsX1_covers RX1) (hK : va_K D vwCl (tyL k) s)
    {i kd d : Nat} (hs : zSi M i) (ho : zCo M i) (hi : i < 4) (hkd : kd < 4) (hd : d ≤ 1000)
    (hP : va_P D vwCl (zw (20 + 2 * M 0 1) ad (cX k ad M O)) H)
    (k1 : cov M i kd d → ∀ (ls : Array Slot), W p l e (headSpec wsX1_covers ({ frames := 0, cells := 0, slots := 0, locals := 0 })).room s m args below meth c H locs cells slots Q (F0 m 43 ls []))
    (k0 : ¬ cov M i kd d → ∀ (ls : Array Slot), W p l e (headSpec wsX1_covers ({ frames := 0, cells := 0, slots := 0, locals := 0 })).room s m args below meth c H locs cells slots Q (F0 m 51 ls [])) :
    ∀ (fu j : Nat), j ≤ M 7 i → M 7 i < j + fu → (∀ zx, zx < j → ¬ (zx < M 7 i ∧ (M 4 (8 * i + zx)).testBit kd = true ∧ M 5 (8 * i + zx) ≤ d ∧ d ≤ M 6 (8 * i + zx))) → ∀ (ls : Array Slot), lv_has ls 4 [(3, .int (nI j)), (0, .ref (ad (4 + 4 * i))), (1, .int (nI kd)), (2, .int (nI d))] → W p l e (headSpec wsX1_covers ({ frames := 0, cells := 0, slots := 0, locals := 0 })).room s m args below meth c H locs cells slots Q (F0 m 2 ls []) := by
  have hx := F.1
  have hb := F.2.1
  have hts := F.2.2.2.2
  have hown := F.2.2.2.1
  have hi1 : ∀ w ∈ u_ws RX1 TX1 9, w ∈ wsX1_covers := by decide +kernel
  intro fu
  induction fu with
  | zero => intro j h1 h2; omega
  | succ fu ih =>
    intro j h1 h2 hno ls hl
    obtain ⟨hd1, hd2, hd3, hd4⟩ := id hs
    refine lv_iload_n hx hb dX1_covers_2 rfl (lv_at hl 0 rfl) ?_
    refine lv_aload_n hx hb dX1_covers_3 rfl (lv_at hl 1 rfl) ?_
    refine z_get (C := RX1) (T := TX1) (N := 9) (ci := 1) (v := .int (nI (M 7 i))) F hK hP hi1 rfl (4 + 4 * i) 6 (by have := hi; omega) (cX_s hi) (by decide) rfl (by decide +kernel) dX1_covers_4 ?_
    refine z_icmp_ge (tgt := 51) F (by omega) (by omega) dX1_covers_7 (by decide) (fun c6 => ?_) (fun c6 => ?_)
    · exact k0 (fun ⟨zx, zq1, zq2⟩ => hno zx (by omega) ⟨zq1, zq2⟩) ls
    · refine lv_aload_n hx hb dX1_covers_10 rfl (lv_at hl 1 rfl) ?_
      refine z_get (C := RX1) (T := TX1) (N := 9) (ci := 1) (v := .ref (ad (5 + 4 * i))) F hK hP hi1 rfl (4 + 4 * i) 3 (by have := hi; omega) (cX_s hi) (by decide) rfl (by decide +kernel) dX1_covers_11 ?_
      refine lv_iload_n hx hb dX1_covers_14 rfl (lv_at hl 0 rfl) ?_
      refine z_iald (v := nI (M 4 (8 * i + j))) F hK hP (5 + 4 * i) 0 (by have := hi; omega) (cX_a0 hi) rfl (i := nI j) j rfl (by omega) (by decide) (rw0_at (by omega)) dX1_covers_15 ?_
      refine lv_iload_n hx hb dX1_covers_16 rfl (lv_at hl 2 rfl) ?_
      refine lv_ishr hx hb dX1_covers_17 ?_
      refine lv_iconst (v := nI 1) hx hb dX1_covers_18 (by decide) ?_
      refine lv_iand hx hb dX1_covers_19 ?_
      obtain ⟨hj1, hj2, hj3⟩ := ho j (by omega)
      refine z_top ((cov_bit _ hj1 kd hkd).trans bit_b) ?_
      refine z_ifb_eq (tgt := 45) F dX1_covers_20 (by decide) (fun c7 => ?_) (fun c7 => ?_)
      · refine lv_iinc (v := nI (j + 1)) (lv' := [(3, .int (nI (j + 1))), (0, .ref (ad (4 + 4 * i))), (1, .int (nI kd)), (2, .int (nI d))]) hx hb dX1_covers_45 hl (k := 0) rfl (nI_1 j) (by decide) rfl (fun ls hl => ?_)
        refine lv_goto (tgt := 2) hx hb dX1_covers_48 (by decide) ?_
        refine ih (j + 1) (by omega) (by omega) (fun zx zq1 zq => ?_) ls (lv_sub hl [0, 1, 2, 3] rfl)
        obtain ⟨zq2, zq3⟩ := zq
        rcases Nat.lt_or_ge zx j with zq4 | zq4
        · exact hno zx zq4 ⟨zq2, zq3⟩
        · obtain rfl : zx = j := by omega
          exact c7 zq3.1
      · refine lv_aload_n hx hb dX1_covers_23 rfl (lv_at hl 1 rfl) ?_
        refine z_get (C := RX1) (T := TX1) (N := 9) (ci := 1) (v := .ref (ad (6 + 4 * i))) F hK hP hi1 rfl (4 + 4 * i) 4 (by have := hi; omega) (cX_s hi) (by decide) rfl (by decide +kernel) dX1_covers_24 ?_
        refine lv_iload_n hx hb dX1_covers_27 rfl (lv_at hl 0 rfl) ?_
        refine z_iald (v := nI (M 5 (8 * i + j))) F hK hP (6 + 4 * i) 0 (by have := hi; omega) (cX_a1 hi) rfl (i := nI j) j rfl (by omega) (by decide) (rw0_at (by omega)) dX1_covers_28 ?_
        refine lv_iload_n hx hb dX1_covers_29 rfl (lv_at hl 3 rfl) ?_
        refine z_icmp_gt (tgt := 45) F (by omega) (by omega) dX1_covers_30 (by decide) (fun c8 => ?_) (fun c8 => ?_)
        · refine lv_iinc (v := nI (j + 1)) (lv' := [(3, .int (nI (j + 1))), (0, .ref (ad (4 + 4 * i))), (1, .int (nI kd)), (2, .int (nI d))]) hx hb dX1_covers_45 hl (k := 0) rfl (nI_1 j) (by decide) rfl (fun ls hl => ?_)
          refine lv_goto (tgt := 2) hx hb dX1_covers_48 (by decide) ?_
          refine ih (j + 1) (by omega) (by omega) (fun zx zq1 zq => ?_) ls (lv_sub hl [0, 1, 2, 3] rfl)
          obtain ⟨zq2, zq3⟩ := zq
          rcases Nat.lt_or_ge zx j with zq4 | zq4
          · exact hno zx zq4 ⟨zq2, zq3⟩
          · obtain rfl : zx = j := by omega
            exact absurd zq3.2.1 (by omega)
        · refine lv_iload_n hx hb dX1_covers_33 rfl (lv_at hl 3 rfl) ?_
          refine lv_aload_n hx hb dX1_covers_34 rfl (lv_at hl 1 rfl) ?_
          refine z_get (C := RX1) (T := TX1) (N := 9) (ci := 1) (v := .ref (ad (7 + 4 * i))) F hK hP hi1 rfl (4 + 4 * i) 5 (by have := hi; omega) (cX_s hi) (by decide) rfl (by decide +kernel) dX1_covers_35 ?_
          refine lv_iload_n hx hb dX1_covers_38 rfl (lv_at hl 0 rfl) ?_
          refine z_iald (v := nI (M 6 (8 * i + j))) F hK hP (7 + 4 * i) 0 (by have := hi; omega) (cX_a2 hi) rfl (i := nI j) j rfl (by omega) (by decide) (rw0_at (by omega)) dX1_covers_39 ?_
          refine z_icmp_gt (tgt := 45) F (by omega) (by omega) dX1_covers_40 (by decide) (fun c9 => ?_) (fun c9 => ?_)
          · refine lv_iinc (v := nI (j + 1)) (lv' := [(3, .int (nI (j + 1))), (0, .ref (ad (4 + 4 * i))), (1, .int (nI kd)), (2, .int (nI d))]) hx hb dX1_covers_45 hl (k := 0) rfl (nI_1 j) (by decide) rfl (fun ls hl => ?_)
            refine lv_goto (tgt := 2) hx hb dX1_covers_48 (by decide) ?_
            refine ih (j + 1) (by omega) (by omega) (fun zx zq1 zq => ?_) ls (lv_sub hl [0, 1, 2, 3] rfl)
            obtain ⟨zq2, zq3⟩ := zq
            rcases Nat.lt_or_ge zx j with zq4 | zq4
            · exact hno zx zq4 ⟨zq2, zq3⟩
            · obtain rfl : zx = j := by omega
              exact absurd zq3.2.2 (by omega)
          · exact k1 ⟨j, c6, c7, c8, c9⟩ ls
set_option maxRecDepth 100000 in
set_option maxHeartbeats 4000000 in
/-- Site.covers(kd, d) -/
theorem c_X1_covers (l : Launch) (D : va_G) (k : Nat → ClassId) (ad : Nat → Nat) (M : Nat → Nat → Nat) (O : Nat → Nat → Int32) (i : Nat) (hs : zSi M i) (ho : zCo M i) (kd d : Nat) (hi : i < 4) (hkd : kd < 4) (hd : d ≤ 1000) : Met l yX1_covers wsX1_covers ({ frames := 0, cells := 0, slots := 0, locals := 0 }) (va_Pc [.ref (ad (4 + 4 * i)), .int (nI kd), .int (nI d)] (zR D k (20 + 2 * M 0 1) ad (cX k ad M O))) (vp_Si (fun r => r = bI (cov M i kd d))) 0 0 (fun _ => False) := by
  refine Met.ofW (cc := cX1_covers) (maxL := 4) (ret := (some .boolean)) (by decide) rfl ?_
  intro p e s m args below meth c s₁ B hml hv
  obtain ⟨rfl, hP, hK⟩ := hv
  have hx := B.exec
  have hb := B.bytes
  have hr := B.returns
  have hts := atoms_spec (ws := wsX1_covers) B.pre
  have hown : s.vm.findClass RX1 = some m.cls := findClass_of_methodNamed B.named
  have hlocks := B.notSynchronized
  have F : CallFix p m c cX1_covers 4 s _ wsX1_covers RX1 := ⟨hx, hb, hml, hown, hts⟩
  have hl := lv_entry ([.ref (ad (4 + 4 * i)), .int (nI kd), .int (nI d)]) (n := 4) (Nat.le_of_ble_eq_true rfl)
  rw [lg_entry_eq]
  generalize (lg_sl ([.ref (ad (4 + 4 * i)), .int (nI kd), .int (nI d)]) ++ List.replicate (4 - (lg_sl ([.ref (ad (4 + 4 * i)), .int (nI kd), .int (nI d)])).length) Slot.unset).toArray = ls at hl ⊢
  have hl : lv_has ls 4 [(0, .ref (ad (4 + 4 * i))), (1, .int (nI kd)), (2, .int (nI d))] := hl
  obtain ⟨hd1, hd2, hd3, hd4⟩ := id hs
  refine lv_iconst (v := nI 0) hx hb dX1_covers_0 (by decide) ?_
  refine lv_istore_n (lv' := [(3, .int (nI 0)), (0, .ref (ad (4 + 4 * i))), (1, .int (nI kd)), (2, .int (nI d))]) hx hb dX1_covers_1 rfl hl (by decide) rfl (fun ls hl => ?_)
  refine lp_covers F hK hs ho hi hkd hd hP (fun hc ls => ?_) (fun hc ls => ?_) (M 7 i + 1) 0 (Nat.zero_le _) (by omega) (fun zx zq => absurd zq (Nat.not_lt_zero zx)) ls (lv_sub hl [0, 1, 2, 3] rfl)
  · refine lv_iconst (v := nI 1) hx hb dX1_covers_43 (by decide) ?_
    exact W.zret (v := nI 1) hx hb hr rfl (fun t ht hW => ⟨nI 1, rfl, (bI_t hc).symm, ht⟩) (fun q h => by cases h) dX1_covers_44
  · refine lv_iconst (v := nI 0) hx hb dX1_covers_51 (by decide) ?_
    exact W.zret (v := nI 0) hx hb hr rfl (fun t ht hW => ⟨nI 0, rfl, (bI_f hc).symm, ht⟩) (fun q h => by cases h) dX1_covers_52
/-- a contract more, if there is room -/
def kcM (M : Nat → Nat → Nat) (i kk fr to : Nat) : Nat → Nat → Nat := if M 7 i < 8 then zu (zu (zu (zu M 4 (8 * i + M 7 i) kk) 5 (8 * i + M 7 i) fr) 6 (8 * i + M 7 i) to) 7 i (M 7 i + 1) else M
set_option maxRecDepth 100000 in
set_option maxHeartbeats 4000000 in
/-- Site.keepContract(kk, fr, to) -/
theorem c_X1_keepContract (l : Launch) (D : va_G) (k : Nat → ClassId) (ad : Nat → Nat) (M : Nat → Nat → Nat) (O : Nat → Nat → Int32) (sz : Nat) (i : Nat) (hs : zSi M i) (kk fr to : Nat) (hi : i < 4) : Met l yX1_keepContract wsX1_keepContract ({ frames := 0, cells := 0, slots := 0, locals := 0 }) (va_Pc [.ref (ad (4 + 4 * i)), .int (nI kk), .int (nI fr), .int (nI to)] (zG D k (20 + 2 * M 0 1) ad (cX k ad M O) sz)) (zQw D k (20 + 2 * M 0 1) ad (cX k ad (kcM M i kk fr to) O) (va_A (zw (20 + 2 * M 0 1) ad (cX k ad M O)) sz) (fun r => r = bI (M 7 i < 8))) 0 0 (va_A (zw (20 + 2 * M 0 1) ad (cX k ad M O)) sz) := by
  refine Met.ofW (cc := cX1_keepContract) (maxL := 4) (ret := (some .boolean)) (by decide) rfl ?_
  intro p e s m args below meth c s₁ B hml hv
  obtain ⟨rfl, hsz, ⟨hP, hK⟩, hD0⟩ := hv
  have hx := B.exec
  have hb := B.bytes
  have hr := B.returns
  have hts := atoms_spec (ws := wsX1_keepContract) B.pre
  have hown : s.vm.findClass RX1 = some m.cls := findClass_of_methodNamed B.named
  have hlocks := B.notSynchronized
  have F : CallFix p m c cX1_keepContract 4 s _ wsX1_keepContract RX1 := ⟨hx, hb, hml, hown, hts⟩
  subst hsz
  have hD := hD0.self (sz := s.heap.size)
  generalize hAe : va_A (zw (20 + 2 * M 0 1) ad (cX k ad M O)) s.heap.size = A at hD ⊢
  have hA : ∀ q : Nat, s.heap.size ≤ q → A q := fun q h => by rw [← hAe]; exact Or.inr h
  have hS : va_S A s.heap s.heap [] := va_S.rf
  have hl := lv_entry ([.ref (ad (4 + 4 * i)), .int (nI kk), .int (nI fr), .int (nI to)]) (n := 4) (Nat.le_of_ble_eq_true rfl)
  rw [lg_entry_eq]
  generalize (lg_sl ([.ref (ad (4 + 4 * i)), .int (nI kk), .int (nI fr), .int (nI to)]) ++ List.replicate (4 - (lg_sl ([.ref (ad (4 + 4 * i)), .int (nI kk), .int (nI fr), .int (nI to)])).length) Slot.unset).toArray = ls at hl ⊢
  have hl : lv_has ls 4 [(0, .ref (ad (4 + 4 * i))), (1, .int (nI kk)), (2, .int (nI fr)), (3, .int (nI to))] := hl
  have hi1 : ∀ w ∈ u_ws RX1 TX1 9, w ∈ wsX1_keepContract := by decide +kernel
  obtain ⟨hd1, hd2, hd3, hd4⟩ := id hs
  refine lv_aload_n hx hb dX1_keepContract_0 rfl (lv_at hl 0 rfl) ?_
  refine z_get (C := RX1) (T := TX1) (N := 9) (ci := 1) (v := .int (nI (M 7 i))) F hK hP hi1 rfl (4 + 4 * i) 6 (by have := hi; omega) (cX_s hi) (by decide) rfl (by decide +kernel) dX1_keepContract_1 ?_
  refine lv_bipush (v := nI 8) hx hb dX1_keepContract_4 (by decide) ?_
  refine z_icmp_lt (tgt := 11) F (by omega) (by omega) dX1_keepContract_6 (by decide) (fun c10 => ?_) (fun c10 => ?_)
  · refine lv_aload_n hx hb dX1_keepContract_11 rfl (lv_at hl 0 rfl) ?_
    refine z_get (C := RX1) (T := TX1) (N := 9) (ci := 1) (v := .ref (ad (5 + 4 * i))) F hK hP hi1 rfl (4 + 4 * i) 3 (by have := hi; omega) (cX_s hi) (by decide) rfl (by decide +kernel) dX1_keepContract_12 ?_
    refine lv_aload_n hx hb dX1_keepContract_15 rfl (lv_at hl 0 rfl) ?_
    refine z_get (C := RX1) (T := TX1) (N := 9) (ci := 1) (v := .int (nI (M 7 i))) F hK hP hi1 rfl (4 + 4 * i) 6 (by have := hi; omega) (cX_s hi) (by decide) rfl (by decide +kernel) dX1_keepContract_16 ?_
    refine lv_iload_n hx hb dX1_keepContract_19 rfl (lv_at hl 1 rfl) ?_
    refine z_iast (f' := (cX k ad (zu M 4 (8 * i + (M 7 i)) kk) O)) F hK hP hD hS (5 + 4 * i) 0 (by have := hi; omega) (cX_a0 hi) rfl (i := nI (M 7 i)) (M 7 i) rfl (by omega) (by decide) (cX_ucon0 hi (by omega) _) dX1_keepContract_20 (fun H locs hP hD hS => ?_)
    refine lv_aload_n hx hb dX1_keepContract_21 rfl (lv_at hl 0 rfl) ?_
    refine z_get (C := RX1) (T := TX1) (N := 9) (ci := 1) (v := .ref (ad (6 + 4 * i))) F hK hP hi1 rfl (4 + 4 * i) 4 (by have := hi; omega) (cX_s hi) (by decide) rfl (by decide +kernel) dX1_keepContract_22 ?_
    refine lv_aload_n hx hb dX1_keepContract_25 rfl (lv_at hl 0 rfl) ?_
    refine z_get (C := RX1) (T := TX1) (N := 9) (ci := 1) (v := .int (nI (M 7 i))) F hK hP hi1 rfl (4 + 4 * i) 6 (by have := hi; omega) (cX_s hi) (by decide) rfl (by decide +kernel) dX1_keepContract_26 ?_
    refine lv_iload_n hx hb dX1_keepContract_29 rfl (lv_at hl 2 rfl) ?_
    refine z_iast (f' := (cX k ad (zu (zu M 4 (8 * i + (M 7 i)) kk) 5 (8 * i + (M 7 i)) fr) O)) F hK hP hD hS (6 + 4 * i) 0 (by have := hi; omega) (cX_a1 hi) rfl (i := nI (M 7 i)) (M 7 i) rfl (by omega) (by decide) (cX_ucon1 hi (by omega) _) dX1_keepContract_30 (fun H locs hP hD hS => ?_)
    refine lv_aload_n hx hb dX1_keepContract_31 rfl (lv_at hl 0 rfl) ?_
    refine z_get (C := RX1) (T := TX1) (N := 9) (ci := 1) (v := .ref (ad (7 + 4 * i))) F hK hP hi1 rfl (4 + 4 * i) 5 (by have := hi; omega) (cX_s hi) (by decide) rfl (by decide +kernel) dX1_keepContract_32 ?_
    refine lv_aload_n hx hb dX1_keepContract_35 rfl (lv_at hl 0 rfl) ?_
    refine z_get (C := RX1) (T := TX1) (N := 9) (ci := 1) (v := .int (nI (M 7 i))) F hK hP hi1 rfl (4 + 4 * i) 6 (by have := hi; omega) (cX_s hi) (by decide) rfl (by decide +kernel) dX1_keepContract_36 ?_
    refine lv_iload_n hx hb dX1_keepContract_39 rfl (lv_at hl 3 rfl) ?_
    refine z_iast (f' := (cX k ad (zu (zu (zu M 4 (8 * i + (M 7 i)) kk) 5 (8 * i + (M 7 i)) fr) 6 (8 * i + (M 7 i)) to) O)) F hK hP hD hS (7 + 4 * i) 0 (by have := hi; omega) (cX_a2 hi) rfl (i := nI (M 7 i)) (M 7 i) rfl (by omega) (by decide) (cX_ucon2 hi (by omega) _) dX1_keepContract_40 (fun H locs hP hD hS => ?_)
    refine lv_aload_n hx hb dX1_keepContract_41 rfl (lv_at hl 0 rfl) ?_
    refine lv_dup hx hb dX1_keepContract_42 rfl ?_
    refine z_get (C := RX1) (T := TX1) (N := 9) (ci := 1) (v := .int (nI (M 7 i))) F hK hP hi1 rfl (4 + 4 * i) 6 (by have := hi; omega) (cX_s hi) (by decide) rfl (by decide +kernel) dX1_keepContract_43 ?_
    refine lv_iconst (v := nI 1) hx hb dX1_keepContract_46 (by decide) ?_
    refine z_add F dX1_keepContract_47 ?_
    refine z_put (C := RX1) (T := TX1) (N := 9) (ci := 1) (f' := (cX k ad (zu (zu (zu (zu M 4 (8 * i + (M 7 i)) kk) 5 (8 * i + (M 7 i)) fr) 6 (8 * i + (M 7 i)) to) 7 i ((M 7 i) + 1)) O)) F hK hP hD hS hi1 rfl tyX1 tyX1_ok nmX1 (4 + 4 * i) 6 (by have := hi; omega) (cX_s hi) (by decide) (Nat.le_of_ble_eq_true rfl) (by decide +kernel) rfl rfl rfl rfl (cX_ucc hi _) dX1_keepContract_48 (fun H locs hP hD hS => ?_)
    refine lv_iconst (v := nI 1) hx hb dX1_keepContract_51 (by decide) ?_
    have eW : cX k ad (kcM M i kk fr to) O = cX k ad (zu (zu (zu (zu M 4 (8 * i + (M 7 i)) kk) 5 (8 * i + (M 7 i)) fr) 6 (8 * i + (M 7 i)) to) 7 i ((M 7 i) + 1)) O := by unfold kcM; rw [if_pos c10]
    rw [← eW] at hP hD
    refine W.widen (k := 0) (n := 0) (Nat.le_of_ble_eq_true rfl) (Nat.le_of_ble_eq_true rfl) ?_
    exact W.zret (v := nI 1) hx hb hr rfl (fun t ht hW => ⟨⟨nI 1, (), rfl, (bI_t c10).symm, ⟨by rw [ht]; exact hP, va_K.moved hW.alike hK⟩, hD⟩, hS.F ht⟩) hS.2.2 dX1_keepContract_52
  · refine lv_iconst (v := nI 0) hx hb dX1_keepContract_9 (by decide) ?_
    have eW : cX k ad (kcM M i kk fr to) O = cX k ad M O := by unfold kcM; rw [if_neg (Nat.not_lt.mpr c10)]
    rw [← eW] at hP hD
    refine W.widen (k := 0) (n := 0) (Nat.le_of_ble_eq_true rfl) (Nat.le_of_ble_eq_true rfl) ?_
    exact W.zret (v := nI 0) hx hb hr rfl (fun t ht hW => ⟨⟨nI 0, (), rfl, (bI_f (Nat.not_lt.mpr c10)).symm, ⟨by rw [ht]; exact hP, va_K.moved hW.alike hK⟩, hD⟩, hS.F ht⟩) hS.2.2 dX1_keepContract_10
