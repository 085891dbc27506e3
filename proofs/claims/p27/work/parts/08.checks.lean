theorem tg_fI : Bundle.fit exI = true := by decide +kernel
theorem tg_fA : Bundle.fit exA = true := by decide +kernel
theorem tg_fS : Bundle.fit exS = true := by decide +kernel
theorem tg_nI : ∀ w ∈ (vx_atS RX2 159 exI exN).filter (fun w => !goodWord w), w ∈ [Cond.castable exI exI, Cond.declares exR, Cond.declares exE, Cond.declares exT] := by decide +kernel
theorem tg_nA : ∀ w ∈ (vx_atS RX2 170 exA exN).filter (fun w => !goodWord w), w ∈ [Cond.castable exA exA, Cond.declares exR, Cond.declares exE, Cond.declares exT] := by decide +kernel
theorem tg_nS : ∀ w ∈ (vx_atS RX2 175 exS exN).filter (fun w => !goodWord w), w ∈ [Cond.castable exS exS, Cond.declares exR, Cond.declares exE, Cond.declares exT] := by decide +kernel
theorem tg_gI : ∀ w ∈ Cond.classLink RX2 155 exI :: Cond.initialized exI :: vx_atS RX2 159 exI exN, vx_ot w = true := by decide +kernel
theorem tg_gA : ∀ w ∈ Cond.classLink RX2 166 exA :: Cond.initialized exA :: vx_atS RX2 170 exA exN, vx_ot w = true := by decide +kernel
theorem tg_gS : ∀ w ∈ Cond.classLink RX2 171 exS :: Cond.initialized exS :: vx_atS RX2 175 exS exN, vx_ot w = true := by decide +kernel
set_option maxRecDepth 100000 in
set_option maxHeartbeats 4000000 in
/-- checkArgument -/
theorem c_X2_checkArgument (l : Launch) (hfl : l.stackTraces = false) (sa : Nat → Nat) (Z : Prop) : vx_Met l yX2_checkArgument wsX2_checkArgument ({ frames := 6, cells := 1, slots := 6, locals := 82 }) (va_Pc [.int (bI Z)] (fun U => zE noA sa U U.heap)) (zQv Z) (zX (fun E => E = exA ∧ ¬ Z)) 1 6 noA := by
  refine vx_ofW (cc := cX2_checkArgument) (maxL := 1) (ret := none) (by decide) rfl ?_
  intro p e s m args below meth c s₁ B hml hnox hv
  obtain ⟨rfl, hE⟩ := hv
  have hx := B.exec
  have hb := B.bytes
  have hr := B.returns
  have hts := atoms_spec (ws := wsX2_checkArgument) B.pre
  have hown : s.vm.findClass RX2 = some m.cls := findClass_of_methodNamed B.named
  have hlocks := B.notSynchronized
  have F : CallFix p m c cX2_checkArgument 1 s _ wsX2_checkArgument RX2 := ⟨hx, hb, hml, hown, hts⟩
  have hl := lv_entry ([.int (bI Z)]) (n := 1) (Nat.le_of_ble_eq_true rfl)
  rw [lg_entry_eq]
  generalize (lg_sl ([.int (bI Z)]) ++ List.replicate (1 - (lg_sl ([.int (bI Z)])).length) Slot.unset).toArray = ls at hl ⊢
  have hl : lv_has ls 1 [(0, .int (bI Z))] := hl
  have hS0 : va_S noA s.heap s.heap [] := va_S.rf
  refine lv_iload_n hx hb dX2_checkArgument_0 rfl (lv_at hl 0 rfl) ?_
  refine z_ifb_ne (tgt := 14) F dX2_checkArgument_1 (by decide) (fun c1 => ?_) (fun c1 => ?_)
  · refine vx_ret (mc := 1) (ms := 6) (W.widen (k := 1) (n := 6) (Nat.le_of_ble_eq_true rfl) (Nat.le_of_ble_eq_true rfl) ?_)
    exact W.vret hx hb hr (fun t ht hW => ⟨⟨(), rfl, c1, trivial⟩, hS0.F ht⟩) (fun q h => (hS0.2.2 q h).elim) dX2_checkArgument_14
  · exact z_throw (own := RX2) (cls := exA) (text := "an argument is out of its range") (ik := 166) (is := 168) (ic := 170) F hfl tg_fA (by decide +kernel) (by decide +kernel) hE.2.1.2.2.2.1 (fun w h => List.mem_cons_of_mem _ (List.mem_append_right _ h)) tg_nA hE.2.2.1.2.1 tg_gA hE hS0 hl.1 dX2_checkArgument_4 dX2_checkArgument_7 dX2_checkArgument_8 dX2_checkArgument_10 dX2_checkArgument_13 hnox hlocks (Nat.le_of_ble_eq_true rfl) (Nat.le_of_ble_eq_true rfl) (Nat.le_of_ble_eq_true rfl) (Nat.le_of_ble_eq_true rfl) (Nat.le_of_ble_eq_true rfl) (Nat.le_of_ble_eq_true rfl) ⟨rfl, c1⟩
set_option maxRecDepth 100000 in
set_option maxHeartbeats 4000000 in
/-- checkState -/
theorem c_X2_checkState (l : Launch) (hfl : l.stackTraces = false) (sa : Nat → Nat) (Z : Prop) : vx_Met l yX2_checkState wsX2_checkState ({ frames := 6, cells := 1, slots := 6, locals := 82 }) (va_Pc [.int (bI Z)] (fun U => zE noA sa U U.heap)) (zQv Z) (zX (fun E => E = exS ∧ ¬ Z)) 1 6 noA := by
  refine vx_ofW (cc := cX2_checkState) (maxL := 1) (ret := none) (by decide) rfl ?_
  intro p e s m args below meth c s₁ B hml hnox hv
  obtain ⟨rfl, hE⟩ := hv
  have hx := B.exec
  have hb := B.bytes
  have hr := B.returns
  have hts := atoms_spec (ws := wsX2_checkState) B.pre
  have hown : s.vm.findClass RX2 = some m.cls := findClass_of_methodNamed B.named
  have hlocks := B.notSynchronized
  have F : CallFix p m c cX2_checkState 1 s _ wsX2_checkState RX2 := ⟨hx, hb, hml, hown, hts⟩
  have hl := lv_entry ([.int (bI Z)]) (n := 1) (Nat.le_of_ble_eq_true rfl)
  rw [lg_entry_eq]
  generalize (lg_sl ([.int (bI Z)]) ++ List.replicate (1 - (lg_sl ([.int (bI Z)])).length) Slot.unset).toArray = ls at hl ⊢
  have hl : lv_has ls 1 [(0, .int (bI Z))] := hl
  have hS0 : va_S noA s.heap s.heap [] := va_S.rf
  refine lv_iload_n hx hb dX2_checkState_0 rfl (lv_at hl 0 rfl) ?_
  refine z_ifb_ne (tgt := 14) F dX2_checkState_1 (by decide) (fun c2 => ?_) (fun c2 => ?_)
  · refine vx_ret (mc := 1) (ms := 6) (W.widen (k := 1) (n := 6) (Nat.le_of_ble_eq_true rfl) (Nat.le_of_ble_eq_true rfl) ?_)
    exact W.vret hx hb hr (fun t ht hW => ⟨⟨(), rfl, c2, trivial⟩, hS0.F ht⟩) (fun q h => (hS0.2.2 q h).elim) dX2_checkState_14
  · exact z_throw (own := RX2) (cls := exS) (text := "not in this state") (ik := 171) (is := 173) (ic := 175) F hfl tg_fS (by decide +kernel) (by decide +kernel) hE.2.1.2.2.2.2 (fun w h => List.mem_cons_of_mem _ (List.mem_append_right _ h)) tg_nS hE.2.2.1.2.2 tg_gS hE hS0 hl.1 dX2_checkState_4 dX2_checkState_7 dX2_checkState_8 dX2_checkState_10 dX2_checkState_13 hnox hlocks (Nat.le_of_ble_eq_true rfl) (Nat.le_of_ble_eq_true rfl) (Nat.le_of_ble_eq_true rfl) (Nat.le_of_ble_eq_true rfl) (Nat.le_of_ble_eq_true rfl) (Nat.le_of_ble_eq_true rfl) ⟨rfl, c2⟩
set_option maxRecDepth 100000 in
set_option maxHeartbeats 4000000 in
/-- checkKind -/
theorem c_X2_checkKind (l : Launch) (hfl : l.stackTraces = false) (sa : Nat → Nat) (p0 : Int32) : vx_Met l yX2_checkKind wsX2_checkKind ({ frames := 6, cells := 1, slots := 6, locals := 82 }) (va_Pc [.int p0] (fun U => zE noA sa U U.heap)) (zQv (zI 4 p0)) (zX (fun E => E = exI ∧ ¬ zI 4 p0)) 1 6 noA := by
  refine vx_ofW (cc := cX2_checkKind) (maxL := 1) (ret := none) (by decide) rfl ?_
  intro p e s m args below meth c s₁ B hml hnox hv
  obtain ⟨rfl, hE⟩ := hv
  have hx := B.exec
  have hb := B.bytes
  have hr := B.returns
  have hts := atoms_spec (ws := wsX2_checkKind) B.pre
  have hown : s.vm.findClass RX2 = some m.cls := findClass_of_methodNamed B.named
  have hlocks := B.notSynchronized
  have F : CallFix p m c cX2_checkKind 1 s _ wsX2_checkKind RX2 := ⟨hx, hb, hml, hown, hts⟩
  have hl := lv_entry ([.int p0]) (n := 1) (Nat.le_of_ble_eq_true rfl)
  rw [lg_entry_eq]
  generalize (lg_sl ([.int p0]) ++ List.replicate (1 - (lg_sl ([.int p0])).length) Slot.unset).toArray = ls at hl ⊢
  have hl : lv_has ls 1 [(0, .int p0)] := hl
  have hS0 : va_S noA s.heap s.heap [] := va_S.rf
  refine lv_iload_n hx hb dX2_checkKind_0 rfl (lv_at hl 0 rfl) ?_
  refine lv_if_lt (tgt := 9) hx hb dX2_checkKind_1 (by decide) (fun c3 => ?_) (fun c3 => ?_)
  · exact z_throw (own := RX2) (cls := exI) (text := "no such kind") (ik := 155) (is := 164) (ic := 159) F hfl tg_fI (by decide +kernel) (by decide +kernel) hE.2.1.2.2.1 (fun w h => List.mem_cons_of_mem _ (List.mem_append_right _ h)) tg_nI hE.2.2.1.1 tg_gI hE hS0 hl.1 dX2_checkKind_9 dX2_checkKind_12 dX2_checkKind_13 dX2_checkKind_15 dX2_checkKind_18 hnox hlocks (Nat.le_of_ble_eq_true rfl) (Nat.le_of_ble_eq_true rfl) (Nat.le_of_ble_eq_true rfl) (Nat.le_of_ble_eq_true rfl) (Nat.le_of_ble_eq_true rfl) (Nat.le_of_ble_eq_true rfl) ⟨rfl, fun ⟨zj, zj1, zj2⟩ => by subst zj2; exact nI_pos (by omega) c3⟩
  · refine lv_iload_n hx hb dX2_checkKind_4 rfl (lv_at hl 0 rfl) ?_
    refine lv_iconst (v := nI 4) hx hb dX2_checkKind_5 (by decide) ?_
    refine lv_icmp_lt (tgt := 19) hx hb dX2_checkKind_6 (by decide) (fun c4 => ?_) (fun c4 => ?_)
    · refine vx_ret (mc := 1) (ms := 6) (W.widen (k := 1) (n := 6) (Nat.le_of_ble_eq_true rfl) (Nat.le_of_ble_eq_true rfl) ?_)
      exact W.vret hx hb hr (fun t ht hW => ⟨⟨(), rfl, ((zI_iff (by decide)).mp ⟨Int32.not_lt.mp c3, c4⟩), trivial⟩, hS0.F ht⟩) (fun q h => (hS0.2.2 q h).elim) dX2_checkKind_19
    · exact z_throw (own := RX2) (cls := exI) (text := "no such kind") (ik := 155) (is := 164) (ic := 159) F hfl tg_fI (by decide +kernel) (by decide +kernel) hE.2.1.2.2.1 (fun w h => List.mem_cons_of_mem _ (List.mem_append_right _ h)) tg_nI hE.2.2.1.1 tg_gI hE hS0 hl.1 dX2_checkKind_9 dX2_checkKind_12 dX2_checkKind_13 dX2_checkKind_15 dX2_checkKind_18 hnox hlocks (Nat.le_of_ble_eq_true rfl) (Nat.le_of_ble_eq_true rfl) (Nat.le_of_ble_eq_true rfl) (Nat.le_of_ble_eq_true rfl) (Nat.le_of_ble_eq_true rfl) (Nat.le_of_ble_eq_true rfl) ⟨rfl, fun ⟨zj, zj1, zj2⟩ => by subst zj2; exact c4 (nI_lt (by omega) (by decide))⟩
set_option maxRecDepth 100000 in
set_option maxHeartbeats 4000000 in
/-- checkRange -/
theorem c_X2_checkRange (l : Launch) (hfl : l.stackTraces = false) (sa : Nat → Nat) (p0 p1 p2 : Int32) : vx_Met l yX2_checkRange wsX2_checkRange ({ frames := 7, cells := 1, slots := 6, locals := 102 }) (va_Pc [.int p0, .int p1, .int p2] (fun U => zE noA sa U U.heap)) (zQv (p1 ≤ p0 ∧ p0 ≤ p2)) (zX (fun E => E = exA ∧ ¬ (p1 ≤ p0 ∧ p0 ≤ p2))) 1 6 noA := by
  refine vx_ofW (cc := cX2_checkRange) (maxL := 3) (ret := none) (by decide) rfl ?_
  intro p e s m args below meth c s₁ B hml hnox hv
  obtain ⟨rfl, hE⟩ := hv
  have hx := B.exec
  have hb := B.bytes
  have hr := B.returns
  have hts := atoms_spec (ws := wsX2_checkRange) B.pre
  have hown : s.vm.findClass RX2 = some m.cls := findClass_of_methodNamed B.named
  have hlocks := B.notSynchronized
  have F : CallFix p m c cX2_checkRange 3 s _ wsX2_checkRange RX2 := ⟨hx, hb, hml, hown, hts⟩
  have hl := lv_entry ([.int p0, .int p1, .int p2]) (n := 3) (Nat.le_of_ble_eq_true rfl)
  rw [lg_entry_eq]
  generalize (lg_sl ([.int p0, .int p1, .int p2]) ++ List.replicate (3 - (lg_sl ([.int p0, .int p1, .int p2])).length) Slot.unset).toArray = ls at hl ⊢
  have hl : lv_has ls 3 [(0, .int p0), (1, .int p1), (2, .int p2)] := hl
  have hS0 : va_S noA s.heap s.heap [] := va_S.rf
  refine lv_iload_n hx hb dX2_checkRange_0 rfl (lv_at hl 1 rfl) ?_
  refine lv_iload_n hx hb dX2_checkRange_1 rfl (lv_at hl 0 rfl) ?_
  refine lv_icmp_gt (tgt := 14) hx hb dX2_checkRange_2 (by decide) (fun c5 => ?_) (fun c5 => ?_)
  · refine lv_iconst (v := nI 0) hx hb dX2_checkRange_14 (by decide) ?_
    refine z_top (show nI 0 = bI (p1 ≤ p0 ∧ p0 ≤ p2) from (bI_f (fun zz1 => Int32.not_lt.mpr zz1.1 c5)).symm) ?_
    refine z_xS (As := [.int (bI (p1 ≤ p0 ∧ p0 ≤ p2))]) (rest := []) F (c_X2_checkArgument l hfl sa (p1 ≤ p0 ∧ p0 ≤ p2)) (va_cwS 1 hts gX2_checkRange_X2_checkArgument rfl rfl rfl (by decide +kernel) ⟨Nat.le_of_ble_eq_true rfl, Nat.le_of_ble_eq_true rfl⟩) hE hS0 hnox hlocks rfl hl.1 rfl (Nat.le_of_ble_eq_true rfl) dX2_checkRange_15 ⟨Nat.le_of_ble_eq_true rfl, Nat.le_of_ble_eq_true rfl⟩ (Nat.le_of_ble_eq_true rfl) (Nat.le_of_ble_eq_true rfl) (fun E hpx => hpx) (fun c6 H1 locs1 hz1 hk1 hS0 => ?_)
    refine vx_ret (mc := 1) (ms := 6) (W.widen (k := 1) (n := 6) (Nat.le_of_ble_eq_true rfl) (Nat.le_of_ble_eq_true rfl) ?_)
    exact W.vret hx hb hr (fun t ht hW => ⟨⟨(), rfl, c6, trivial⟩, hS0.F ht⟩) (fun q h => (hS0.2.2 q h).elim) dX2_checkRange_18
  · refine lv_iload_n hx hb dX2_checkRange_5 rfl (lv_at hl 0 rfl) ?_
    refine lv_iload_n hx hb dX2_checkRange_6 rfl (lv_at hl 2 rfl) ?_
    refine lv_icmp_gt (tgt := 14) hx hb dX2_checkRange_7 (by decide) (fun c7 => ?_) (fun c7 => ?_)
    · refine lv_iconst (v := nI 0) hx hb dX2_checkRange_14 (by decide) ?_
      refine z_top (show nI 0 = bI (p1 ≤ p0 ∧ p0 ≤ p2) from (bI_f (fun zz1 => Int32.not_lt.mpr zz1.2 c7)).symm) ?_
      refine z_xS (As := [.int (bI (p1 ≤ p0 ∧ p0 ≤ p2))]) (rest := []) F (c_X2_checkArgument l hfl sa (p1 ≤ p0 ∧ p0 ≤ p2)) (va_cwS 1 hts gX2_checkRange_X2_checkArgument rfl rfl rfl (by decide +kernel) ⟨Nat.le_of_ble_eq_true rfl, Nat.le_of_ble_eq_true rfl⟩) hE hS0 hnox hlocks rfl hl.1 rfl (Nat.le_of_ble_eq_true rfl) dX2_checkRange_15 ⟨Nat.le_of_ble_eq_true rfl, Nat.le_of_ble_eq_true rfl⟩ (Nat.le_of_ble_eq_true rfl) (Nat.le_of_ble_eq_true rfl) (fun E hpx => hpx) (fun c8 H1 locs1 hz1 hk1 hS0 => ?_)
      refine vx_ret (mc := 1) (ms := 6) (W.widen (k := 1) (n := 6) (Nat.le_of_ble_eq_true rfl) (Nat.le_of_ble_eq_true rfl) ?_)
      exact W.vret hx hb hr (fun t ht hW => ⟨⟨(), rfl, c8, trivial⟩, hS0.F ht⟩) (fun q h => (hS0.2.2 q h).elim) dX2_checkRange_18
    · refine lv_iconst (v := nI 1) hx hb dX2_checkRange_10 (by decide) ?_
      refine lv_goto (tgt := 15) hx hb dX2_checkRange_11 (by decide) ?_
      refine z_top (show nI 1 = bI (p1 ≤ p0 ∧ p0 ≤ p2) from (bI_t ⟨Int32.not_lt.mp c5, Int32.not_lt.mp c7⟩).symm) ?_
      refine z_xS (As := [.int (bI (p1 ≤ p0 ∧ p0 ≤ p2))]) (rest := []) F (c_X2_checkArgument l hfl sa (p1 ≤ p0 ∧ p0 ≤ p2)) (va_cwS 1 hts gX2_checkRange_X2_checkArgument rfl rfl rfl (by decide +kernel) ⟨Nat.le_of_ble_eq_true rfl, Nat.le_of_ble_eq_true rfl⟩) hE hS0 hnox hlocks rfl hl.1 rfl (Nat.le_of_ble_eq_true rfl) dX2_checkRange_15 ⟨Nat.le_of_ble_eq_true rfl, Nat.le_of_ble_eq_true rfl⟩ (Nat.le_of_ble_eq_true rfl) (Nat.le_of_ble_eq_true rfl) (fun E hpx => hpx) (fun c9 H1 locs1 hz1 hk1 hS0 => ?_)
      refine vx_ret (mc := 1) (ms := 6) (W.widen (k := 1) (n := 6) (Nat.le_of_ble_eq_true rfl) (Nat.le_of_ble_eq_true rfl) ?_)
      exact W.vret hx hb hr (fun t ht hW => ⟨⟨(), rfl, c9, trivial⟩, hS0.F ht⟩) (fun q h => (hS0.2.2 q h).elim) dX2_checkRange_18
set_option maxRecDepth 100000 in
set_option maxHeartbeats 4000000 in
/-- siteAt -/
theorem c_X2_siteAt (l : Launch) (hfl : l.stackTraces = false) (sa : Nat → Nat) (D : va_G) (k : Nat → ClassId) (ad : Nat → Nat) (M : Nat → Nat → Nat) (O : Nat → Nat → Int32) (p0 : Int32) : vx_Met l yX2_siteAt wsX2_siteAt ({ frames := 6, cells := 1, slots := 6, locals := 82 }) (va_Pc [.ref (ad 0), .int p0] (fun U => zR D k (20 + 2 * M 0 1) ad (cX k ad M O) U ∧ zE noA sa U U.heap)) (zQq (fun a => ∃ i, i < 4 ∧ p0 = nI i ∧ a = ad (4 + 4 * i))) (zX (fun E => E = exI ∧ ¬ zI 4 p0)) 1 6 noA := by
  refine vx_ofW (cc := cX2_siteAt) (maxL := 3) (ret := (some (.object "PromiseClocks$Site"))) (by decide) rfl ?_
  intro p e s m args below meth c s₁ B hml hnox hv
  obtain ⟨rfl, ⟨hP, hK⟩, hE⟩ := hv
  have hx := B.exec
  have hb := B.bytes
  have hr := B.returns
  have hts := atoms_spec (ws := wsX2_siteAt) B.pre
  have hown : s.vm.findClass RX2 = some m.cls := findClass_of_methodNamed B.named
  have hlocks := B.notSynchronized
  have F : CallFix p m c cX2_siteAt 3 s _ wsX2_siteAt RX2 := ⟨hx, hb, hml, hown, hts⟩
  have hl := lv_entry ([.ref (ad 0), .int p0]) (n := 3) (Nat.le_of_ble_eq_true rfl)
  rw [lg_entry_eq]
  generalize (lg_sl ([.ref (ad 0), .int p0]) ++ List.replicate (3 - (lg_sl ([.ref (ad 0), .int p0])).length) Slot.unset).toArray = ls at hl ⊢
  have hl : lv_has ls 3 [(0, .ref (ad 0)), (1, .int p0)] := hl
  have hi2 : ∀ w ∈ u_ws RX2 TX2 5, w ∈ wsX2_siteAt := by decide +kernel
  have hS0 : va_S noA s.heap s.heap [] := va_S.rf
  refine lv_iload_n hx hb dX2_siteAt_0 rfl (lv_at hl 1 rfl) ?_
  refine lv_if_lt (tgt := 18) hx hb dX2_siteAt_1 (by decide) (fun c10 => ?_) (fun c10 => ?_)
  · refine lv_null hx hb dX2_siteAt_18 ?_
    refine lv_astore_nN (lv' := [(2, .null), (0, .ref (ad 0)), (1, .int p0)]) hx hb dX2_siteAt_19 rfl hl (by decide) rfl (fun ls hl => ?_)
    refine lv_aload_nN hx hb dX2_siteAt_20 rfl (lv_at hl 0 rfl) ?_
    refine lv_ifnonnullN hx hb dX2_siteAt_21 ?_
    exact z_throw (own := RX2) (cls := exI) (text := "no such site") (ik := 155) (is := 157) (ic := 159) F hfl tg_fI (by decide +kernel) (by decide +kernel) hE.2.1.1 (fun w h => List.mem_cons_of_mem _ (List.mem_append_right _ h)) tg_nI hE.2.2.1.1 tg_gI hE hS0 hl.1 dX2_siteAt_24 dX2_siteAt_27 dX2_siteAt_28 dX2_siteAt_30 dX2_siteAt_33 hnox hlocks (Nat.le_of_ble_eq_true rfl) (Nat.le_of_ble_eq_true rfl) (Nat.le_of_ble_eq_true rfl) (Nat.le_of_ble_eq_true rfl) (Nat.le_of_ble_eq_true rfl) (Nat.le_of_ble_eq_true rfl) ⟨rfl, fun ⟨zj, zj1, zj2⟩ => by subst zj2; exact nI_pos (by omega) c10⟩
  · refine lv_iload_n hx hb dX2_siteAt_4 rfl (lv_at hl 1 rfl) ?_
    refine lv_iconst (v := nI 4) hx hb dX2_siteAt_5 (by decide) ?_
    refine lv_icmp_ge (tgt := 18) hx hb dX2_siteAt_6 (by decide) (fun c11 => ?_) (fun c11 => ?_)
    · refine lv_null hx hb dX2_siteAt_18 ?_
      refine lv_astore_nN (lv' := [(2, .null), (0, .ref (ad 0)), (1, .int p0)]) hx hb dX2_siteAt_19 rfl hl (by decide) rfl (fun ls hl => ?_)
      refine lv_aload_nN hx hb dX2_siteAt_20 rfl (lv_at hl 0 rfl) ?_
      refine lv_ifnonnullN hx hb dX2_siteAt_21 ?_
      exact z_throw (own := RX2) (cls := exI) (text := "no such site") (ik := 155) (is := 157) (ic := 159) F hfl tg_fI (by decide +kernel) (by decide +kernel) hE.2.1.1 (fun w h => List.mem_cons_of_mem _ (List.mem_append_right _ h)) tg_nI hE.2.2.1.1 tg_gI hE hS0 hl.1 dX2_siteAt_24 dX2_siteAt_27 dX2_siteAt_28 dX2_siteAt_30 dX2_siteAt_33 hnox hlocks (Nat.le_of_ble_eq_true rfl) (Nat.le_of_ble_eq_true rfl) (Nat.le_of_ble_eq_true rfl) (Nat.le_of_ble_eq_true rfl) (Nat.le_of_ble_eq_true rfl) (Nat.le_of_ble_eq_true rfl) ⟨rfl, fun ⟨zj, zj1, zj2⟩ => by subst zj2; exact nI_ge zj1 (by decide) c11⟩
    · refine lv_aload_n hx hb dX2_siteAt_9 rfl (lv_at hl 0 rfl) ?_
      refine z_get (C := RX2) (T := TX2) (N := 5) (ci := 2) (v := .ref (ad 1)) F hK hP hi2 rfl (0) 0 (by omega) cX_0 (by decide) rfl (by decide +kernel) dX2_siteAt_10 ?_
      refine lv_iload_n hx hb dX2_siteAt_13 rfl (lv_at hl 1 rfl) ?_
      obtain ⟨i, hi, rfl⟩ := (zI_iff (by decide)).mp ⟨Int32.not_lt.mp c10, Int32.not_le.mp c11⟩
      refine z_aldq (v := some (ad (4 + 4 * i))) F hK hP (1) 2 (by omega) cX_1 rfl (i := nI i) i rfl hi (by decide) rfl dX2_siteAt_14 ?_
      refine z_rf ?_
      refine lv_goto (tgt := 19) hx hb dX2_siteAt_15 (by decide) ?_
      refine lv_astore_n (lv' := [(2, .ref (ad (4 + 4 * i))), (0, .ref (ad 0)), (1, .int (nI i))]) hx hb dX2_siteAt_19 rfl hl (by decide) rfl (fun ls hl => ?_)
      refine lv_aload_n hx hb dX2_siteAt_20 rfl (lv_at hl 0 rfl) ?_
      refine lv_ifnonnull (tgt := 34) hx hb dX2_siteAt_21 (by decide) ?_
      refine lv_aload_n hx hb dX2_siteAt_34 rfl (lv_at hl 0 rfl) ?_
      refine vx_ret (mc := 1) (ms := 6) (W.widen (k := 1) (n := 6) (Nat.le_of_ble_eq_true rfl) (Nat.le_of_ble_eq_true rfl) ?_)
      exact W.aret hx hb hr (Or.inl ⟨_, rfl⟩) (Or.inr ⟨_, rfl⟩) (fun t ht hW => ⟨⟨some (ad (4 + 4 * i)), (), rfl, ⟨_, rfl, ⟨i, hi, rfl, rfl⟩⟩, trivial⟩, hS0.F ht⟩) (fun q h => (hS0.2.2 q h).elim) dX2_siteAt_35
set_option maxRecDepth 100000 in
set_option maxHeartbeats 4000000 in
/-- caseAt -/
theorem c_X2_caseAt (l : Launch) (hfl : l.stackTraces = false) (sa : Nat → Nat) (D : va_G) (k : Nat → ClassId) (ad : Nat → Nat) (M : Nat → Nat → Nat) (O : Nat → Nat → Int32) (h40 : M 0 1 ≤ 40) (p0 : Int32) : vx_Met l yX2_caseAt wsX2_caseAt ({ frames := 6, cells := 1, slots := 6, locals := 82 }) (va_Pc [.ref (ad 0), .int p0] (fun U => zR D k (20 + 2 * M 0 1) ad (cX k ad M O) U ∧ zE noA sa U U.heap)) (zQq (fun a => ∃ i, i < M 0 1 ∧ p0 = nI i ∧ a = ad (20 + 2 * i))) (zX (fun E => E = exI ∧ ¬ zI (M 0 1) p0)) 1 6 noA := by
  refine vx_ofW (cc := cX2_caseAt) (maxL := 3) (ret := (some (.object "PromiseClocks$Case"))) (by decide) rfl ?_
  intro p e s m args below meth c s₁ B hml hnox hv
  obtain ⟨rfl, ⟨hP, hK⟩, hE⟩ := hv
  have hx := B.exec
  have hb := B.bytes
  have hr := B.returns
  have hts := atoms_spec (ws := wsX2_caseAt) B.pre
  have hown : s.vm.findClass RX2 = some m.cls := findClass_of_methodNamed B.named
  have hlocks := B.notSynchronized
  have F : CallFix p m c cX2_caseAt 3 s _ wsX2_caseAt RX2 := ⟨hx, hb, hml, hown, hts⟩
  have hl := lv_entry ([.ref (ad 0), .int p0]) (n := 3) (Nat.le_of_ble_eq_true rfl)
  rw [lg_entry_eq]
  generalize (lg_sl ([.ref (ad 0), .int p0]) ++ List.replicate (3 - (lg_sl ([.ref (ad 0), .int p0])).length) Slot.unset).toArray = ls at hl ⊢
  have hl : lv_has ls 3 [(0, .ref (ad 0)), (1, .int p0)] := hl
  have hi2 : ∀ w ∈ u_ws RX2 TX2 5, w ∈ wsX2_caseAt := by decide +kernel
  have hS0 : va_S noA s.heap s.heap [] := va_S.rf
  refine lv_iload_n hx hb dX2_caseAt_0 rfl (lv_at hl 1 rfl) ?_
  refine lv_if_lt (tgt := 19) hx hb dX2_caseAt_1 (by decide) (fun c12 => ?_) (fun c12 => ?_)
  · refine lv_null hx hb dX2_caseAt_19 ?_
    refine lv_astore_nN (lv' := [(2, .null), (0, .ref (ad 0)), (1, .int p0)]) hx hb dX2_caseAt_20 rfl hl (by decide) rfl (fun ls hl => ?_)
    refine lv_aload_nN hx hb dX2_caseAt_21 rfl (lv_at hl 0 rfl) ?_
    refine lv_ifnonnullN hx hb dX2_caseAt_22 ?_
    exact z_throw (own := RX2) (cls := exI) (text := "no such case") (ik := 155) (is := 162) (ic := 159) F hfl tg_fI (by decide +kernel) (by decide +kernel) hE.2.1.2.1 (fun w h => List.mem_cons_of_mem _ (List.mem_append_right _ h)) tg_nI hE.2.2.1.1 tg_gI hE hS0 hl.1 dX2_caseAt_25 dX2_caseAt_28 dX2_caseAt_29 dX2_caseAt_31 dX2_caseAt_34 hnox hlocks (Nat.le_of_ble_eq_true rfl) (Nat.le_of_ble_eq_true rfl) (Nat.le_of_ble_eq_true rfl) (Nat.le_of_ble_eq_true rfl) (Nat.le_of_ble_eq_true rfl) (Nat.le_of_ble_eq_true rfl) ⟨rfl, fun ⟨zj, zj1, zj2⟩ => by subst zj2; exact nI_pos (by omega) c12⟩
  · refine lv_iload_n hx hb dX2_caseAt_4 rfl (lv_at hl 1 rfl) ?_
    refine lv_bipush (v := nI 40) hx hb dX2_caseAt_5 (by decide) ?_
    refine lv_icmp_ge (tgt := 19) hx hb dX2_caseAt_7 (by decide) (fun c13 => ?_) (fun c13 => ?_)
    · refine lv_null hx hb dX2_caseAt_19 ?_
      refine lv_astore_nN (lv' := [(2, .null), (0, .ref (ad 0)), (1, .int p0)]) hx hb dX2_caseAt_20 rfl hl (by decide) rfl (fun ls hl => ?_)
      refine lv_aload_nN hx hb dX2_caseAt_21 rfl (lv_at hl 0 rfl) ?_
      refine lv_ifnonnullN hx hb dX2_caseAt_22 ?_
      exact z_throw (own := RX2) (cls := exI) (text := "no such case") (ik := 155) (is := 162) (ic := 159) F hfl tg_fI (by decide +kernel) (by decide +kernel) hE.2.1.2.1 (fun w h => List.mem_cons_of_mem _ (List.mem_append_right _ h)) tg_nI hE.2.2.1.1 tg_gI hE hS0 hl.1 dX2_caseAt_25 dX2_caseAt_28 dX2_caseAt_29 dX2_caseAt_31 dX2_caseAt_34 hnox hlocks (Nat.le_of_ble_eq_true rfl) (Nat.le_of_ble_eq_true rfl) (Nat.le_of_ble_eq_true rfl) (Nat.le_of_ble_eq_true rfl) (Nat.le_of_ble_eq_true rfl) (Nat.le_of_ble_eq_true rfl) ⟨rfl, fun ⟨zj, zj1, zj2⟩ => by subst zj2; exact nI_ge (show zj < 40 by omega) (by decide) c13⟩
    · refine lv_aload_n hx hb dX2_caseAt_10 rfl (lv_at hl 0 rfl) ?_
      refine z_get (C := RX2) (T := TX2) (N := 5) (ci := 2) (v := .ref (ad 3)) F hK hP hi2 rfl (0) 2 (by omega) cX_0 (by decide) rfl (by decide +kernel) dX2_caseAt_11 ?_
      refine lv_iload_n hx hb dX2_caseAt_14 rfl (lv_at hl 1 rfl) ?_
      obtain ⟨i, hi, rfl⟩ := (zI_iff (by decide)).mp ⟨Int32.not_lt.mp c12, Int32.not_le.mp c13⟩
      refine z_aldq (v := if i < M 0 1 then some (ad (20 + 2 * i)) else none) F hK hP (3) 3 (by omega) cX_3 rfl (i := nI i) i rfl hi (by decide) rfl dX2_caseAt_15 ?_
      by_cases hin : i < M 0 1
      · rw [if_pos hin]
        refine z_rf ?_
        refine lv_goto (tgt := 20) hx hb dX2_caseAt_16 (by decide) ?_
        refine lv_astore_n (lv' := [(2, .ref (ad (20 + 2 * i))), (0, .ref (ad 0)), (1, .int (nI i))]) hx hb dX2_caseAt_20 rfl hl (by decide) rfl (fun ls hl => ?_)
        refine lv_aload_n hx hb dX2_caseAt_21 rfl (lv_at hl 0 rfl) ?_
        refine lv_ifnonnull (tgt := 35) hx hb dX2_caseAt_22 (by decide) ?_
        refine lv_aload_n hx hb dX2_caseAt_35 rfl (lv_at hl 0 rfl) ?_
        refine vx_ret (mc := 1) (ms := 6) (W.widen (k := 1) (n := 6) (Nat.le_of_ble_eq_true rfl) (Nat.le_of_ble_eq_true rfl) ?_)
        exact W.aret hx hb hr (Or.inl ⟨_, rfl⟩) (Or.inr ⟨_, rfl⟩) (fun t ht hW => ⟨⟨some (ad (20 + 2 * i)), (), rfl, ⟨_, rfl, ⟨i, hin, rfl, rfl⟩⟩, trivial⟩, hS0.F ht⟩) (fun q h => (hS0.2.2 q h).elim) dX2_caseAt_36
      · rw [if_neg hin]
        refine z_rn ?_
        refine lv_goto (tgt := 20) hx hb dX2_caseAt_16 (by decide) ?_
        refine lv_astore_nN (lv' := [(2, .null), (0, .ref (ad 0)), (1, .int (nI i))]) hx hb dX2_caseAt_20 rfl hl (by decide) rfl (fun ls hl => ?_)
        refine lv_aload_nN hx hb dX2_caseAt_21 rfl (lv_at hl 0 rfl) ?_
        refine lv_ifnonnullN hx hb dX2_caseAt_22 ?_
        exact z_throw (own := RX2) (cls := exI) (text := "no such case") (ik := 155) (is := 162) (ic := 159) F hfl tg_fI (by decide +kernel) (by decide +kernel) hE.2.1.2.1 (fun w h => List.mem_cons_of_mem _ (List.mem_append_right _ h)) tg_nI hE.2.2.1.1 tg_gI hE hS0 hl.1 dX2_caseAt_25 dX2_caseAt_28 dX2_caseAt_29 dX2_caseAt_31 dX2_caseAt_34 hnox hlocks (Nat.le_of_ble_eq_true rfl) (Nat.le_of_ble_eq_true rfl) (Nat.le_of_ble_eq_true rfl) (Nat.le_of_ble_eq_true rfl) (Nat.le_of_ble_eq_true rfl) (Nat.le_of_ble_eq_true rfl) ⟨rfl, fun ⟨zj, zj1, zj2⟩ => by have zj3 := (nI_eq (show i < 2 ^ 31 by omega) (show zj < 2 ^ 31 by omega)).mp zj2; omega⟩
