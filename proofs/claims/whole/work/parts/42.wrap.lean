/-! THE WRAPPERS: which number they answer, what stands in the row behind them. -/
theorem uL0 (g : Nat → Int64) (zv : Int64) : vp_updL g 0 zv 0 = zv := if_pos rfl
theorem x3_ne1 {b c : Prop} : x3 True b c ≠ 1 := by
  by_cases hb1 : b
  · by_cases hc1 : c
    · rw [x3_0 trivial hb1 hc1]; decide
    · rw [x3_3 trivial hb1 hc1]; decide
  · rw [x3_2 trivial hb1]; decide
theorem x3_ne2 {a c : Prop} : x3 a True c ≠ 2 := by
  by_cases ha1 : a
  · by_cases hc1 : c
    · rw [x3_0 ha1 trivial hc1]; decide
    · rw [x3_3 ha1 trivial hc1]; decide
  · rw [x3_1 ha1]; decide
theorem x3_ne3 {a b : Prop} : x3 a b True ≠ 3 := by
  by_cases ha1 : a
  · by_cases hb1 : b
    · rw [x3_0 ha1 hb1 trivial]; decide
    · rw [x3_2 ha1 hb1]; decide
  · rw [x3_1 ha1]; decide
set_option maxRecDepth 100000 in
set_option maxHeartbeats 2000000 in
theorem c_L_setCalendar (l : Launch) (sa : Nat → Nat) (D : va_G) (k : Nat → ClassId) (ad : Nat → Nat) (M : Nat → Nat → Nat) (O : Nat → Nat → Int32) (o : Nat) (g : Nat → Int64) (sz : Nat) (p0 p1 p2 p3 : Int32) {M' M1 : Nat → Nat → Nat} {O' O1 : Nat → Nat → Int32} {xq : Nat} {rr : Int32} (hM : vx_Met l yX2_setCalendar wsX2_setCalendar ({ frames := 8, cells := 4, slots := 24, locals := 124 }) (va_Pc [.ref (ad 0), .int p0, .int p1, .int p2, .int p3] (zPre D k ad M O sz sa)) (zQop D k ad M M' O' (va_A (zw (20 + 2 * M 0 1) ad (cX k ad M O)) sz) xq rr) (zX (fun E => exC E xq)) 4 24 (va_A (zw (20 + 2 * M 0 1) ad (cX k ad M O)) sz)) (h93 : xq ≠ 3) (e1 : xq = 0 → M1 = M' ∧ O1 = O') (e2 : xq ≠ 0 → M1 = M ∧ O1 = O) : vx_Met l yL_setCalendar wsL_setCalendar ({ frames := 9, cells := 4, slots := 24, locals := 150 }) (va_Pc [.ref (ad 0), .int p0, .int p1, .int p2, .int p3, .ref o] (lwPre D k ad M O o g sz sa)) (lwQ D k ad M M1 O1 o (va_A (lX k o g ad M O) sz) xq (xq) (rr.toInt64)) (zX (fun _ => False)) 4 24 (va_A (lX k o g ad M O) sz) := by
  refine vx_ofWH (cc := cL_setCalendar) (maxL := 7) (ret := (some .int)) (by decide) rfl ?_
  intro p e s m args below meth c s₁ B hml hv
  obtain ⟨rfl, hsz, ⟨hP, hK⟩, hD0, hE, hN⟩ := hv
  have hx := B.exec
  have hb := B.bytes
  have hr := B.returns
  have hts := atoms_spec (ws := wsL_setCalendar) B.pre
  have hown : s.vm.findClass RL = some m.cls := findClass_of_methodNamed B.named
  have hlocks := B.notSynchronized
  have F : CallFix p m c cL_setCalendar 7 s _ wsL_setCalendar RL := ⟨hx, hb, hml, hown, hts⟩
  have htab : c.exceptionTable.toList = tableOf [(0, 14, 17, 13), (0, 14, 21, 15)] := vx_table (x := yL_setCalendar) B (hts _ List.mem_cons_self)
  subst hsz
  have hD := hD0.self (sz := s.heap.size)
  generalize hAe : va_A (lX k o g ad M O) s.heap.size = A at hD hE ⊢
  have hA : ∀ q : Nat, s.heap.size ≤ q → A q := fun q h => by rw [← hAe]; exact Or.inr h
  have hS : va_S A s.heap s.heap [] := va_S.rf
  have hl := lv_entry ([.ref (ad 0), .int p0, .int p1, .int p2, .int p3, .ref o]) (n := 7) (Nat.le_of_ble_eq_true rfl)
  rw [lg_entry_eq]
  generalize (lg_sl ([.ref (ad 0), .int p0, .int p1, .int p2, .int p3, .ref o]) ++ List.replicate (7 - (lg_sl ([.ref (ad 0), .int p0, .int p1, .int p2, .int p3, .ref o])).length) Slot.unset).toArray = ls at hl ⊢
  have hl : lv_has ls 7 [(0, .ref (ad 0)), (1, .int p0), (2, .int p1), (3, .int p2), (4, .int p3), (5, .ref o)] := hl
  refine lv_aload hx hb dL_setCalendar_0 (lv_at hl 5 rfl) ?_
  refine lv_iconst (v := nI 0) hx hb dL_setCalendar_2 (by decide) ?_
  refine lv_aload_n hx hb dL_setCalendar_3 rfl (lv_at hl 0 rfl) ?_
  refine lv_iload_n hx hb dL_setCalendar_4 rfl (lv_at hl 1 rfl) ?_
  refine lv_iload_n hx hb dL_setCalendar_5 rfl (lv_at hl 2 rfl) ?_
  refine lv_iload_n hx hb dL_setCalendar_6 rfl (lv_at hl 3 rfl) ?_
  refine lv_iload hx hb dL_setCalendar_7 (lv_at hl 4 rfl) ?_
  refine lx_call (wb := [(o, (.inl (k 4, 1, .inr (.inl g)) : va_E))]) (As := [.int p0, .int p1, .int p2, .int p3]) (rest := [.int (nI 0), .ref o]) F hM (cwV 4 hts gL_setCalendar_X2_setCalendar rfl rfl rfl (by decide +kernel) ⟨Nat.le_of_ble_eq_true rfl, Nat.le_of_ble_eq_true rfl⟩) hK hP hD hS hA hE rfl hl.1 rfl (Nat.le_of_ble_eq_true rfl) dL_setCalendar_9 ⟨Nat.le_of_ble_eq_true rfl, Nat.le_of_ble_eq_true rfl⟩ (fun E ce q9 H1 locs1 hEx hP1 hS1 hce hcv hcl => ?_) (fun ad1 H1 locs1 h0 had hP hD hS => ?_)
  · rcases hEx with ⟨h1, rfl⟩ | ⟨h1, rfl⟩ | ⟨h1, rfl⟩
    · obtain ⟨e3, e4⟩ := e2 (by omega)
      rw [e3, e4]
      refine vx_catch hown [] ⟨0, 14, 17, 13⟩ [⟨0, 14, 21, 15⟩] (by rw [htab]; rfl) (fun zq hz => absurd hz List.not_mem_nil) (by decide) (by decide) (hts (.classLink RL 13 exI) (by decide +kernel)) (va_Nw.use rfl hE.2.2.1.1) hce hcv hcl ?_
      refine lv_astore (lv' := [(6, .ref q9), (0, .ref (ad 0)), (1, .int p0), (2, .int p1), (3, .int p2), (4, .int p3), (5, .ref o)]) hx hb dL_setCalendar_17 hl (by decide) rfl (fun ls hl => ?_)
      refine lv_iconst (v := nI 1) hx hb dL_setCalendar_19 (by decide) ?_
      refine vx_ret (mc := 4) (ms := 24) (W.widen (k := 4) (n := 24) (Nat.le_of_ble_eq_true rfl) (Nat.le_of_ble_eq_true rfl) ?_)
      exact W.iret (v := nI 1) hx hb hr (fun t ht hW => ⟨⟨nI 1, (ad, g), rfl, ⟨by rw [h1]; try rfl, fun zz1 => absurd zz1 (by omega)⟩, ⟨⟨by rw [ht]; exact hP1, va_K.moved hW.alike hK⟩, hD⟩, fun _ _ => rfl⟩, hS1.F ht⟩) hS1.2.2 dL_setCalendar_20
    · obtain ⟨e3, e4⟩ := e2 (by omega)
      rw [e3, e4]
      refine vx_catch hown [⟨0, 14, 17, 13⟩] ⟨0, 14, 21, 15⟩ [] (by rw [htab]; rfl) (fun zq hz => by rw [List.mem_singleton.mp hz]; exact Or.inr ⟨by decide, exI, hts (.classLink RL 13 exI) (by decide +kernel), hN.1⟩) (by decide) (by decide) (hts (.classLink RL 15 exA) (by decide +kernel)) (va_Nw.use rfl hE.2.2.1.2.1) hce hcv hcl ?_
      refine lv_astore (lv' := [(6, .ref q9), (0, .ref (ad 0)), (1, .int p0), (2, .int p1), (3, .int p2), (4, .int p3), (5, .ref o)]) hx hb dL_setCalendar_21 hl (by decide) rfl (fun ls hl => ?_)
      refine lv_iconst (v := nI 2) hx hb dL_setCalendar_23 (by decide) ?_
      refine vx_ret (mc := 4) (ms := 24) (W.widen (k := 4) (n := 24) (Nat.le_of_ble_eq_true rfl) (Nat.le_of_ble_eq_true rfl) ?_)
      exact W.iret (v := nI 2) hx hb hr (fun t ht hW => ⟨⟨nI 2, (ad, g), rfl, ⟨by rw [h1]; try rfl, fun zz1 => absurd zz1 (by omega)⟩, ⟨⟨by rw [ht]; exact hP1, va_K.moved hW.alike hK⟩, hD⟩, fun _ _ => rfl⟩, hS1.F ht⟩) hS1.2.2 dL_setCalendar_24
    · exact absurd h1 h93
  · obtain ⟨e3, e4⟩ := e1 h0
    rw [e3, e4]
    refine lv_i2l (v := (rr).toInt64) hx hb dL_setCalendar_12 rfl ?_
    refine lw_last F hK hP hD hS dL_setCalendar_13 (fun H1 locs1 hP hD hS => ?_)
    refine lv_goto (tgt := 25) hx hb dL_setCalendar_14 (by decide) ?_
    refine lv_iconst (v := nI 0) hx hb dL_setCalendar_25 (by decide) ?_
    refine vx_ret (mc := 4) (ms := 24) (W.widen (k := 4) (n := 24) (Nat.le_of_ble_eq_true rfl) (Nat.le_of_ble_eq_true rfl) ?_)
    exact W.iret (v := nI 0) hx hb hr (fun t ht hW => ⟨⟨nI 0, (ad1, vp_updL g 0 ((rr).toInt64)), rfl, ⟨by rw [h0]; try rfl, fun _ => uL0 g ((rr).toInt64)⟩, ⟨⟨by rw [ht]; exact hP, va_K.moved hW.alike hK⟩, hD⟩, had⟩, hS.F ht⟩) hS.2.2 dL_setCalendar_26
set_option maxRecDepth 100000 in
set_option maxHeartbeats 2000000 in
theorem c_L_addContract (l : Launch) (sa : Nat → Nat) (D : va_G) (k : Nat → ClassId) (ad : Nat → Nat) (M : Nat → Nat → Nat) (O : Nat → Nat → Int32) (o : Nat) (g : Nat → Int64) (sz : Nat) (p0 p1 p2 p3 : Int32) {M' M1 : Nat → Nat → Nat} {O' O1 : Nat → Nat → Int32} {xq : Nat} {rr : Int32} (hM : vx_Met l yX2_addContract wsX2_addContract ({ frames := 8, cells := 5, slots := 30, locals := 124 }) (va_Pc [.ref (ad 0), .int p0, .int p1, .int p2, .int p3] (zPre D k ad M O sz sa)) (zQop D k ad M M' O' (va_A (zw (20 + 2 * M 0 1) ad (cX k ad M O)) sz) xq rr) (zX (fun E => exC E xq)) 5 30 (va_A (zw (20 + 2 * M 0 1) ad (cX k ad M O)) sz)) (e1 : xq = 0 → M1 = M' ∧ O1 = O') (e2 : xq ≠ 0 → M1 = M ∧ O1 = O) : vx_Met l yL_addContract wsL_addContract ({ frames := 9, cells := 5, slots := 30, locals := 150 }) (va_Pc [.ref (ad 0), .int p0, .int p1, .int p2, .int p3, .ref o] (lwPre D k ad M O o g sz sa)) (lwQ D k ad M M1 O1 o (va_A (lX k o g ad M O) sz) xq (xq) (rr.toInt64)) (zX (fun _ => False)) 5 30 (va_A (lX k o g ad M O) sz) := by
  refine vx_ofWH (cc := cL_addContract) (maxL := 7) (ret := (some .int)) (by decide) rfl ?_
  intro p e s m args below meth c s₁ B hml hv
  obtain ⟨rfl, hsz, ⟨hP, hK⟩, hD0, hE, hN⟩ := hv
  have hx := B.exec
  have hb := B.bytes
  have hr := B.returns
  have hts := atoms_spec (ws := wsL_addContract) B.pre
  have hown : s.vm.findClass RL = some m.cls := findClass_of_methodNamed B.named
  have hlocks := B.notSynchronized
  have F : CallFix p m c cL_addContract 7 s _ wsL_addContract RL := ⟨hx, hb, hml, hown, hts⟩
  have htab : c.exceptionTable.toList = tableOf [(0, 14, 17, 13), (0, 14, 21, 15), (0, 14, 25, 20)] := vx_table (x := yL_addContract) B (hts _ List.mem_cons_self)
  subst hsz
  have hD := hD0.self (sz := s.heap.size)
  generalize hAe : va_A (lX k o g ad M O) s.heap.size = A at hD hE ⊢
  have hA : ∀ q : Nat, s.heap.size ≤ q → A q := fun q h => by rw [← hAe]; exact Or.inr h
  have hS : va_S A s.heap s.heap [] := va_S.rf
  have hl := lv_entry ([.ref (ad 0), .int p0, .int p1, .int p2, .int p3, .ref o]) (n := 7) (Nat.le_of_ble_eq_true rfl)
  rw [lg_entry_eq]
  generalize (lg_sl ([.ref (ad 0), .int p0, .int p1, .int p2, .int p3, .ref o]) ++ List.replicate (7 - (lg_sl ([.ref (ad 0), .int p0, .int p1, .int p2, .int p3, .ref o])).length) Slot.unset).toArray = ls at hl ⊢
  have hl : lv_has ls 7 [(0, .ref (ad 0)), (1, .int p0), (2, .int p1), (3, .int p2), (4, .int p3), (5, .ref o)] := hl
  refine lv_aload hx hb dL_addContract_0 (lv_at hl 5 rfl) ?_
  refine lv_iconst (v := nI 0) hx hb dL_addContract_2 (by decide) ?_
  refine lv_aload_n hx hb dL_addContract_3 rfl (lv_at hl 0 rfl) ?_
  refine lv_iload_n hx hb dL_addContract_4 rfl (lv_at hl 1 rfl) ?_
  refine lv_iload_n hx hb dL_addContract_5 rfl (lv_at hl 2 rfl) ?_
  refine lv_iload_n hx hb dL_addContract_6 rfl (lv_at hl 3 rfl) ?_
  refine lv_iload hx hb dL_addContract_7 (lv_at hl 4 rfl) ?_
  refine lx_call (wb := [(o, (.inl (k 4, 1, .inr (.inl g)) : va_E))]) (As := [.int p0, .int p1, .int p2, .int p3]) (rest := [.int (nI 0), .ref o]) F hM (cwV 4 hts gL_addContract_X2_addContract rfl rfl rfl (by decide +kernel) ⟨Nat.le_of_ble_eq_true rfl, Nat.le_of_ble_eq_true rfl⟩) hK hP hD hS hA hE rfl hl.1 rfl (Nat.le_of_ble_eq_true rfl) dL_addContract_9 ⟨Nat.le_of_ble_eq_true rfl, Nat.le_of_ble_eq_true rfl⟩ (fun E ce q9 H1 locs1 hEx hP1 hS1 hce hcv hcl => ?_) (fun ad1 H1 locs1 h0 had hP hD hS => ?_)
  · rcases hEx with ⟨h1, rfl⟩ | ⟨h1, rfl⟩ | ⟨h1, rfl⟩
    · obtain ⟨e3, e4⟩ := e2 (by omega)
      rw [e3, e4]
      refine vx_catch hown [] ⟨0, 14, 17, 13⟩ [⟨0, 14, 21, 15⟩, ⟨0, 14, 25, 20⟩] (by rw [htab]; rfl) (fun zq hz => absurd hz List.not_mem_nil) (by decide) (by decide) (hts (.classLink RL 13 exI) (by decide +kernel)) (va_Nw.use rfl hE.2.2.1.1) hce hcv hcl ?_
      refine lv_astore (lv' := [(6, .ref q9), (0, .ref (ad 0)), (1, .int p0), (2, .int p1), (3, .int p2), (4, .int p3), (5, .ref o)]) hx hb dL_addContract_17 hl (by decide) rfl (fun ls hl => ?_)
      refine lv_iconst (v := nI 1) hx hb dL_addContract_19 (by decide) ?_
      refine vx_ret (mc := 5) (ms := 30) (W.widen (k := 5) (n := 30) (Nat.le_of_ble_eq_true rfl) (Nat.le_of_ble_eq_true rfl) ?_)
      exact W.iret (v := nI 1) hx hb hr (fun t ht hW => ⟨⟨nI 1, (ad, g), rfl, ⟨by rw [h1]; try rfl, fun zz1 => absurd zz1 (by omega)⟩, ⟨⟨by rw [ht]; exact hP1, va_K.moved hW.alike hK⟩, hD⟩, fun _ _ => rfl⟩, hS1.F ht⟩) hS1.2.2 dL_addContract_20
    · obtain ⟨e3, e4⟩ := e2 (by omega)
      rw [e3, e4]
      refine vx_catch hown [⟨0, 14, 17, 13⟩] ⟨0, 14, 21, 15⟩ [⟨0, 14, 25, 20⟩] (by rw [htab]; rfl) (fun zq hz => by rw [List.mem_singleton.mp hz]; exact Or.inr ⟨by decide, exI, hts (.classLink RL 13 exI) (by decide +kernel), hN.1⟩) (by decide) (by decide) (hts (.classLink RL 15 exA) (by decide +kernel)) (va_Nw.use rfl hE.2.2.1.2.1) hce hcv hcl ?_
      refine lv_astore (lv' := [(6, .ref q9), (0, .ref (ad 0)), (1, .int p0), (2, .int p1), (3, .int p2), (4, .int p3), (5, .ref o)]) hx hb dL_addContract_21 hl (by decide) rfl (fun ls hl => ?_)
      refine lv_iconst (v := nI 2) hx hb dL_addContract_23 (by decide) ?_
      refine vx_ret (mc := 5) (ms := 30) (W.widen (k := 5) (n := 30) (Nat.le_of_ble_eq_true rfl) (Nat.le_of_ble_eq_true rfl) ?_)
      exact W.iret (v := nI 2) hx hb hr (fun t ht hW => ⟨⟨nI 2, (ad, g), rfl, ⟨by rw [h1]; try rfl, fun zz1 => absurd zz1 (by omega)⟩, ⟨⟨by rw [ht]; exact hP1, va_K.moved hW.alike hK⟩, hD⟩, fun _ _ => rfl⟩, hS1.F ht⟩) hS1.2.2 dL_addContract_24
    · obtain ⟨e3, e4⟩ := e2 (by omega)
      rw [e3, e4]
      have hps : ∀ zq ∈ ([⟨0, 14, 17, 13⟩, ⟨0, 14, 21, 15⟩] : List ExceptionTableEntry), covers zq 9 = false ∨ (zq.catchType ≠ 0 ∧ ∃ nm : String, (Cond.classLink RL zq.catchType nm).before (#[.ref (ad 0), .int p0, .int p1, .int p2, .int p3, .ref o] : Array Value) s = true ∧ va_Nc exS nm s) := by
        intro zq hz
        rcases List.mem_cons.mp hz with hz | hz
        · rw [hz]; exact Or.inr ⟨by decide, exI, hts (.classLink RL 13 exI) (by decide +kernel), hN.2.1⟩
        · rw [List.mem_singleton.mp hz]; exact Or.inr ⟨by decide, exA, hts (.classLink RL 15 exA) (by decide +kernel), hN.2.2⟩
      refine vx_catch hown [⟨0, 14, 17, 13⟩, ⟨0, 14, 21, 15⟩] ⟨0, 14, 25, 20⟩ [] (by rw [htab]; rfl) hps (by decide) (by decide) (hts (.classLink RL 20 exS) (by decide +kernel)) (va_Nw.use rfl hE.2.2.1.2.2) hce hcv hcl ?_
      refine lv_astore (lv' := [(6, .ref q9), (0, .ref (ad 0)), (1, .int p0), (2, .int p1), (3, .int p2), (4, .int p3), (5, .ref o)]) hx hb dL_addContract_25 hl (by decide) rfl (fun ls hl => ?_)
      refine lv_iconst (v := nI 3) hx hb dL_addContract_27 (by decide) ?_
      refine vx_ret (mc := 5) (ms := 30) (W.widen (k := 5) (n := 30) (Nat.le_of_ble_eq_true rfl) (Nat.le_of_ble_eq_true rfl) ?_)
      exact W.iret (v := nI 3) hx hb hr (fun t ht hW => ⟨⟨nI 3, (ad, g), rfl, ⟨by rw [h1]; try rfl, fun zz1 => absurd zz1 (by omega)⟩, ⟨⟨by rw [ht]; exact hP1, va_K.moved hW.alike hK⟩, hD⟩, fun _ _ => rfl⟩, hS1.F ht⟩) hS1.2.2 dL_addContract_28
  · obtain ⟨e3, e4⟩ := e1 h0
    rw [e3, e4]
    refine lv_i2l (v := (rr).toInt64) hx hb dL_addContract_12 rfl ?_
    refine lw_last F hK hP hD hS dL_addContract_13 (fun H1 locs1 hP hD hS => ?_)
    refine lv_goto (tgt := 29) hx hb dL_addContract_14 (by decide) ?_
    refine lv_iconst (v := nI 0) hx hb dL_addContract_29 (by decide) ?_
    refine vx_ret (mc := 5) (ms := 30) (W.widen (k := 5) (n := 30) (Nat.le_of_ble_eq_true rfl) (Nat.le_of_ble_eq_true rfl) ?_)
    exact W.iret (v := nI 0) hx hb hr (fun t ht hW => ⟨⟨nI 0, (ad1, vp_updL g 0 ((rr).toInt64)), rfl, ⟨by rw [h0]; try rfl, fun _ => uL0 g ((rr).toInt64)⟩, ⟨⟨by rw [ht]; exact hP, va_K.moved hW.alike hK⟩, hD⟩, had⟩, hS.F ht⟩) hS.2.2 dL_addContract_30
set_option maxRecDepth 100000 in
set_option maxHeartbeats 2000000 in
theorem c_L_setPromise (l : Launch) (sa : Nat → Nat) (D : va_G) (k : Nat → ClassId) (ad : Nat → Nat) (M : Nat → Nat → Nat) (O : Nat → Nat → Int32) (o : Nat) (g : Nat → Int64) (sz : Nat) (p0 p1 p2 : Int32) {M' M1 : Nat → Nat → Nat} {O' O1 : Nat → Nat → Int32} {xq : Nat} {rr : Int32} (hM : vx_Met l yX2_setPromise wsX2_setPromise ({ frames := 8, cells := 3, slots := 18, locals := 124 }) (va_Pc [.ref (ad 0), .int p0, .int p1, .int p2] (zPre D k ad M O sz sa)) (zQop D k ad M M' O' (va_A (zw (20 + 2 * M 0 1) ad (cX k ad M O)) sz) xq rr) (zX (fun E => exC E xq)) 3 18 (va_A (zw (20 + 2 * M 0 1) ad (cX k ad M O)) sz)) (h91 : xq ≠ 1) (h93 : xq ≠ 3) (e1 : xq = 0 → M1 = M' ∧ O1 = O') (e2 : xq ≠ 0 → M1 = M ∧ O1 = O) : vx_Met l yL_setPromise wsL_setPromise ({ frames := 9, cells := 3, slots := 18, locals := 149 }) (va_Pc [.ref (ad 0), .int p0, .int p1, .int p2, .ref o] (lwPre D k ad M O o g sz sa)) (lwQ D k ad M M1 O1 o (va_A (lX k o g ad M O) sz) xq (xq - 1) (rr.toInt64)) (zX (fun _ => False)) 3 18 (va_A (lX k o g ad M O) sz) := by
  refine vx_ofWH (cc := cL_setPromise) (maxL := 6) (ret := (some .int)) (by decide) rfl ?_
  intro p e s m args below meth c s₁ B hml hv
  obtain ⟨rfl, hsz, ⟨hP, hK⟩, hD0, hE, hN⟩ := hv
  have hx := B.exec
  have hb := B.bytes
  have hr := B.returns
  have hts := atoms_spec (ws := wsL_setPromise) B.pre
  have hown : s.vm.findClass RL = some m.cls := findClass_of_methodNamed B.named
  have hlocks := B.notSynchronized
  have F : CallFix p m c cL_setPromise 6 s _ wsL_setPromise RL := ⟨hx, hb, hml, hown, hts⟩
  have htab : c.exceptionTable.toList = tableOf [(0, 12, 15, 15)] := vx_table (x := yL_setPromise) B (hts _ List.mem_cons_self)
  subst hsz
  have hD := hD0.self (sz := s.heap.size)
  generalize hAe : va_A (lX k o g ad M O) s.heap.size = A at hD hE ⊢
  have hA : ∀ q : Nat, s.heap.size ≤ q → A q := fun q h => by rw [← hAe]; exact Or.inr h
  have hS : va_S A s.heap s.heap [] := va_S.rf
  have hl := lv_entry ([.ref (ad 0), .int p0, .int p1, .int p2, .ref o]) (n := 6) (Nat.le_of_ble_eq_true rfl)
  rw [lg_entry_eq]
  generalize (lg_sl ([.ref (ad 0), .int p0, .int p1, .int p2, .ref o]) ++ List.replicate (6 - (lg_sl ([.ref (ad 0), .int p0, .int p1, .int p2, .ref o])).length) Slot.unset).toArray = ls at hl ⊢
  have hl : lv_has ls 6 [(0, .ref (ad 0)), (1, .int p0), (2, .int p1), (3, .int p2), (4, .ref o)] := hl
  refine lv_aload hx hb dL_setPromise_0 (lv_at hl 4 rfl) ?_
  refine lv_iconst (v := nI 0) hx hb dL_setPromise_2 (by decide) ?_
  refine lv_aload_n hx hb dL_setPromise_3 rfl (lv_at hl 0 rfl) ?_
  refine lv_iload_n hx hb dL_setPromise_4 rfl (lv_at hl 1 rfl) ?_
  refine lv_iload_n hx hb dL_setPromise_5 rfl (lv_at hl 2 rfl) ?_
  refine lv_iload_n hx hb dL_setPromise_6 rfl (lv_at hl 3 rfl) ?_
  refine lx_call (wb := [(o, (.inl (k 4, 1, .inr (.inl g)) : va_E))]) (As := [.int p0, .int p1, .int p2]) (rest := [.int (nI 0), .ref o]) F hM (cwV 3 hts gL_setPromise_X2_setPromise rfl rfl rfl (by decide +kernel) ⟨Nat.le_of_ble_eq_true rfl, Nat.le_of_ble_eq_true rfl⟩) hK hP hD hS hA hE rfl hl.1 rfl (Nat.le_of_ble_eq_true rfl) dL_setPromise_7 ⟨Nat.le_of_ble_eq_true rfl, Nat.le_of_ble_eq_true rfl⟩ (fun E ce q9 H1 locs1 hEx hP1 hS1 hce hcv hcl => ?_) (fun ad1 H1 locs1 h0 had hP hD hS => ?_)
  · rcases hEx with ⟨h1, rfl⟩ | ⟨h1, rfl⟩ | ⟨h1, rfl⟩
    · exact absurd h1 h91
    · obtain ⟨e3, e4⟩ := e2 (by omega)
      rw [e3, e4]
      refine vx_catch hown [] ⟨0, 12, 15, 15⟩ [] (by rw [htab]; rfl) (fun zq hz => absurd hz List.not_mem_nil) (by decide) (by decide) (hts (.classLink RL 15 exA) (by decide +kernel)) (va_Nw.use rfl hE.2.2.1.2.1) hce hcv hcl ?_
      refine lv_astore (lv' := [(5, .ref q9), (0, .ref (ad 0)), (1, .int p0), (2, .int p1), (3, .int p2), (4, .ref o)]) hx hb dL_setPromise_15 hl (by decide) rfl (fun ls hl => ?_)
      refine lv_iconst (v := nI 1) hx hb dL_setPromise_17 (by decide) ?_
      refine vx_ret (mc := 3) (ms := 18) (W.widen (k := 3) (n := 18) (Nat.le_of_ble_eq_true rfl) (Nat.le_of_ble_eq_true rfl) ?_)
      exact W.iret (v := nI 1) hx hb hr (fun t ht hW => ⟨⟨nI 1, (ad, g), rfl, ⟨by rw [h1]; try rfl, fun zz1 => absurd zz1 (by omega)⟩, ⟨⟨by rw [ht]; exact hP1, va_K.moved hW.alike hK⟩, hD⟩, fun _ _ => rfl⟩, hS1.F ht⟩) hS1.2.2 dL_setPromise_18
    · exact absurd h1 h93
  · obtain ⟨e3, e4⟩ := e1 h0
    rw [e3, e4]
    refine lv_i2l (v := (rr).toInt64) hx hb dL_setPromise_10 rfl ?_
    refine lw_last F hK hP hD hS dL_setPromise_11 (fun H1 locs1 hP hD hS => ?_)
    refine lv_goto (tgt := 19) hx hb dL_setPromise_12 (by decide) ?_
    refine lv_iconst (v := nI 0) hx hb dL_setPromise_19 (by decide) ?_
    refine vx_ret (mc := 3) (ms := 18) (W.widen (k := 3) (n := 18) (Nat.le_of_ble_eq_true rfl) (Nat.le_of_ble_eq_true rfl) ?_)
    exact W.iret (v := nI 0) hx hb hr (fun t ht hW => ⟨⟨nI 0, (ad1, vp_updL g 0 ((rr).toInt64)), rfl, ⟨by rw [h0]; try rfl, fun _ => uL0 g ((rr).toInt64)⟩, ⟨⟨by rw [ht]; exact hP, va_K.moved hW.alike hK⟩, hD⟩, had⟩, hS.F ht⟩) hS.2.2 dL_setPromise_20
set_option maxRecDepth 100000 in
set_option maxHeartbeats 2000000 in
theorem c_L_isCovered (l : Launch) (sa : Nat → Nat) (D : va_G) (k : Nat → ClassId) (ad : Nat → Nat) (M : Nat → Nat → Nat) (O : Nat → Nat → Int32) (o : Nat) (g : Nat → Int64) (sz : Nat) (p0 p1 p2 : Int32) {M' M1 : Nat → Nat → Nat} {O' O1 : Nat → Nat → Int32} {xq : Nat} {rr : Int32} (hM : vx_Met l yX2_isCovered wsX2_isCovered ({ frames := 8, cells := 3, slots := 18, locals := 124 }) (va_Pc [.ref (ad 0), .int p0, .int p1, .int p2] (zPre D k ad M O sz sa)) (zQop D k ad M M' O' (va_A (zw (20 + 2 * M 0 1) ad (cX k ad M O)) sz) xq rr) (zX (fun E => exC E xq)) 3 18 (va_A (zw (20 + 2 * M 0 1) ad (cX k ad M O)) sz)) (h93 : xq ≠ 3) (e1 : xq = 0 → M1 = M' ∧ O1 = O') (e2 : xq ≠ 0 → M1 = M ∧ O1 = O) : vx_Met l yL_isCovered wsL_isCovered ({ frames := 9, cells := 3, slots := 18, locals := 148 }) (va_Pc [.ref (ad 0), .int p0, .int p1, .int p2, .ref o] (lwPre D k ad M O o g sz sa)) (lwQ D k ad M M1 O1 o (va_A (lX k o g ad M O) sz) xq (xq) (bL rr)) (zX (fun _ => False)) 3 18 (va_A (lX k o g ad M O) sz) := by
  refine vx_ofWH (cc := cL_isCovered) (maxL := 6) (ret := (some .int)) (by decide) rfl ?_
  intro p e s m args below meth c s₁ B hml hv
  obtain ⟨rfl, hsz, ⟨hP, hK⟩, hD0, hE, hN⟩ := hv
  have hx := B.exec
  have hb := B.bytes
  have hr := B.returns
  have hts := atoms_spec (ws := wsL_isCovered) B.pre
  have hown : s.vm.findClass RL = some m.cls := findClass_of_methodNamed B.named
  have hlocks := B.notSynchronized
  have F : CallFix p m c cL_isCovered 6 s _ wsL_isCovered RL := ⟨hx, hb, hml, hown, hts⟩
  have htab : c.exceptionTable.toList = tableOf [(0, 19, 22, 13), (0, 19, 26, 15)] := vx_table (x := yL_isCovered) B (hts _ List.mem_cons_self)
  subst hsz
  have hD := hD0.self (sz := s.heap.size)
  generalize hAe : va_A (lX k o g ad M O) s.heap.size = A at hD hE ⊢
  have hA : ∀ q : Nat, s.heap.size ≤ q → A q := fun q h => by rw [← hAe]; exact Or.inr h
  have hS : va_S A s.heap s.heap [] := va_S.rf
  have hl := lv_entry ([.ref (ad 0), .int p0, .int p1, .int p2, .ref o]) (n := 6) (Nat.le_of_ble_eq_true rfl)
  rw [lg_entry_eq]
  generalize (lg_sl ([.ref (ad 0), .int p0, .int p1, .int p2, .ref o]) ++ List.replicate (6 - (lg_sl ([.ref (ad 0), .int p0, .int p1, .int p2, .ref o])).length) Slot.unset).toArray = ls at hl ⊢
  have hl : lv_has ls 6 [(0, .ref (ad 0)), (1, .int p0), (2, .int p1), (3, .int p2), (4, .ref o)] := hl
  refine lv_aload hx hb dL_isCovered_0 (lv_at hl 4 rfl) ?_
  refine lv_iconst (v := nI 0) hx hb dL_isCovered_2 (by decide) ?_
  refine lv_aload_n hx hb dL_isCovered_3 rfl (lv_at hl 0 rfl) ?_
  refine lv_iload_n hx hb dL_isCovered_4 rfl (lv_at hl 1 rfl) ?_
  refine lv_iload_n hx hb dL_isCovered_5 rfl (lv_at hl 2 rfl) ?_
  refine lv_iload_n hx hb dL_isCovered_6 rfl (lv_at hl 3 rfl) ?_
  refine lx_call (wb := [(o, (.inl (k 4, 1, .inr (.inl g)) : va_E))]) (As := [.int p0, .int p1, .int p2]) (rest := [.int (nI 0), .ref o]) F hM (cwV 3 hts gL_isCovered_X2_isCovered rfl rfl rfl (by decide +kernel) ⟨Nat.le_of_ble_eq_true rfl, Nat.le_of_ble_eq_true rfl⟩) hK hP hD hS hA hE rfl hl.1 rfl (Nat.le_of_ble_eq_true rfl) dL_isCovered_7 ⟨Nat.le_of_ble_eq_true rfl, Nat.le_of_ble_eq_true rfl⟩ (fun E ce q9 H1 locs1 hEx hP1 hS1 hce hcv hcl => ?_) (fun ad1 H1 locs1 h0 had hP hD hS => ?_)
  · rcases hEx with ⟨h1, rfl⟩ | ⟨h1, rfl⟩ | ⟨h1, rfl⟩
    · obtain ⟨e3, e4⟩ := e2 (by omega)
      rw [e3, e4]
      refine vx_catch hown [] ⟨0, 19, 22, 13⟩ [⟨0, 19, 26, 15⟩] (by rw [htab]; rfl) (fun zq hz => absurd hz List.not_mem_nil) (by decide) (by decide) (hts (.classLink RL 13 exI) (by decide +kernel)) (va_Nw.use rfl hE.2.2.1.1) hce hcv hcl ?_
      refine lv_astore (lv' := [(5, .ref q9), (0, .ref (ad 0)), (1, .int p0), (2, .int p1), (3, .int p2), (4, .ref o)]) hx hb dL_isCovered_22 hl (by decide) rfl (fun ls hl => ?_)
      refine lv_iconst (v := nI 1) hx hb dL_isCovered_24 (by decide) ?_
      refine vx_ret (mc := 3) (ms := 18) (W.widen (k := 3) (n := 18) (Nat.le_of_ble_eq_true rfl) (Nat.le_of_ble_eq_true rfl) ?_)
      exact W.iret (v := nI 1) hx hb hr (fun t ht hW => ⟨⟨nI 1, (ad, g), rfl, ⟨by rw [h1]; try rfl, fun zz1 => absurd zz1 (by omega)⟩, ⟨⟨by rw [ht]; exact hP1, va_K.moved hW.alike hK⟩, hD⟩, fun _ _ => rfl⟩, hS1.F ht⟩) hS1.2.2 dL_isCovered_25
    · obtain ⟨e3, e4⟩ := e2 (by omega)
      rw [e3, e4]
      refine vx_catch hown [⟨0, 19, 22, 13⟩] ⟨0, 19, 26, 15⟩ [] (by rw [htab]; rfl) (fun zq hz => by rw [List.mem_singleton.mp hz]; exact Or.inr ⟨by decide, exI, hts (.classLink RL 13 exI) (by decide +kernel), hN.1⟩) (by decide) (by decide) (hts (.classLink RL 15 exA) (by decide +kernel)) (va_Nw.use rfl hE.2.2.1.2.1) hce hcv hcl ?_
      refine lv_astore (lv' := [(5, .ref q9), (0, .ref (ad 0)), (1, .int p0), (2, .int p1), (3, .int p2), (4, .ref o)]) hx hb dL_isCovered_26 hl (by decide) rfl (fun ls hl => ?_)
      refine lv_iconst (v := nI 2) hx hb dL_isCovered_28 (by decide) ?_
      refine vx_ret (mc := 3) (ms := 18) (W.widen (k := 3) (n := 18) (Nat.le_of_ble_eq_true rfl) (Nat.le_of_ble_eq_true rfl) ?_)
      exact W.iret (v := nI 2) hx hb hr (fun t ht hW => ⟨⟨nI 2, (ad, g), rfl, ⟨by rw [h1]; try rfl, fun zz1 => absurd zz1 (by omega)⟩, ⟨⟨by rw [ht]; exact hP1, va_K.moved hW.alike hK⟩, hD⟩, fun _ _ => rfl⟩, hS1.F ht⟩) hS1.2.2 dL_isCovered_29
    · exact absurd h1 h93
  · obtain ⟨e3, e4⟩ := e1 h0
    rw [e3, e4]
    refine lv_if_eq (tgt := 17) hx hb dL_isCovered_10 (by decide) (fun c1 => ?_) (fun c1 => ?_)
    · refine lv_lconst (v := 0) hx hb dL_isCovered_17 (by decide) ?_
      refine lw_last F hK hP hD hS dL_isCovered_18 (fun H1 locs1 hP hD hS => ?_)
      refine lv_goto (tgt := 30) hx hb dL_isCovered_19 (by decide) ?_
      refine lv_iconst (v := nI 0) hx hb dL_isCovered_30 (by decide) ?_
      refine vx_ret (mc := 3) (ms := 18) (W.widen (k := 3) (n := 18) (Nat.le_of_ble_eq_true rfl) (Nat.le_of_ble_eq_true rfl) ?_)
      exact W.iret (v := nI 0) hx hb hr (fun t ht hW => ⟨⟨nI 0, (ad1, vp_updL g 0 (0)), rfl, ⟨by rw [h0]; try rfl, fun _ => (uL0 g (0)).trans (if_pos c1).symm⟩, ⟨⟨by rw [ht]; exact hP, va_K.moved hW.alike hK⟩, hD⟩, had⟩, hS.F ht⟩) hS.2.2 dL_isCovered_31
    · refine lv_lconst (v := 1) hx hb dL_isCovered_13 (by decide) ?_
      refine lv_goto (tgt := 18) hx hb dL_isCovered_14 (by decide) ?_
      refine lw_last F hK hP hD hS dL_isCovered_18 (fun H1 locs1 hP hD hS => ?_)
      refine lv_goto (tgt := 30) hx hb dL_isCovered_19 (by decide) ?_
      refine lv_iconst (v := nI 0) hx hb dL_isCovered_30 (by decide) ?_
      refine vx_ret (mc := 3) (ms := 18) (W.widen (k := 3) (n := 18) (Nat.le_of_ble_eq_true rfl) (Nat.le_of_ble_eq_true rfl) ?_)
      exact W.iret (v := nI 0) hx hb hr (fun t ht hW => ⟨⟨nI 0, (ad1, vp_updL g 0 (1)), rfl, ⟨by rw [h0]; try rfl, fun _ => (uL0 g (1)).trans (if_neg c1).symm⟩, ⟨⟨by rw [ht]; exact hP, va_K.moved hW.alike hK⟩, hD⟩, had⟩, hS.F ht⟩) hS.2.2 dL_isCovered_31
set_option maxRecDepth 100000 in
set_option maxHeartbeats 2000000 in
theorem c_L_nextGap (l : Launch) (sa : Nat → Nat) (D : va_G) (k : Nat → ClassId) (ad : Nat → Nat) (M : Nat → Nat → Nat) (O : Nat → Nat → Int32) (o : Nat) (g : Nat → Int64) (sz : Nat) (p0 p1 p2 : Int32) {M' M1 : Nat → Nat → Nat} {O' O1 : Nat → Nat → Int32} {xq : Nat} {rr : Int32} (hM : vx_Met l yX2_nextGap wsX2_nextGap ({ frames := 8, cells := 3, slots := 18, locals := 124 }) (va_Pc [.ref (ad 0), .int p0, .int p1, .int p2] (zPre D k ad M O sz sa)) (zQop D k ad M M' O' (va_A (zw (20 + 2 * M 0 1) ad (cX k ad M O)) sz) xq rr) (zX (fun E => exC E xq)) 3 18 (va_A (zw (20 + 2 * M 0 1) ad (cX k ad M O)) sz)) (h93 : xq ≠ 3) (e1 : xq = 0 → M1 = M' ∧ O1 = O') (e2 : xq ≠ 0 → M1 = M ∧ O1 = O) : vx_Met l yL_nextGap wsL_nextGap ({ frames := 9, cells := 3, slots := 18, locals := 149 }) (va_Pc [.ref (ad 0), .int p0, .int p1, .int p2, .ref o] (lwPre D k ad M O o g sz sa)) (lwQ D k ad M M1 O1 o (va_A (lX k o g ad M O) sz) xq (xq) (rr.toInt64)) (zX (fun _ => False)) 3 18 (va_A (lX k o g ad M O) sz) := by
  refine vx_ofWH (cc := cL_nextGap) (maxL := 6) (ret := (some .int)) (by decide) rfl ?_
  intro p e s m args below meth c s₁ B hml hv
  obtain ⟨rfl, hsz, ⟨hP, hK⟩, hD0, hE, hN⟩ := hv
  have hx := B.exec
  have hb := B.bytes
  have hr := B.returns
  have hts := atoms_spec (ws := wsL_nextGap) B.pre
  have hown : s.vm.findClass RL = some m.cls := findClass_of_methodNamed B.named
  have hlocks := B.notSynchronized
  have F : CallFix p m c cL_nextGap 6 s _ wsL_nextGap RL := ⟨hx, hb, hml, hown, hts⟩
  have htab : c.exceptionTable.toList = tableOf [(0, 12, 15, 13), (0, 12, 19, 15)] := vx_table (x := yL_nextGap) B (hts _ List.mem_cons_self)
  subst hsz
  have hD := hD0.self (sz := s.heap.size)
  generalize hAe : va_A (lX k o g ad M O) s.heap.size = A at hD hE ⊢
  have hA : ∀ q : Nat, s.heap.size ≤ q → A q := fun q h => by rw [← hAe]; exact Or.inr h
  have hS : va_S A s.heap s.heap [] := va_S.rf
  have hl := lv_entry ([.ref (ad 0), .int p0, .int p1, .int p2, .ref o]) (n := 6) (Nat.le_of_ble_eq_true rfl)
  rw [lg_entry_eq]
  generalize (lg_sl ([.ref (ad 0), .int p0, .int p1, .int p2, .ref o]) ++ List.replicate (6 - (lg_sl ([.ref (ad 0), .int p0, .int p1, .int p2, .ref o])).length) Slot.unset).toArray = ls at hl ⊢
  have hl : lv_has ls 6 [(0, .ref (ad 0)), (1, .int p0), (2, .int p1), (3, .int p2), (4, .ref o)] := hl
  refine lv_aload hx hb dL_nextGap_0 (lv_at hl 4 rfl) ?_
  refine lv_iconst (v := nI 0) hx hb dL_nextGap_2 (by decide) ?_
  refine lv_aload_n hx hb dL_nextGap_3 rfl (lv_at hl 0 rfl) ?_
  refine lv_iload_n hx hb dL_nextGap_4 rfl (lv_at hl 1 rfl) ?_
  refine lv_iload_n hx hb dL_nextGap_5 rfl (lv_at hl 2 rfl) ?_
  refine lv_iload_n hx hb dL_nextGap_6 rfl (lv_at hl 3 rfl) ?_
  refine lx_call (wb := [(o, (.inl (k 4, 1, .inr (.inl g)) : va_E))]) (As := [.int p0, .int p1, .int p2]) (rest := [.int (nI 0), .ref o]) F hM (cwV 3 hts gL_nextGap_X2_nextGap rfl rfl rfl (by decide +kernel) ⟨Nat.le_of_ble_eq_true rfl, Nat.le_of_ble_eq_true rfl⟩) hK hP hD hS hA hE rfl hl.1 rfl (Nat.le_of_ble_eq_true rfl) dL_nextGap_7 ⟨Nat.le_of_ble_eq_true rfl, Nat.le_of_ble_eq_true rfl⟩ (fun E ce q9 H1 locs1 hEx hP1 hS1 hce hcv hcl => ?_) (fun ad1 H1 locs1 h0 had hP hD hS => ?_)
  · rcases hEx with ⟨h1, rfl⟩ | ⟨h1, rfl⟩ | ⟨h1, rfl⟩
    · obtain ⟨e3, e4⟩ := e2 (by omega)
      rw [e3, e4]
      refine vx_catch hown [] ⟨0, 12, 15, 13⟩ [⟨0, 12, 19, 15⟩] (by rw [htab]; rfl) (fun zq hz => absurd hz List.not_mem_nil) (by decide) (by decide) (hts (.classLink RL 13 exI) (by decide +kernel)) (va_Nw.use rfl hE.2.2.1.1) hce hcv hcl ?_
      refine lv_astore (lv' := [(5, .ref q9), (0, .ref (ad 0)), (1, .int p0), (2, .int p1), (3, .int p2), (4, .ref o)]) hx hb dL_nextGap_15 hl (by decide) rfl (fun ls hl => ?_)
      refine lv_iconst (v := nI 1) hx hb dL_nextGap_17 (by decide) ?_
      refine vx_ret (mc := 3) (ms := 18) (W.widen (k := 3) (n := 18) (Nat.le_of_ble_eq_true rfl) (Nat.le_of_ble_eq_true rfl) ?_)
      exact W.iret (v := nI 1) hx hb hr (fun t ht hW => ⟨⟨nI 1, (ad, g), rfl, ⟨by rw [h1]; try rfl, fun zz1 => absurd zz1 (by omega)⟩, ⟨⟨by rw [ht]; exact hP1, va_K.moved hW.alike hK⟩, hD⟩, fun _ _ => rfl⟩, hS1.F ht⟩) hS1.2.2 dL_nextGap_18
    · obtain ⟨e3, e4⟩ := e2 (by omega)
      rw [e3, e4]
      refine vx_catch hown [⟨0, 12, 15, 13⟩] ⟨0, 12, 19, 15⟩ [] (by rw [htab]; rfl) (fun zq hz => by rw [List.mem_singleton.mp hz]; exact Or.inr ⟨by decide, exI, hts (.classLink RL 13 exI) (by decide +kernel), hN.1⟩) (by decide) (by decide) (hts (.classLink RL 15 exA) (by decide +kernel)) (va_Nw.use rfl hE.2.2.1.2.1) hce hcv hcl ?_
      refine lv_astore (lv' := [(5, .ref q9), (0, .ref (ad 0)), (1, .int p0), (2, .int p1), (3, .int p2), (4, .ref o)]) hx hb dL_nextGap_19 hl (by decide) rfl (fun ls hl => ?_)
      refine lv_iconst (v := nI 2) hx hb dL_nextGap_21 (by decide) ?_
      refine vx_ret (mc := 3) (ms := 18) (W.widen (k := 3) (n := 18) (Nat.le_of_ble_eq_true rfl) (Nat.le_of_ble_eq_true rfl) ?_)
      exact W.iret (v := nI 2) hx hb hr (fun t ht hW => ⟨⟨nI 2, (ad, g), rfl, ⟨by rw [h1]; try rfl, fun zz1 => absurd zz1 (by omega)⟩, ⟨⟨by rw [ht]; exact hP1, va_K.moved hW.alike hK⟩, hD⟩, fun _ _ => rfl⟩, hS1.F ht⟩) hS1.2.2 dL_nextGap_22
    · exact absurd h1 h93
  · obtain ⟨e3, e4⟩ := e1 h0
    rw [e3, e4]
    refine lv_i2l (v := (rr).toInt64) hx hb dL_nextGap_10 rfl ?_
    refine lw_last F hK hP hD hS dL_nextGap_11 (fun H1 locs1 hP hD hS => ?_)
    refine lv_goto (tgt := 23) hx hb dL_nextGap_12 (by decide) ?_
    refine lv_iconst (v := nI 0) hx hb dL_nextGap_23 (by decide) ?_
    refine vx_ret (mc := 3) (ms := 18) (W.widen (k := 3) (n := 18) (Nat.le_of_ble_eq_true rfl) (Nat.le_of_ble_eq_true rfl) ?_)
    exact W.iret (v := nI 0) hx hb hr (fun t ht hW => ⟨⟨nI 0, (ad1, vp_updL g 0 ((rr).toInt64)), rfl, ⟨by rw [h0]; try rfl, fun _ => uL0 g ((rr).toInt64)⟩, ⟨⟨by rw [ht]; exact hP, va_K.moved hW.alike hK⟩, hD⟩, had⟩, hS.F ht⟩) hS.2.2 dL_nextGap_24
set_option maxRecDepth 100000 in
set_option maxHeartbeats 2000000 in
theorem c_L_pass (l : Launch) (sa : Nat → Nat) (D : va_G) (k : Nat → ClassId) (ad : Nat → Nat) (M : Nat → Nat → Nat) (O : Nat → Nat → Int32) (o : Nat) (g : Nat → Int64) (sz : Nat) (p0 : Int32) {M' M1 : Nat → Nat → Nat} {O' O1 : Nat → Nat → Int32} {xq : Nat} {rr : Int32} (hM : vx_Met l yX2_pass wsX2_pass ({ frames := 8, cells := 2, slots := 12, locals := 124 }) (va_Pc [.ref (ad 0), .int p0] (zPre D k ad M O sz sa)) (zQop D k ad M M' O' (va_A (zw (20 + 2 * M 0 1) ad (cX k ad M O)) sz) xq rr) (zX (fun E => exC E xq)) 2 12 (va_A (zw (20 + 2 * M 0 1) ad (cX k ad M O)) sz)) (h91 : xq ≠ 1) (e1 : xq = 0 → M1 = M' ∧ O1 = O') (e2 : xq ≠ 0 → M1 = M ∧ O1 = O) : vx_Met l yL_pass wsL_pass ({ frames := 9, cells := 2, slots := 12, locals := 149 }) (va_Pc [.ref (ad 0), .int p0, .ref o] (lwPre D k ad M O o g sz sa)) (lwQ D k ad M M1 O1 o (va_A (lX k o g ad M O) sz) xq (xq - 1) (rr.toInt64)) (zX (fun _ => False)) 2 12 (va_A (lX k o g ad M O) sz) := by
  refine vx_ofWH (cc := cL_pass) (maxL := 4) (ret := (some .int)) (by decide) rfl ?_
  intro p e s m args below meth c s₁ B hml hv
  obtain ⟨rfl, hsz, ⟨hP, hK⟩, hD0, hE, hN⟩ := hv
  have hx := B.exec
  have hb := B.bytes
  have hr := B.returns
  have hts := atoms_spec (ws := wsL_pass) B.pre
  have hown : s.vm.findClass RL = some m.cls := findClass_of_methodNamed B.named
  have hlocks := B.notSynchronized
  have F : CallFix p m c cL_pass 4 s _ wsL_pass RL := ⟨hx, hb, hml, hown, hts⟩
  have htab : c.exceptionTable.toList = tableOf [(0, 9, 12, 15), (0, 9, 15, 20)] := vx_table (x := yL_pass) B (hts _ List.mem_cons_self)
  subst hsz
  have hD := hD0.self (sz := s.heap.size)
  generalize hAe : va_A (lX k o g ad M O) s.heap.size = A at hD hE ⊢
  have hA : ∀ q : Nat, s.heap.size ≤ q → A q := fun q h => by rw [← hAe]; exact Or.inr h
  have hS : va_S A s.heap s.heap [] := va_S.rf
  have hl := lv_entry ([.ref (ad 0), .int p0, .ref o]) (n := 4) (Nat.le_of_ble_eq_true rfl)
  rw [lg_entry_eq]
  generalize (lg_sl ([.ref (ad 0), .int p0, .ref o]) ++ List.replicate (4 - (lg_sl ([.ref (ad 0), .int p0, .ref o])).length) Slot.unset).toArray = ls at hl ⊢
  have hl : lv_has ls 4 [(0, .ref (ad 0)), (1, .int p0), (2, .ref o)] := hl
  refine lv_aload_n hx hb dL_pass_0 rfl (lv_at hl 2 rfl) ?_
  refine lv_iconst (v := nI 0) hx hb dL_pass_1 (by decide) ?_
  refine lv_aload_n hx hb dL_pass_2 rfl (lv_at hl 0 rfl) ?_
  refine lv_iload_n hx hb dL_pass_3 rfl (lv_at hl 1 rfl) ?_
  refine lx_call (wb := [(o, (.inl (k 4, 1, .inr (.inl g)) : va_E))]) (As := [.int p0]) (rest := [.int (nI 0), .ref o]) F hM (cwV 1 hts gL_pass_X2_pass rfl rfl rfl (by decide +kernel) ⟨Nat.le_of_ble_eq_true rfl, Nat.le_of_ble_eq_true rfl⟩) hK hP hD hS hA hE rfl hl.1 rfl (Nat.le_of_ble_eq_true rfl) dL_pass_4 ⟨Nat.le_of_ble_eq_true rfl, Nat.le_of_ble_eq_true rfl⟩ (fun E ce q9 H1 locs1 hEx hP1 hS1 hce hcv hcl => ?_) (fun ad1 H1 locs1 h0 had hP hD hS => ?_)
  · rcases hEx with ⟨h1, rfl⟩ | ⟨h1, rfl⟩ | ⟨h1, rfl⟩
    · exact absurd h1 h91
    · obtain ⟨e3, e4⟩ := e2 (by omega)
      rw [e3, e4]
      refine vx_catch hown [] ⟨0, 9, 12, 15⟩ [⟨0, 9, 15, 20⟩] (by rw [htab]; rfl) (fun zq hz => absurd hz List.not_mem_nil) (by decide) (by decide) (hts (.classLink RL 15 exA) (by decide +kernel)) (va_Nw.use rfl hE.2.2.1.2.1) hce hcv hcl ?_
      refine lv_astore_n (lv' := [(3, .ref q9), (0, .ref (ad 0)), (1, .int p0), (2, .ref o)]) hx hb dL_pass_12 rfl hl (by decide) rfl (fun ls hl => ?_)
      refine lv_iconst (v := nI 1) hx hb dL_pass_13 (by decide) ?_
      refine vx_ret (mc := 2) (ms := 12) (W.widen (k := 2) (n := 12) (Nat.le_of_ble_eq_true rfl) (Nat.le_of_ble_eq_true rfl) ?_)
      exact W.iret (v := nI 1) hx hb hr (fun t ht hW => ⟨⟨nI 1, (ad, g), rfl, ⟨by rw [h1]; try rfl, fun zz1 => absurd zz1 (by omega)⟩, ⟨⟨by rw [ht]; exact hP1, va_K.moved hW.alike hK⟩, hD⟩, fun _ _ => rfl⟩, hS1.F ht⟩) hS1.2.2 dL_pass_14
    · obtain ⟨e3, e4⟩ := e2 (by omega)
      rw [e3, e4]
      refine vx_catch hown [⟨0, 9, 12, 15⟩] ⟨0, 9, 15, 20⟩ [] (by rw [htab]; rfl) (fun zq hz => by rw [List.mem_singleton.mp hz]; exact Or.inr ⟨by decide, exA, hts (.classLink RL 15 exA) (by decide +kernel), hN.2.2⟩) (by decide) (by decide) (hts (.classLink RL 20 exS) (by decide +kernel)) (va_Nw.use rfl hE.2.2.1.2.2) hce hcv hcl ?_
      refine lv_astore_n (lv' := [(3, .ref q9), (0, .ref (ad 0)), (1, .int p0), (2, .ref o)]) hx hb dL_pass_15 rfl hl (by decide) rfl (fun ls hl => ?_)
      refine lv_iconst (v := nI 2) hx hb dL_pass_16 (by decide) ?_
      refine vx_ret (mc := 2) (ms := 12) (W.widen (k := 2) (n := 12) (Nat.le_of_ble_eq_true rfl) (Nat.le_of_ble_eq_true rfl) ?_)
      exact W.iret (v := nI 2) hx hb hr (fun t ht hW => ⟨⟨nI 2, (ad, g), rfl, ⟨by rw [h1]; try rfl, fun zz1 => absurd zz1 (by omega)⟩, ⟨⟨by rw [ht]; exact hP1, va_K.moved hW.alike hK⟩, hD⟩, fun _ _ => rfl⟩, hS1.F ht⟩) hS1.2.2 dL_pass_17
  · obtain ⟨e3, e4⟩ := e1 h0
    rw [e3, e4]
    refine lv_i2l (v := (rr).toInt64) hx hb dL_pass_7 rfl ?_
    refine lw_last F hK hP hD hS dL_pass_8 (fun H1 locs1 hP hD hS => ?_)
    refine lv_goto (tgt := 18) hx hb dL_pass_9 (by decide) ?_
    refine lv_iconst (v := nI 0) hx hb dL_pass_18 (by decide) ?_
    refine vx_ret (mc := 2) (ms := 12) (W.widen (k := 2) (n := 12) (Nat.le_of_ble_eq_true rfl) (Nat.le_of_ble_eq_true rfl) ?_)
    exact W.iret (v := nI 0) hx hb hr (fun t ht hW => ⟨⟨nI 0, (ad1, vp_updL g 0 ((rr).toInt64)), rfl, ⟨by rw [h0]; try rfl, fun _ => uL0 g ((rr).toInt64)⟩, ⟨⟨by rw [ht]; exact hP, va_K.moved hW.alike hK⟩, hD⟩, had⟩, hS.F ht⟩) hS.2.2 dL_pass_19
set_option maxRecDepth 100000 in
set_option maxHeartbeats 2000000 in
theorem c_L_hours (l : Launch) (sa : Nat → Nat) (D : va_G) (k : Nat → ClassId) (ad : Nat → Nat) (M : Nat → Nat → Nat) (O : Nat → Nat → Int32) (o : Nat) (g : Nat → Int64) (sz : Nat) (p0 p1 p2 : Int32) {M' M1 : Nat → Nat → Nat} {O' O1 : Nat → Nat → Int32} {xq : Nat} {rr : Int32} (hM : vx_Met l yX2_hours wsX2_hours ({ frames := 8, cells := 3, slots := 18, locals := 124 }) (va_Pc [.ref (ad 0), .int p0, .int p1, .int p2] (zPre D k ad M O sz sa)) (zQop D k ad M M' O' (va_A (zw (20 + 2 * M 0 1) ad (cX k ad M O)) sz) xq rr) (zX (fun E => exC E xq)) 3 18 (va_A (zw (20 + 2 * M 0 1) ad (cX k ad M O)) sz)) (h93 : xq ≠ 3) (e1 : xq = 0 → M1 = M' ∧ O1 = O') (e2 : xq ≠ 0 → M1 = M ∧ O1 = O) : vx_Met l yL_hours wsL_hours ({ frames := 9, cells := 3, slots := 18, locals := 148 }) (va_Pc [.ref (ad 0), .int p0, .int p1, .int p2, .ref o] (lwPre D k ad M O o g sz sa)) (lwQ D k ad M M1 O1 o (va_A (lX k o g ad M O) sz) xq (xq) (rr.toInt64)) (zX (fun _ => False)) 3 18 (va_A (lX k o g ad M O) sz) := by
  refine vx_ofWH (cc := cL_hours) (maxL := 6) (ret := (some .int)) (by decide) rfl ?_
  intro p e s m args below meth c s₁ B hml hv
  obtain ⟨rfl, hsz, ⟨hP, hK⟩, hD0, hE, hN⟩ := hv
  have hx := B.exec
  have hb := B.bytes
  have hr := B.returns
  have hts := atoms_spec (ws := wsL_hours) B.pre
  have hown : s.vm.findClass RL = some m.cls := findClass_of_methodNamed B.named
  have hlocks := B.notSynchronized
  have F : CallFix p m c cL_hours 6 s _ wsL_hours RL := ⟨hx, hb, hml, hown, hts⟩
  have htab : c.exceptionTable.toList = tableOf [(0, 12, 15, 13), (0, 12, 19, 15)] := vx_table (x := yL_hours) B (hts _ List.mem_cons_self)
  subst hsz
  have hD := hD0.self (sz := s.heap.size)
  generalize hAe : va_A (lX k o g ad M O) s.heap.size = A at hD hE ⊢
  have hA : ∀ q : Nat, s.heap.size ≤ q → A q := fun q h => by rw [← hAe]; exact Or.inr h
  have hS : va_S A s.heap s.heap [] := va_S.rf
  have hl := lv_entry ([.ref (ad 0), .int p0, .int p1, .int p2, .ref o]) (n := 6) (Nat.le_of_ble_eq_true rfl)
  rw [lg_entry_eq]
  generalize (lg_sl ([.ref (ad 0), .int p0, .int p1, .int p2, .ref o]) ++ List.replicate (6 - (lg_sl ([.ref (ad 0), .int p0, .int p1, .int p2, .ref o])).length) Slot.unset).toArray = ls at hl ⊢
  have hl : lv_has ls 6 [(0, .ref (ad 0)), (1, .int p0), (2, .int p1), (3, .int p2), (4, .ref o)] := hl
  refine lv_aload hx hb dL_hours_0 (lv_at hl 4 rfl) ?_
  refine lv_iconst (v := nI 0) hx hb dL_hours_2 (by decide) ?_
  refine lv_aload_n hx hb dL_hours_3 rfl (lv_at hl 0 rfl) ?_
  refine lv_iload_n hx hb dL_hours_4 rfl (lv_at hl 1 rfl) ?_
  refine lv_iload_n hx hb dL_hours_5 rfl (lv_at hl 2 rfl) ?_
  refine lv_iload_n hx hb dL_hours_6 rfl (lv_at hl 3 rfl) ?_
  refine lx_call (wb := [(o, (.inl (k 4, 1, .inr (.inl g)) : va_E))]) (As := [.int p0, .int p1, .int p2]) (rest := [.int (nI 0), .ref o]) F hM (cwV 3 hts gL_hours_X2_hours rfl rfl rfl (by decide +kernel) ⟨Nat.le_of_ble_eq_true rfl, Nat.le_of_ble_eq_true rfl⟩) hK hP hD hS hA hE rfl hl.1 rfl (Nat.le_of_ble_eq_true rfl) dL_hours_7 ⟨Nat.le_of_ble_eq_true rfl, Nat.le_of_ble_eq_true rfl⟩ (fun E ce q9 H1 locs1 hEx hP1 hS1 hce hcv hcl => ?_) (fun ad1 H1 locs1 h0 had hP hD hS => ?_)
  · rcases hEx with ⟨h1, rfl⟩ | ⟨h1, rfl⟩ | ⟨h1, rfl⟩
    · obtain ⟨e3, e4⟩ := e2 (by omega)
      rw [e3, e4]
      refine vx_catch hown [] ⟨0, 12, 15, 13⟩ [⟨0, 12, 19, 15⟩] (by rw [htab]; rfl) (fun zq hz => absurd hz List.not_mem_nil) (by decide) (by decide) (hts (.classLink RL 13 exI) (by decide +kernel)) (va_Nw.use rfl hE.2.2.1.1) hce hcv hcl ?_
      refine lv_astore (lv' := [(5, .ref q9), (0, .ref (ad 0)), (1, .int p0), (2, .int p1), (3, .int p2), (4, .ref o)]) hx hb dL_hours_15 hl (by decide) rfl (fun ls hl => ?_)
      refine lv_iconst (v := nI 1) hx hb dL_hours_17 (by decide) ?_
      refine vx_ret (mc := 3) (ms := 18) (W.widen (k := 3) (n := 18) (Nat.le_of_ble_eq_true rfl) (Nat.le_of_ble_eq_true rfl) ?_)
      exact W.iret (v := nI 1) hx hb hr (fun t ht hW => ⟨⟨nI 1, (ad, g), rfl, ⟨by rw [h1]; try rfl, fun zz1 => absurd zz1 (by omega)⟩, ⟨⟨by rw [ht]; exact hP1, va_K.moved hW.alike hK⟩, hD⟩, fun _ _ => rfl⟩, hS1.F ht⟩) hS1.2.2 dL_hours_18
    · obtain ⟨e3, e4⟩ := e2 (by omega)
      rw [e3, e4]
      refine vx_catch hown [⟨0, 12, 15, 13⟩] ⟨0, 12, 19, 15⟩ [] (by rw [htab]; rfl) (fun zq hz => by rw [List.mem_singleton.mp hz]; exact Or.inr ⟨by decide, exI, hts (.classLink RL 13 exI) (by decide +kernel), hN.1⟩) (by decide) (by decide) (hts (.classLink RL 15 exA) (by decide +kernel)) (va_Nw.use rfl hE.2.2.1.2.1) hce hcv hcl ?_
      refine lv_astore (lv' := [(5, .ref q9), (0, .ref (ad 0)), (1, .int p0), (2, .int p1), (3, .int p2), (4, .ref o)]) hx hb dL_hours_19 hl (by decide) rfl (fun ls hl => ?_)
      refine lv_iconst (v := nI 2) hx hb dL_hours_21 (by decide) ?_
      refine vx_ret (mc := 3) (ms := 18) (W.widen (k := 3) (n := 18) (Nat.le_of_ble_eq_true rfl) (Nat.le_of_ble_eq_true rfl) ?_)
      exact W.iret (v := nI 2) hx hb hr (fun t ht hW => ⟨⟨nI 2, (ad, g), rfl, ⟨by rw [h1]; try rfl, fun zz1 => absurd zz1 (by omega)⟩, ⟨⟨by rw [ht]; exact hP1, va_K.moved hW.alike hK⟩, hD⟩, fun _ _ => rfl⟩, hS1.F ht⟩) hS1.2.2 dL_hours_22
    · exact absurd h1 h93
  · obtain ⟨e3, e4⟩ := e1 h0
    rw [e3, e4]
    refine lv_i2l (v := (rr).toInt64) hx hb dL_hours_10 rfl ?_
    refine lw_last F hK hP hD hS dL_hours_11 (fun H1 locs1 hP hD hS => ?_)
    refine lv_goto (tgt := 23) hx hb dL_hours_12 (by decide) ?_
    refine lv_iconst (v := nI 0) hx hb dL_hours_23 (by decide) ?_
    refine vx_ret (mc := 3) (ms := 18) (W.widen (k := 3) (n := 18) (Nat.le_of_ble_eq_true rfl) (Nat.le_of_ble_eq_true rfl) ?_)
    exact W.iret (v := nI 0) hx hb hr (fun t ht hW => ⟨⟨nI 0, (ad1, vp_updL g 0 ((rr).toInt64)), rfl, ⟨by rw [h0]; try rfl, fun _ => uL0 g ((rr).toInt64)⟩, ⟨⟨by rw [ht]; exact hP, va_K.moved hW.alike hK⟩, hD⟩, had⟩, hS.F ht⟩) hS.2.2 dL_hours_24
set_option maxRecDepth 100000 in
set_option maxHeartbeats 2000000 in
theorem c_L_hoursOneByOne (l : Launch) (sa : Nat → Nat) (D : va_G) (k : Nat → ClassId) (ad : Nat → Nat) (M : Nat → Nat → Nat) (O : Nat → Nat → Int32) (o : Nat) (g : Nat → Int64) (sz : Nat) (p0 p1 p2 : Int32) {M' M1 : Nat → Nat → Nat} {O' O1 : Nat → Nat → Int32} {xq : Nat} {rr : Int32} (hM : vx_Met l yX2_hoursOneByOne wsX2_hoursOneByOne ({ frames := 8, cells := 3, slots := 18, locals := 124 }) (va_Pc [.ref (ad 0), .int p0, .int p1, .int p2] (zPre D k ad M O sz sa)) (zQop D k ad M M' O' (va_A (zw (20 + 2 * M 0 1) ad (cX k ad M O)) sz) xq rr) (zX (fun E => exC E xq)) 3 18 (va_A (zw (20 + 2 * M 0 1) ad (cX k ad M O)) sz)) (h93 : xq ≠ 3) (e1 : xq = 0 → M1 = M' ∧ O1 = O') (e2 : xq ≠ 0 → M1 = M ∧ O1 = O) : vx_Met l yL_hoursOneByOne wsL_hoursOneByOne ({ frames := 9, cells := 3, slots := 18, locals := 150 }) (va_Pc [.ref (ad 0), .int p0, .int p1, .int p2, .ref o] (lwPre D k ad M O o g sz sa)) (lwQ D k ad M M1 O1 o (va_A (lX k o g ad M O) sz) xq (xq) (rr.toInt64)) (zX (fun _ => False)) 3 18 (va_A (lX k o g ad M O) sz) := by
  refine vx_ofWH (cc := cL_hoursOneByOne) (maxL := 6) (ret := (some .int)) (by decide) rfl ?_
  intro p e s m args below meth c s₁ B hml hv
  obtain ⟨rfl, hsz, ⟨hP, hK⟩, hD0, hE, hN⟩ := hv
  have hx := B.exec
  have hb := B.bytes
  have hr := B.returns
  have hts := atoms_spec (ws := wsL_hoursOneByOne) B.pre
  have hown : s.vm.findClass RL = some m.cls := findClass_of_methodNamed B.named
  have hlocks := B.notSynchronized
  have F : CallFix p m c cL_hoursOneByOne 6 s _ wsL_hoursOneByOne RL := ⟨hx, hb, hml, hown, hts⟩
  have htab : c.exceptionTable.toList = tableOf [(0, 12, 15, 13), (0, 12, 19, 15)] := vx_table (x := yL_hoursOneByOne) B (hts _ List.mem_cons_self)
  subst hsz
  have hD := hD0.self (sz := s.heap.size)
  generalize hAe : va_A (lX k o g ad M O) s.heap.size = A at hD hE ⊢
  have hA : ∀ q : Nat, s.heap.size ≤ q → A q := fun q h => by rw [← hAe]; exact Or.inr h
  have hS : va_S A s.heap s.heap [] := va_S.rf
  have hl := lv_entry ([.ref (ad 0), .int p0, .int p1, .int p2, .ref o]) (n := 6) (Nat.le_of_ble_eq_true rfl)
  rw [lg_entry_eq]
  generalize (lg_sl ([.ref (ad 0), .int p0, .int p1, .int p2, .ref o]) ++ List.replicate (6 - (lg_sl ([.ref (ad 0), .int p0, .int p1, .int p2, .ref o])).length) Slot.unset).toArray = ls at hl ⊢
  have hl : lv_has ls 6 [(0, .ref (ad 0)), (1, .int p0), (2, .int p1), (3, .int p2), (4, .ref o)] := hl
  refine lv_aload hx hb dL_hoursOneByOne_0 (lv_at hl 4 rfl) ?_
  refine lv_iconst (v := nI 0) hx hb dL_hoursOneByOne_2 (by decide) ?_
  refine lv_aload_n hx hb dL_hoursOneByOne_3 rfl (lv_at hl 0 rfl) ?_
  refine lv_iload_n hx hb dL_hoursOneByOne_4 rfl (lv_at hl 1 rfl) ?_
  refine lv_iload_n hx hb dL_hoursOneByOne_5 rfl (lv_at hl 2 rfl) ?_
  refine lv_iload_n hx hb dL_hoursOneByOne_6 rfl (lv_at hl 3 rfl) ?_
  refine lx_call (wb := [(o, (.inl (k 4, 1, .inr (.inl g)) : va_E))]) (As := [.int p0, .int p1, .int p2]) (rest := [.int (nI 0), .ref o]) F hM (cwV 3 hts gL_hoursOneByOne_X2_hoursOneByOne rfl rfl rfl (by decide +kernel) ⟨Nat.le_of_ble_eq_true rfl, Nat.le_of_ble_eq_true rfl⟩) hK hP hD hS hA hE rfl hl.1 rfl (Nat.le_of_ble_eq_true rfl) dL_hoursOneByOne_7 ⟨Nat.le_of_ble_eq_true rfl, Nat.le_of_ble_eq_true rfl⟩ (fun E ce q9 H1 locs1 hEx hP1 hS1 hce hcv hcl => ?_) (fun ad1 H1 locs1 h0 had hP hD hS => ?_)
  · rcases hEx with ⟨h1, rfl⟩ | ⟨h1, rfl⟩ | ⟨h1, rfl⟩
    · obtain ⟨e3, e4⟩ := e2 (by omega)
      rw [e3, e4]
      refine vx_catch hown [] ⟨0, 12, 15, 13⟩ [⟨0, 12, 19, 15⟩] (by rw [htab]; rfl) (fun zq hz => absurd hz List.not_mem_nil) (by decide) (by decide) (hts (.classLink RL 13 exI) (by decide +kernel)) (va_Nw.use rfl hE.2.2.1.1) hce hcv hcl ?_
      refine lv_astore (lv' := [(5, .ref q9), (0, .ref (ad 0)), (1, .int p0), (2, .int p1), (3, .int p2), (4, .ref o)]) hx hb dL_hoursOneByOne_15 hl (by decide) rfl (fun ls hl => ?_)
      refine lv_iconst (v := nI 1) hx hb dL_hoursOneByOne_17 (by decide) ?_
      refine vx_ret (mc := 3) (ms := 18) (W.widen (k := 3) (n := 18) (Nat.le_of_ble_eq_true rfl) (Nat.le_of_ble_eq_true rfl) ?_)
      exact W.iret (v := nI 1) hx hb hr (fun t ht hW => ⟨⟨nI 1, (ad, g), rfl, ⟨by rw [h1]; try rfl, fun zz1 => absurd zz1 (by omega)⟩, ⟨⟨by rw [ht]; exact hP1, va_K.moved hW.alike hK⟩, hD⟩, fun _ _ => rfl⟩, hS1.F ht⟩) hS1.2.2 dL_hoursOneByOne_18
    · obtain ⟨e3, e4⟩ := e2 (by omega)
      rw [e3, e4]
      refine vx_catch hown [⟨0, 12, 15, 13⟩] ⟨0, 12, 19, 15⟩ [] (by rw [htab]; rfl) (fun zq hz => by rw [List.mem_singleton.mp hz]; exact Or.inr ⟨by decide, exI, hts (.classLink RL 13 exI) (by decide +kernel), hN.1⟩) (by decide) (by decide) (hts (.classLink RL 15 exA) (by decide +kernel)) (va_Nw.use rfl hE.2.2.1.2.1) hce hcv hcl ?_
      refine lv_astore (lv' := [(5, .ref q9), (0, .ref (ad 0)), (1, .int p0), (2, .int p1), (3, .int p2), (4, .ref o)]) hx hb dL_hoursOneByOne_19 hl (by decide) rfl (fun ls hl => ?_)
      refine lv_iconst (v := nI 2) hx hb dL_hoursOneByOne_21 (by decide) ?_
      refine vx_ret (mc := 3) (ms := 18) (W.widen (k := 3) (n := 18) (Nat.le_of_ble_eq_true rfl) (Nat.le_of_ble_eq_true rfl) ?_)
      exact W.iret (v := nI 2) hx hb hr (fun t ht hW => ⟨⟨nI 2, (ad, g), rfl, ⟨by rw [h1]; try rfl, fun zz1 => absurd zz1 (by omega)⟩, ⟨⟨by rw [ht]; exact hP1, va_K.moved hW.alike hK⟩, hD⟩, fun _ _ => rfl⟩, hS1.F ht⟩) hS1.2.2 dL_hoursOneByOne_22
    · exact absurd h1 h93
  · obtain ⟨e3, e4⟩ := e1 h0
    rw [e3, e4]
    refine lv_i2l (v := (rr).toInt64) hx hb dL_hoursOneByOne_10 rfl ?_
    refine lw_last F hK hP hD hS dL_hoursOneByOne_11 (fun H1 locs1 hP hD hS => ?_)
    refine lv_goto (tgt := 23) hx hb dL_hoursOneByOne_12 (by decide) ?_
    refine lv_iconst (v := nI 0) hx hb dL_hoursOneByOne_23 (by decide) ?_
    refine vx_ret (mc := 3) (ms := 18) (W.widen (k := 3) (n := 18) (Nat.le_of_ble_eq_true rfl) (Nat.le_of_ble_eq_true rfl) ?_)
    exact W.iret (v := nI 0) hx hb hr (fun t ht hW => ⟨⟨nI 0, (ad1, vp_updL g 0 ((rr).toInt64)), rfl, ⟨by rw [h0]; try rfl, fun _ => uL0 g ((rr).toInt64)⟩, ⟨⟨by rw [ht]; exact hP, va_K.moved hW.alike hK⟩, hD⟩, had⟩, hS.F ht⟩) hS.2.2 dL_hoursOneByOne_24
set_option maxRecDepth 100000 in
set_option maxHeartbeats 2000000 in
theorem c_L_open (l : Launch) (sa : Nat → Nat) (D : va_G) (k : Nat → ClassId) (ad : Nat → Nat) (M : Nat → Nat → Nat) (O : Nat → Nat → Int32) (o : Nat) (g : Nat → Int64) (sz : Nat) (p0 p1 p2 : Int32) {M' M1 : Nat → Nat → Nat} {O' O1 : Nat → Nat → Int32} {xq : Nat} {rr : Int32} (hM : vx_Met l yX2_open wsX2_open ({ frames := 8, cells := 6, slots := 35, locals := 124 }) (va_Pc [.ref (ad 0), .int p0, .int p1, .int p2] (zPre D k ad M O sz sa)) (zQop D k ad M M' O' (va_A (zw (20 + 2 * M 0 1) ad (cX k ad M O)) sz) xq rr) (zX (fun E => exC E xq)) 6 35 (va_A (zw (20 + 2 * M 0 1) ad (cX k ad M O)) sz)) (e1 : xq = 0 → M1 = M' ∧ O1 = O') (e2 : xq ≠ 0 → M1 = M ∧ O1 = O) : vx_Met l yL_open wsL_open ({ frames := 9, cells := 6, slots := 35, locals := 149 }) (va_Pc [.ref (ad 0), .int p0, .int p1, .int p2, .ref o] (lwPre D k ad M O o g sz sa)) (lwQ D k ad M M1 O1 o (va_A (lX k o g ad M O) sz) xq (xq) (rr.toInt64)) (zX (fun _ => False)) 6 35 (va_A (lX k o g ad M O) sz) := by
  refine vx_ofWH (cc := cL_open) (maxL := 6) (ret := (some .int)) (by decide) rfl ?_
  intro p e s m args below meth c s₁ B hml hv
  obtain ⟨rfl, hsz, ⟨hP, hK⟩, hD0, hE, hN⟩ := hv
  have hx := B.exec
  have hb := B.bytes
  have hr := B.returns
  have hts := atoms_spec (ws := wsL_open) B.pre
  have hown : s.vm.findClass RL = some m.cls := findClass_of_methodNamed B.named
  have hlocks := B.notSynchronized
  have F : CallFix p m c cL_open 6 s _ wsL_open RL := ⟨hx, hb, hml, hown, hts⟩
  have htab : c.exceptionTable.toList = tableOf [(0, 12, 15, 13), (0, 12, 19, 15), (0, 12, 23, 20)] := vx_table (x := yL_open) B (hts _ List.mem_cons_self)
  subst hsz
  have hD := hD0.self (sz := s.heap.size)
  generalize hAe : va_A (lX k o g ad M O) s.heap.size = A at hD hE ⊢
  have hA : ∀ q : Nat, s.heap.size ≤ q → A q := fun q h => by rw [← hAe]; exact Or.inr h
  have hS : va_S A s.heap s.heap [] := va_S.rf
  have hl := lv_entry ([.ref (ad 0), .int p0, .int p1, .int p2, .ref o]) (n := 6) (Nat.le_of_ble_eq_true rfl)
  rw [lg_entry_eq]
  generalize (lg_sl ([.ref (ad 0), .int p0, .int p1, .int p2, .ref o]) ++ List.replicate (6 - (lg_sl ([.ref (ad 0), .int p0, .int p1, .int p2, .ref o])).length) Slot.unset).toArray = ls at hl ⊢
  have hl : lv_has ls 6 [(0, .ref (ad 0)), (1, .int p0), (2, .int p1), (3, .int p2), (4, .ref o)] := hl
  refine lv_aload hx hb dL_open_0 (lv_at hl 4 rfl) ?_
  refine lv_iconst (v := nI 0) hx hb dL_open_2 (by decide) ?_
  refine lv_aload_n hx hb dL_open_3 rfl (lv_at hl 0 rfl) ?_
  refine lv_iload_n hx hb dL_open_4 rfl (lv_at hl 1 rfl) ?_
  refine lv_iload_n hx hb dL_open_5 rfl (lv_at hl 2 rfl) ?_
  refine lv_iload_n hx hb dL_open_6 rfl (lv_at hl 3 rfl) ?_
  refine lx_call (wb := [(o, (.inl (k 4, 1, .inr (.inl g)) : va_E))]) (As := [.int p0, .int p1, .int p2]) (rest := [.int (nI 0), .ref o]) F hM (cwV 3 hts gL_open_X2_open rfl rfl rfl (by decide +kernel) ⟨Nat.le_of_ble_eq_true rfl, Nat.le_of_ble_eq_true rfl⟩) hK hP hD hS hA hE rfl hl.1 rfl (Nat.le_of_ble_eq_true rfl) dL_open_7 ⟨Nat.le_of_ble_eq_true rfl, Nat.le_of_ble_eq_true rfl⟩ (fun E ce q9 H1 locs1 hEx hP1 hS1 hce hcv hcl => ?_) (fun ad1 H1 locs1 h0 had hP hD hS => ?_)
  · rcases hEx with ⟨h1, rfl⟩ | ⟨h1, rfl⟩ | ⟨h1, rfl⟩
    · obtain ⟨e3, e4⟩ := e2 (by omega)
      rw [e3, e4]
      refine vx_catch hown [] ⟨0, 12, 15, 13⟩ [⟨0, 12, 19, 15⟩, ⟨0, 12, 23, 20⟩] (by rw [htab]; rfl) (fun zq hz => absurd hz List.not_mem_nil) (by decide) (by decide) (hts (.classLink RL 13 exI) (by decide +kernel)) (va_Nw.use rfl hE.2.2.1.1) hce hcv hcl ?_
      refine lv_astore (lv' := [(5, .ref q9), (0, .ref (ad 0)), (1, .int p0), (2, .int p1), (3, .int p2), (4, .ref o)]) hx hb dL_open_15 hl (by decide) rfl (fun ls hl => ?_)
      refine lv_iconst (v := nI 1) hx hb dL_open_17 (by decide) ?_
      refine vx_ret (mc := 6) (ms := 35) (W.widen (k := 6) (n := 35) (Nat.le_of_ble_eq_true rfl) (Nat.le_of_ble_eq_true rfl) ?_)
      exact W.iret (v := nI 1) hx hb hr (fun t ht hW => ⟨⟨nI 1, (ad, g), rfl, ⟨by rw [h1]; try rfl, fun zz1 => absurd zz1 (by omega)⟩, ⟨⟨by rw [ht]; exact hP1, va_K.moved hW.alike hK⟩, hD⟩, fun _ _ => rfl⟩, hS1.F ht⟩) hS1.2.2 dL_open_18
    · obtain ⟨e3, e4⟩ := e2 (by omega)
      rw [e3, e4]
      refine vx_catch hown [⟨0, 12, 15, 13⟩] ⟨0, 12, 19, 15⟩ [⟨0, 12, 23, 20⟩] (by rw [htab]; rfl) (fun zq hz => by rw [List.mem_singleton.mp hz]; exact Or.inr ⟨by decide, exI, hts (.classLink RL 13 exI) (by decide +kernel), hN.1⟩) (by decide) (by decide) (hts (.classLink RL 15 exA) (by decide +kernel)) (va_Nw.use rfl hE.2.2.1.2.1) hce hcv hcl ?_
      refine lv_astore (lv' := [(5, .ref q9), (0, .ref (ad 0)), (1, .int p0), (2, .int p1), (3, .int p2), (4, .ref o)]) hx hb dL_open_19 hl (by decide) rfl (fun ls hl => ?_)
      refine lv_iconst (v := nI 2) hx hb dL_open_21 (by decide) ?_
      refine vx_ret (mc := 6) (ms := 35) (W.widen (k := 6) (n := 35) (Nat.le_of_ble_eq_true rfl) (Nat.le_of_ble_eq_true rfl) ?_)
      exact W.iret (v := nI 2) hx hb hr (fun t ht hW => ⟨⟨nI 2, (ad, g), rfl, ⟨by rw [h1]; try rfl, fun zz1 => absurd zz1 (by omega)⟩, ⟨⟨by rw [ht]; exact hP1, va_K.moved hW.alike hK⟩, hD⟩, fun _ _ => rfl⟩, hS1.F ht⟩) hS1.2.2 dL_open_22
    · obtain ⟨e3, e4⟩ := e2 (by omega)
      rw [e3, e4]
      have hps : ∀ zq ∈ ([⟨0, 12, 15, 13⟩, ⟨0, 12, 19, 15⟩] : List ExceptionTableEntry), covers zq 7 = false ∨ (zq.catchType ≠ 0 ∧ ∃ nm : String, (Cond.classLink RL zq.catchType nm).before (#[.ref (ad 0), .int p0, .int p1, .int p2, .ref o] : Array Value) s = true ∧ va_Nc exS nm s) := by
        intro zq hz
        rcases List.mem_cons.mp hz with hz | hz
        · rw [hz]; exact Or.inr ⟨by decide, exI, hts (.classLink RL 13 exI) (by decide +kernel), hN.2.1⟩
        · rw [List.mem_singleton.mp hz]; exact Or.inr ⟨by decide, exA, hts (.classLink RL 15 exA) (by decide +kernel), hN.2.2⟩
      refine vx_catch hown [⟨0, 12, 15, 13⟩, ⟨0, 12, 19, 15⟩] ⟨0, 12, 23, 20⟩ [] (by rw [htab]; rfl) hps (by decide) (by decide) (hts (.classLink RL 20 exS) (by decide +kernel)) (va_Nw.use rfl hE.2.2.1.2.2) hce hcv hcl ?_
      refine lv_astore (lv' := [(5, .ref q9), (0, .ref (ad 0)), (1, .int p0), (2, .int p1), (3, .int p2), (4, .ref o)]) hx hb dL_open_23 hl (by decide) rfl (fun ls hl => ?_)
      refine lv_iconst (v := nI 3) hx hb dL_open_25 (by decide) ?_
      refine vx_ret (mc := 6) (ms := 35) (W.widen (k := 6) (n := 35) (Nat.le_of_ble_eq_true rfl) (Nat.le_of_ble_eq_true rfl) ?_)
      exact W.iret (v := nI 3) hx hb hr (fun t ht hW => ⟨⟨nI 3, (ad, g), rfl, ⟨by rw [h1]; try rfl, fun zz1 => absurd zz1 (by omega)⟩, ⟨⟨by rw [ht]; exact hP1, va_K.moved hW.alike hK⟩, hD⟩, fun _ _ => rfl⟩, hS1.F ht⟩) hS1.2.2 dL_open_26
  · obtain ⟨e3, e4⟩ := e1 h0
    rw [e3, e4]
    refine lv_i2l (v := (rr).toInt64) hx hb dL_open_10 rfl ?_
    refine lw_last F hK hP hD hS dL_open_11 (fun H1 locs1 hP hD hS => ?_)
    refine lv_goto (tgt := 27) hx hb dL_open_12 (by decide) ?_
    refine lv_iconst (v := nI 0) hx hb dL_open_27 (by decide) ?_
    refine vx_ret (mc := 6) (ms := 35) (W.widen (k := 6) (n := 35) (Nat.le_of_ble_eq_true rfl) (Nat.le_of_ble_eq_true rfl) ?_)
    exact W.iret (v := nI 0) hx hb hr (fun t ht hW => ⟨⟨nI 0, (ad1, vp_updL g 0 ((rr).toInt64)), rfl, ⟨by rw [h0]; try rfl, fun _ => uL0 g ((rr).toInt64)⟩, ⟨⟨by rw [ht]; exact hP, va_K.moved hW.alike hK⟩, hD⟩, had⟩, hS.F ht⟩) hS.2.2 dL_open_28
set_option maxRecDepth 100000 in
set_option maxHeartbeats 2000000 in
theorem c_L_reach (l : Launch) (sa : Nat → Nat) (D : va_G) (k : Nat → ClassId) (ad : Nat → Nat) (M : Nat → Nat → Nat) (O : Nat → Nat → Int32) (o : Nat) (g : Nat → Int64) (sz : Nat) (p0 p1 : Int32) {M' M1 : Nat → Nat → Nat} {O' O1 : Nat → Nat → Int32} {xq : Nat} {rr : Int32} (hM : vx_Met l yX2_reach wsX2_reach ({ frames := 8, cells := 3, slots := 18, locals := 124 }) (va_Pc [.ref (ad 0), .int p0, .int p1] (zPre D k ad M O sz sa)) (zQop D k ad M M' O' (va_A (zw (20 + 2 * M 0 1) ad (cX k ad M O)) sz) xq rr) (zX (fun E => exC E xq)) 3 18 (va_A (zw (20 + 2 * M 0 1) ad (cX k ad M O)) sz)) (e1 : xq = 0 → M1 = M' ∧ O1 = O') (e2 : xq ≠ 0 → M1 = M ∧ O1 = O) : vx_Met l yL_reach wsL_reach ({ frames := 9, cells := 3, slots := 18, locals := 148 }) (va_Pc [.ref (ad 0), .int p0, .int p1, .ref o] (lwPre D k ad M O o g sz sa)) (lwQ D k ad M M1 O1 o (va_A (lX k o g ad M O) sz) xq (xq) (rr.toInt64)) (zX (fun _ => False)) 3 18 (va_A (lX k o g ad M O) sz) := by
  refine vx_ofWH (cc := cL_reach) (maxL := 5) (ret := (some .int)) (by decide) rfl ?_
  intro p e s m args below meth c s₁ B hml hv
  obtain ⟨rfl, hsz, ⟨hP, hK⟩, hD0, hE, hN⟩ := hv
  have hx := B.exec
  have hb := B.bytes
  have hr := B.returns
  have hts := atoms_spec (ws := wsL_reach) B.pre
  have hown : s.vm.findClass RL = some m.cls := findClass_of_methodNamed B.named
  have hlocks := B.notSynchronized
  have F : CallFix p m c cL_reach 5 s _ wsL_reach RL := ⟨hx, hb, hml, hown, hts⟩
  have htab : c.exceptionTable.toList = tableOf [(0, 10, 13, 13), (0, 10, 17, 15), (0, 10, 21, 20)] := vx_table (x := yL_reach) B (hts _ List.mem_cons_self)
  subst hsz
  have hD := hD0.self (sz := s.heap.size)
  generalize hAe : va_A (lX k o g ad M O) s.heap.size = A at hD hE ⊢
  have hA : ∀ q : Nat, s.heap.size ≤ q → A q := fun q h => by rw [← hAe]; exact Or.inr h
  have hS : va_S A s.heap s.heap [] := va_S.rf
  have hl := lv_entry ([.ref (ad 0), .int p0, .int p1, .ref o]) (n := 5) (Nat.le_of_ble_eq_true rfl)
  rw [lg_entry_eq]
  generalize (lg_sl ([.ref (ad 0), .int p0, .int p1, .ref o]) ++ List.replicate (5 - (lg_sl ([.ref (ad 0), .int p0, .int p1, .ref o])).length) Slot.unset).toArray = ls at hl ⊢
  have hl : lv_has ls 5 [(0, .ref (ad 0)), (1, .int p0), (2, .int p1), (3, .ref o)] := hl
  refine lv_aload_n hx hb dL_reach_0 rfl (lv_at hl 3 rfl) ?_
  refine lv_iconst (v := nI 0) hx hb dL_reach_1 (by decide) ?_
  refine lv_aload_n hx hb dL_reach_2 rfl (lv_at hl 0 rfl) ?_
  refine lv_iload_n hx hb dL_reach_3 rfl (lv_at hl 1 rfl) ?_
  refine lv_iload_n hx hb dL_reach_4 rfl (lv_at hl 2 rfl) ?_
  refine lx_call (wb := [(o, (.inl (k 4, 1, .inr (.inl g)) : va_E))]) (As := [.int p0, .int p1]) (rest := [.int (nI 0), .ref o]) F hM (cwV 2 hts gL_reach_X2_reach rfl rfl rfl (by decide +kernel) ⟨Nat.le_of_ble_eq_true rfl, Nat.le_of_ble_eq_true rfl⟩) hK hP hD hS hA hE rfl hl.1 rfl (Nat.le_of_ble_eq_true rfl) dL_reach_5 ⟨Nat.le_of_ble_eq_true rfl, Nat.le_of_ble_eq_true rfl⟩ (fun E ce q9 H1 locs1 hEx hP1 hS1 hce hcv hcl => ?_) (fun ad1 H1 locs1 h0 had hP hD hS => ?_)
  · rcases hEx with ⟨h1, rfl⟩ | ⟨h1, rfl⟩ | ⟨h1, rfl⟩
    · obtain ⟨e3, e4⟩ := e2 (by omega)
      rw [e3, e4]
      refine vx_catch hown [] ⟨0, 10, 13, 13⟩ [⟨0, 10, 17, 15⟩, ⟨0, 10, 21, 20⟩] (by rw [htab]; rfl) (fun zq hz => absurd hz List.not_mem_nil) (by decide) (by decide) (hts (.classLink RL 13 exI) (by decide +kernel)) (va_Nw.use rfl hE.2.2.1.1) hce hcv hcl ?_
      refine lv_astore (lv' := [(4, .ref q9), (0, .ref (ad 0)), (1, .int p0), (2, .int p1), (3, .ref o)]) hx hb dL_reach_13 hl (by decide) rfl (fun ls hl => ?_)
      refine lv_iconst (v := nI 1) hx hb dL_reach_15 (by decide) ?_
      refine vx_ret (mc := 3) (ms := 18) (W.widen (k := 3) (n := 18) (Nat.le_of_ble_eq_true rfl) (Nat.le_of_ble_eq_true rfl) ?_)
      exact W.iret (v := nI 1) hx hb hr (fun t ht hW => ⟨⟨nI 1, (ad, g), rfl, ⟨by rw [h1]; try rfl, fun zz1 => absurd zz1 (by omega)⟩, ⟨⟨by rw [ht]; exact hP1, va_K.moved hW.alike hK⟩, hD⟩, fun _ _ => rfl⟩, hS1.F ht⟩) hS1.2.2 dL_reach_16
    · obtain ⟨e3, e4⟩ := e2 (by omega)
      rw [e3, e4]
      refine vx_catch hown [⟨0, 10, 13, 13⟩] ⟨0, 10, 17, 15⟩ [⟨0, 10, 21, 20⟩] (by rw [htab]; rfl) (fun zq hz => by rw [List.mem_singleton.mp hz]; exact Or.inr ⟨by decide, exI, hts (.classLink RL 13 exI) (by decide +kernel), hN.1⟩) (by decide) (by decide) (hts (.classLink RL 15 exA) (by decide +kernel)) (va_Nw.use rfl hE.2.2.1.2.1) hce hcv hcl ?_
      refine lv_astore (lv' := [(4, .ref q9), (0, .ref (ad 0)), (1, .int p0), (2, .int p1), (3, .ref o)]) hx hb dL_reach_17 hl (by decide) rfl (fun ls hl => ?_)
      refine lv_iconst (v := nI 2) hx hb dL_reach_19 (by decide) ?_
      refine vx_ret (mc := 3) (ms := 18) (W.widen (k := 3) (n := 18) (Nat.le_of_ble_eq_true rfl) (Nat.le_of_ble_eq_true rfl) ?_)
      exact W.iret (v := nI 2) hx hb hr (fun t ht hW => ⟨⟨nI 2, (ad, g), rfl, ⟨by rw [h1]; try rfl, fun zz1 => absurd zz1 (by omega)⟩, ⟨⟨by rw [ht]; exact hP1, va_K.moved hW.alike hK⟩, hD⟩, fun _ _ => rfl⟩, hS1.F ht⟩) hS1.2.2 dL_reach_20
    · obtain ⟨e3, e4⟩ := e2 (by omega)
      rw [e3, e4]
      have hps : ∀ zq ∈ ([⟨0, 10, 13, 13⟩, ⟨0, 10, 17, 15⟩] : List ExceptionTableEntry), covers zq 5 = false ∨ (zq.catchType ≠ 0 ∧ ∃ nm : String, (Cond.classLink RL zq.catchType nm).before (#[.ref (ad 0), .int p0, .int p1, .ref o] : Array Value) s = true ∧ va_Nc exS nm s) := by
        intro zq hz
        rcases List.mem_cons.mp hz with hz | hz
        · rw [hz]; exact Or.inr ⟨by decide, exI, hts (.classLink RL 13 exI) (by decide +kernel), hN.2.1⟩
        · rw [List.mem_singleton.mp hz]; exact Or.inr ⟨by decide, exA, hts (.classLink RL 15 exA) (by decide +kernel), hN.2.2⟩
      refine vx_catch hown [⟨0, 10, 13, 13⟩, ⟨0, 10, 17, 15⟩] ⟨0, 10, 21, 20⟩ [] (by rw [htab]; rfl) hps (by decide) (by decide) (hts (.classLink RL 20 exS) (by decide +kernel)) (va_Nw.use rfl hE.2.2.1.2.2) hce hcv hcl ?_
      refine lv_astore (lv' := [(4, .ref q9), (0, .ref (ad 0)), (1, .int p0), (2, .int p1), (3, .ref o)]) hx hb dL_reach_21 hl (by decide) rfl (fun ls hl => ?_)
      refine lv_iconst (v := nI 3) hx hb dL_reach_23 (by decide) ?_
      refine vx_ret (mc := 3) (ms := 18) (W.widen (k := 3) (n := 18) (Nat.le_of_ble_eq_true rfl) (Nat.le_of_ble_eq_true rfl) ?_)
      exact W.iret (v := nI 3) hx hb hr (fun t ht hW => ⟨⟨nI 3, (ad, g), rfl, ⟨by rw [h1]; try rfl, fun zz1 => absurd zz1 (by omega)⟩, ⟨⟨by rw [ht]; exact hP1, va_K.moved hW.alike hK⟩, hD⟩, fun _ _ => rfl⟩, hS1.F ht⟩) hS1.2.2 dL_reach_24
  · obtain ⟨e3, e4⟩ := e1 h0
    rw [e3, e4]
    refine lv_i2l (v := (rr).toInt64) hx hb dL_reach_8 rfl ?_
    refine lw_last F hK hP hD hS dL_reach_9 (fun H1 locs1 hP hD hS => ?_)
    refine lv_goto (tgt := 25) hx hb dL_reach_10 (by decide) ?_
    refine lv_iconst (v := nI 0) hx hb dL_reach_25 (by decide) ?_
    refine vx_ret (mc := 3) (ms := 18) (W.widen (k := 3) (n := 18) (Nat.le_of_ble_eq_true rfl) (Nat.le_of_ble_eq_true rfl) ?_)
    exact W.iret (v := nI 0) hx hb hr (fun t ht hW => ⟨⟨nI 0, (ad1, vp_updL g 0 ((rr).toInt64)), rfl, ⟨by rw [h0]; try rfl, fun _ => uL0 g ((rr).toInt64)⟩, ⟨⟨by rw [ht]; exact hP, va_K.moved hW.alike hK⟩, hD⟩, had⟩, hS.F ht⟩) hS.2.2 dL_reach_26
set_option maxRecDepth 100000 in
set_option maxHeartbeats 2000000 in
theorem c_L_rest (l : Launch) (sa : Nat → Nat) (D : va_G) (k : Nat → ClassId) (ad : Nat → Nat) (M : Nat → Nat → Nat) (O : Nat → Nat → Int32) (o : Nat) (g : Nat → Int64) (sz : Nat) (p0 p1 : Int32) {M' M1 : Nat → Nat → Nat} {O' O1 : Nat → Nat → Int32} {xq : Nat} {rr : Int32} (hM : vx_Met l yX2_rest wsX2_rest ({ frames := 7, cells := 2, slots := 12, locals := 104 }) (va_Pc [.ref (ad 0), .int p0, .int p1] (zPre D k ad M O sz sa)) (zQop D k ad M M' O' (va_A (zw (20 + 2 * M 0 1) ad (cX k ad M O)) sz) xq rr) (zX (fun E => exC E xq)) 2 12 (va_A (zw (20 + 2 * M 0 1) ad (cX k ad M O)) sz)) (h92 : xq ≠ 2) (e1 : xq = 0 → M1 = M' ∧ O1 = O') (e2 : xq ≠ 0 → M1 = M ∧ O1 = O) : vx_Met l yL_rest wsL_rest ({ frames := 8, cells := 2, slots := 12, locals := 128 }) (va_Pc [.ref (ad 0), .int p0, .int p1, .ref o] (lwPre D k ad M O o g sz sa)) (lwQ D k ad M M1 O1 o (va_A (lX k o g ad M O) sz) xq (kq xq) (bL rr)) (zX (fun _ => False)) 2 12 (va_A (lX k o g ad M O) sz) := by
  refine vx_ofWH (cc := cL_rest) (maxL := 5) (ret := (some .int)) (by decide) rfl ?_
  intro p e s m args below meth c s₁ B hml hv
  obtain ⟨rfl, hsz, ⟨hP, hK⟩, hD0, hE, hN⟩ := hv
  have hx := B.exec
  have hb := B.bytes
  have hr := B.returns
  have hts := atoms_spec (ws := wsL_rest) B.pre
  have hown : s.vm.findClass RL = some m.cls := findClass_of_methodNamed B.named
  have hlocks := B.notSynchronized
  have F : CallFix p m c cL_rest 5 s _ wsL_rest RL := ⟨hx, hb, hml, hown, hts⟩
  have htab : c.exceptionTable.toList = tableOf [(0, 17, 20, 13), (0, 17, 24, 20)] := vx_table (x := yL_rest) B (hts _ List.mem_cons_self)
  subst hsz
  have hD := hD0.self (sz := s.heap.size)
  generalize hAe : va_A (lX k o g ad M O) s.heap.size = A at hD hE ⊢
  have hA : ∀ q : Nat, s.heap.size ≤ q → A q := fun q h => by rw [← hAe]; exact Or.inr h
  have hS : va_S A s.heap s.heap [] := va_S.rf
  have hl := lv_entry ([.ref (ad 0), .int p0, .int p1, .ref o]) (n := 5) (Nat.le_of_ble_eq_true rfl)
  rw [lg_entry_eq]
  generalize (lg_sl ([.ref (ad 0), .int p0, .int p1, .ref o]) ++ List.replicate (5 - (lg_sl ([.ref (ad 0), .int p0, .int p1, .ref o])).length) Slot.unset).toArray = ls at hl ⊢
  have hl : lv_has ls 5 [(0, .ref (ad 0)), (1, .int p0), (2, .int p1), (3, .ref o)] := hl
  refine lv_aload_n hx hb dL_rest_0 rfl (lv_at hl 3 rfl) ?_
  refine lv_iconst (v := nI 0) hx hb dL_rest_1 (by decide) ?_
  refine lv_aload_n hx hb dL_rest_2 rfl (lv_at hl 0 rfl) ?_
  refine lv_iload_n hx hb dL_rest_3 rfl (lv_at hl 1 rfl) ?_
  refine lv_iload_n hx hb dL_rest_4 rfl (lv_at hl 2 rfl) ?_
  refine lx_call (wb := [(o, (.inl (k 4, 1, .inr (.inl g)) : va_E))]) (As := [.int p0, .int p1]) (rest := [.int (nI 0), .ref o]) F hM (cwV 2 hts gL_rest_X2_rest rfl rfl rfl (by decide +kernel) ⟨Nat.le_of_ble_eq_true rfl, Nat.le_of_ble_eq_true rfl⟩) hK hP hD hS hA hE rfl hl.1 rfl (Nat.le_of_ble_eq_true rfl) dL_rest_5 ⟨Nat.le_of_ble_eq_true rfl, Nat.le_of_ble_eq_true rfl⟩ (fun E ce q9 H1 locs1 hEx hP1 hS1 hce hcv hcl => ?_) (fun ad1 H1 locs1 h0 had hP hD hS => ?_)
  · rcases hEx with ⟨h1, rfl⟩ | ⟨h1, rfl⟩ | ⟨h1, rfl⟩
    · obtain ⟨e3, e4⟩ := e2 (by omega)
      rw [e3, e4]
      refine vx_catch hown [] ⟨0, 17, 20, 13⟩ [⟨0, 17, 24, 20⟩] (by rw [htab]; rfl) (fun zq hz => absurd hz List.not_mem_nil) (by decide) (by decide) (hts (.classLink RL 13 exI) (by decide +kernel)) (va_Nw.use rfl hE.2.2.1.1) hce hcv hcl ?_
      refine lv_astore (lv' := [(4, .ref q9), (0, .ref (ad 0)), (1, .int p0), (2, .int p1), (3, .ref o)]) hx hb dL_rest_20 hl (by decide) rfl (fun ls hl => ?_)
      refine lv_iconst (v := nI 1) hx hb dL_rest_22 (by decide) ?_
      refine vx_ret (mc := 2) (ms := 12) (W.widen (k := 2) (n := 12) (Nat.le_of_ble_eq_true rfl) (Nat.le_of_ble_eq_true rfl) ?_)
      exact W.iret (v := nI 1) hx hb hr (fun t ht hW => ⟨⟨nI 1, (ad, g), rfl, ⟨by rw [h1]; try rfl, fun zz1 => absurd zz1 (by omega)⟩, ⟨⟨by rw [ht]; exact hP1, va_K.moved hW.alike hK⟩, hD⟩, fun _ _ => rfl⟩, hS1.F ht⟩) hS1.2.2 dL_rest_23
    · exact absurd h1 h92
    · obtain ⟨e3, e4⟩ := e2 (by omega)
      rw [e3, e4]
      refine vx_catch hown [⟨0, 17, 20, 13⟩] ⟨0, 17, 24, 20⟩ [] (by rw [htab]; rfl) (fun zq hz => by rw [List.mem_singleton.mp hz]; exact Or.inr ⟨by decide, exI, hts (.classLink RL 13 exI) (by decide +kernel), hN.2.1⟩) (by decide) (by decide) (hts (.classLink RL 20 exS) (by decide +kernel)) (va_Nw.use rfl hE.2.2.1.2.2) hce hcv hcl ?_
      refine lv_astore (lv' := [(4, .ref q9), (0, .ref (ad 0)), (1, .int p0), (2, .int p1), (3, .ref o)]) hx hb dL_rest_24 hl (by decide) rfl (fun ls hl => ?_)
      refine lv_iconst (v := nI 2) hx hb dL_rest_26 (by decide) ?_
      refine vx_ret (mc := 2) (ms := 12) (W.widen (k := 2) (n := 12) (Nat.le_of_ble_eq_true rfl) (Nat.le_of_ble_eq_true rfl) ?_)
      exact W.iret (v := nI 2) hx hb hr (fun t ht hW => ⟨⟨nI 2, (ad, g), rfl, ⟨by rw [h1]; try rfl, fun zz1 => absurd zz1 (by omega)⟩, ⟨⟨by rw [ht]; exact hP1, va_K.moved hW.alike hK⟩, hD⟩, fun _ _ => rfl⟩, hS1.F ht⟩) hS1.2.2 dL_rest_27
  · obtain ⟨e3, e4⟩ := e1 h0
    rw [e3, e4]
    refine lv_if_eq (tgt := 15) hx hb dL_rest_8 (by decide) (fun c2 => ?_) (fun c2 => ?_)
    · refine lv_lconst (v := 0) hx hb dL_rest_15 (by decide) ?_
      refine lw_last F hK hP hD hS dL_rest_16 (fun H1 locs1 hP hD hS => ?_)
      refine lv_goto (tgt := 28) hx hb dL_rest_17 (by decide) ?_
      refine lv_iconst (v := nI 0) hx hb dL_rest_28 (by decide) ?_
      refine vx_ret (mc := 2) (ms := 12) (W.widen (k := 2) (n := 12) (Nat.le_of_ble_eq_true rfl) (Nat.le_of_ble_eq_true rfl) ?_)
      exact W.iret (v := nI 0) hx hb hr (fun t ht hW => ⟨⟨nI 0, (ad1, vp_updL g 0 (0)), rfl, ⟨by rw [h0]; try rfl, fun _ => (uL0 g (0)).trans (if_pos c2).symm⟩, ⟨⟨by rw [ht]; exact hP, va_K.moved hW.alike hK⟩, hD⟩, had⟩, hS.F ht⟩) hS.2.2 dL_rest_29
    · refine lv_lconst (v := 1) hx hb dL_rest_11 (by decide) ?_
      refine lv_goto (tgt := 16) hx hb dL_rest_12 (by decide) ?_
      refine lw_last F hK hP hD hS dL_rest_16 (fun H1 locs1 hP hD hS => ?_)
      refine lv_goto (tgt := 28) hx hb dL_rest_17 (by decide) ?_
      refine lv_iconst (v := nI 0) hx hb dL_rest_28 (by decide) ?_
      refine vx_ret (mc := 2) (ms := 12) (W.widen (k := 2) (n := 12) (Nat.le_of_ble_eq_true rfl) (Nat.le_of_ble_eq_true rfl) ?_)
      exact W.iret (v := nI 0) hx hb hr (fun t ht hW => ⟨⟨nI 0, (ad1, vp_updL g 0 (1)), rfl, ⟨by rw [h0]; try rfl, fun _ => (uL0 g (1)).trans (if_neg c2).symm⟩, ⟨⟨by rw [ht]; exact hP, va_K.moved hW.alike hK⟩, hD⟩, had⟩, hS.F ht⟩) hS.2.2 dL_rest_29
set_option maxRecDepth 100000 in
set_option maxHeartbeats 2000000 in
theorem c_L_setGravity (l : Launch) (sa : Nat → Nat) (D : va_G) (k : Nat → ClassId) (ad : Nat → Nat) (M : Nat → Nat → Nat) (O : Nat → Nat → Int32) (o : Nat) (g : Nat → Int64) (sz : Nat) (p0 p1 : Int32) {M' M1 : Nat → Nat → Nat} {O' O1 : Nat → Nat → Int32} {xq : Nat} {rr : Int32} (hM : vx_Met l yX2_setGravity wsX2_setGravity ({ frames := 8, cells := 3, slots := 18, locals := 124 }) (va_Pc [.ref (ad 0), .int p0, .int p1] (zPre D k ad M O sz sa)) (zQop D k ad M M' O' (va_A (zw (20 + 2 * M 0 1) ad (cX k ad M O)) sz) xq rr) (zX (fun E => exC E xq)) 3 18 (va_A (zw (20 + 2 * M 0 1) ad (cX k ad M O)) sz)) (e1 : xq = 0 → M1 = M' ∧ O1 = O') (e2 : xq ≠ 0 → M1 = M ∧ O1 = O) : vx_Met l yL_setGravity wsL_setGravity ({ frames := 9, cells := 3, slots := 18, locals := 148 }) (va_Pc [.ref (ad 0), .int p0, .int p1, .ref o] (lwPre D k ad M O o g sz sa)) (lwQ D k ad M M1 O1 o (va_A (lX k o g ad M O) sz) xq (xq) (rr.toInt64)) (zX (fun _ => False)) 3 18 (va_A (lX k o g ad M O) sz) := by
  refine vx_ofWH (cc := cL_setGravity) (maxL := 5) (ret := (some .int)) (by decide) rfl ?_
  intro p e s m args below meth c s₁ B hml hv
  obtain ⟨rfl, hsz, ⟨hP, hK⟩, hD0, hE, hN⟩ := hv
  have hx := B.exec
  have hb := B.bytes
  have hr := B.returns
  have hts := atoms_spec (ws := wsL_setGravity) B.pre
  have hown : s.vm.findClass RL = some m.cls := findClass_of_methodNamed B.named
  have hlocks := B.notSynchronized
  have F : CallFix p m c cL_setGravity 5 s _ wsL_setGravity RL := ⟨hx, hb, hml, hown, hts⟩
  have htab : c.exceptionTable.toList = tableOf [(0, 10, 13, 13), (0, 10, 17, 15), (0, 10, 21, 20)] := vx_table (x := yL_setGravity) B (hts _ List.mem_cons_self)
  subst hsz
  have hD := hD0.self (sz := s.heap.size)
  generalize hAe : va_A (lX k o g ad M O) s.heap.size = A at hD hE ⊢
  have hA : ∀ q : Nat, s.heap.size ≤ q → A q := fun q h => by rw [← hAe]; exact Or.inr h
  have hS : va_S A s.heap s.heap [] := va_S.rf
  have hl := lv_entry ([.ref (ad 0), .int p0, .int p1, .ref o]) (n := 5) (Nat.le_of_ble_eq_true rfl)
  rw [lg_entry_eq]
  generalize (lg_sl ([.ref (ad 0), .int p0, .int p1, .ref o]) ++ List.replicate (5 - (lg_sl ([.ref (ad 0), .int p0, .int p1, .ref o])).length) Slot.unset).toArray = ls at hl ⊢
  have hl : lv_has ls 5 [(0, .ref (ad 0)), (1, .int p0), (2, .int p1), (3, .ref o)] := hl
  refine lv_aload_n hx hb dL_setGravity_0 rfl (lv_at hl 3 rfl) ?_
  refine lv_iconst (v := nI 0) hx hb dL_setGravity_1 (by decide) ?_
  refine lv_aload_n hx hb dL_setGravity_2 rfl (lv_at hl 0 rfl) ?_
  refine lv_iload_n hx hb dL_setGravity_3 rfl (lv_at hl 1 rfl) ?_
  refine lv_iload_n hx hb dL_setGravity_4 rfl (lv_at hl 2 rfl) ?_
  refine lx_call (wb := [(o, (.inl (k 4, 1, .inr (.inl g)) : va_E))]) (As := [.int p0, .int p1]) (rest := [.int (nI 0), .ref o]) F hM (cwV 2 hts gL_setGravity_X2_setGravity rfl rfl rfl (by decide +kernel) ⟨Nat.le_of_ble_eq_true rfl, Nat.le_of_ble_eq_true rfl⟩) hK hP hD hS hA hE rfl hl.1 rfl (Nat.le_of_ble_eq_true rfl) dL_setGravity_5 ⟨Nat.le_of_ble_eq_true rfl, Nat.le_of_ble_eq_true rfl⟩ (fun E ce q9 H1 locs1 hEx hP1 hS1 hce hcv hcl => ?_) (fun ad1 H1 locs1 h0 had hP hD hS => ?_)
  · rcases hEx with ⟨h1, rfl⟩ | ⟨h1, rfl⟩ | ⟨h1, rfl⟩
    · obtain ⟨e3, e4⟩ := e2 (by omega)
      rw [e3, e4]
      refine vx_catch hown [] ⟨0, 10, 13, 13⟩ [⟨0, 10, 17, 15⟩, ⟨0, 10, 21, 20⟩] (by rw [htab]; rfl) (fun zq hz => absurd hz List.not_mem_nil) (by decide) (by decide) (hts (.classLink RL 13 exI) (by decide +kernel)) (va_Nw.use rfl hE.2.2.1.1) hce hcv hcl ?_
      refine lv_astore (lv' := [(4, .ref q9), (0, .ref (ad 0)), (1, .int p0), (2, .int p1), (3, .ref o)]) hx hb dL_setGravity_13 hl (by decide) rfl (fun ls hl => ?_)
      refine lv_iconst (v := nI 1) hx hb dL_setGravity_15 (by decide) ?_
      refine vx_ret (mc := 3) (ms := 18) (W.widen (k := 3) (n := 18) (Nat.le_of_ble_eq_true rfl) (Nat.le_of_ble_eq_true rfl) ?_)
      exact W.iret (v := nI 1) hx hb hr (fun t ht hW => ⟨⟨nI 1, (ad, g), rfl, ⟨by rw [h1]; try rfl, fun zz1 => absurd zz1 (by omega)⟩, ⟨⟨by rw [ht]; exact hP1, va_K.moved hW.alike hK⟩, hD⟩, fun _ _ => rfl⟩, hS1.F ht⟩) hS1.2.2 dL_setGravity_16
    · obtain ⟨e3, e4⟩ := e2 (by omega)
      rw [e3, e4]
      refine vx_catch hown [⟨0, 10, 13, 13⟩] ⟨0, 10, 17, 15⟩ [⟨0, 10, 21, 20⟩] (by rw [htab]; rfl) (fun zq hz => by rw [List.mem_singleton.mp hz]; exact Or.inr ⟨by decide, exI, hts (.classLink RL 13 exI) (by decide +kernel), hN.1⟩) (by decide) (by decide) (hts (.classLink RL 15 exA) (by decide +kernel)) (va_Nw.use rfl hE.2.2.1.2.1) hce hcv hcl ?_
      refine lv_astore (lv' := [(4, .ref q9), (0, .ref (ad 0)), (1, .int p0), (2, .int p1), (3, .ref o)]) hx hb dL_setGravity_17 hl (by decide) rfl (fun ls hl => ?_)
      refine lv_iconst (v := nI 2) hx hb dL_setGravity_19 (by decide) ?_
      refine vx_ret (mc := 3) (ms := 18) (W.widen (k := 3) (n := 18) (Nat.le_of_ble_eq_true rfl) (Nat.le_of_ble_eq_true rfl) ?_)
      exact W.iret (v := nI 2) hx hb hr (fun t ht hW => ⟨⟨nI 2, (ad, g), rfl, ⟨by rw [h1]; try rfl, fun zz1 => absurd zz1 (by omega)⟩, ⟨⟨by rw [ht]; exact hP1, va_K.moved hW.alike hK⟩, hD⟩, fun _ _ => rfl⟩, hS1.F ht⟩) hS1.2.2 dL_setGravity_20
    · obtain ⟨e3, e4⟩ := e2 (by omega)
      rw [e3, e4]
      have hps : ∀ zq ∈ ([⟨0, 10, 13, 13⟩, ⟨0, 10, 17, 15⟩] : List ExceptionTableEntry), covers zq 5 = false ∨ (zq.catchType ≠ 0 ∧ ∃ nm : String, (Cond.classLink RL zq.catchType nm).before (#[.ref (ad 0), .int p0, .int p1, .ref o] : Array Value) s = true ∧ va_Nc exS nm s) := by
        intro zq hz
        rcases List.mem_cons.mp hz with hz | hz
        · rw [hz]; exact Or.inr ⟨by decide, exI, hts (.classLink RL 13 exI) (by decide +kernel), hN.2.1⟩
        · rw [List.mem_singleton.mp hz]; exact Or.inr ⟨by decide, exA, hts (.classLink RL 15 exA) (by decide +kernel), hN.2.2⟩
      refine vx_catch hown [⟨0, 10, 13, 13⟩, ⟨0, 10, 17, 15⟩] ⟨0, 10, 21, 20⟩ [] (by rw [htab]; rfl) hps (by decide) (by decide) (hts (.classLink RL 20 exS) (by decide +kernel)) (va_Nw.use rfl hE.2.2.1.2.2) hce hcv hcl ?_
      refine lv_astore (lv' := [(4, .ref q9), (0, .ref (ad 0)), (1, .int p0), (2, .int p1), (3, .ref o)]) hx hb dL_setGravity_21 hl (by decide) rfl (fun ls hl => ?_)
      refine lv_iconst (v := nI 3) hx hb dL_setGravity_23 (by decide) ?_
      refine vx_ret (mc := 3) (ms := 18) (W.widen (k := 3) (n := 18) (Nat.le_of_ble_eq_true rfl) (Nat.le_of_ble_eq_true rfl) ?_)
      exact W.iret (v := nI 3) hx hb hr (fun t ht hW => ⟨⟨nI 3, (ad, g), rfl, ⟨by rw [h1]; try rfl, fun zz1 => absurd zz1 (by omega)⟩, ⟨⟨by rw [ht]; exact hP1, va_K.moved hW.alike hK⟩, hD⟩, fun _ _ => rfl⟩, hS1.F ht⟩) hS1.2.2 dL_setGravity_24
  · obtain ⟨e3, e4⟩ := e1 h0
    rw [e3, e4]
    refine lv_i2l (v := (rr).toInt64) hx hb dL_setGravity_8 rfl ?_
    refine lw_last F hK hP hD hS dL_setGravity_9 (fun H1 locs1 hP hD hS => ?_)
    refine lv_goto (tgt := 25) hx hb dL_setGravity_10 (by decide) ?_
    refine lv_iconst (v := nI 0) hx hb dL_setGravity_25 (by decide) ?_
    refine vx_ret (mc := 3) (ms := 18) (W.widen (k := 3) (n := 18) (Nat.le_of_ble_eq_true rfl) (Nat.le_of_ble_eq_true rfl) ?_)
    exact W.iret (v := nI 0) hx hb hr (fun t ht hW => ⟨⟨nI 0, (ad1, vp_updL g 0 ((rr).toInt64)), rfl, ⟨by rw [h0]; try rfl, fun _ => uL0 g ((rr).toInt64)⟩, ⟨⟨by rw [ht]; exact hP, va_K.moved hW.alike hK⟩, hD⟩, had⟩, hS.F ht⟩) hS.2.2 dL_setGravity_26
set_option maxRecDepth 100000 in
set_option maxHeartbeats 2000000 in
theorem c_L_join (l : Launch) (sa : Nat → Nat) (D : va_G) (k : Nat → ClassId) (ad : Nat → Nat) (M : Nat → Nat → Nat) (O : Nat → Nat → Int32) (o : Nat) (g : Nat → Int64) (sz : Nat) (p0 p1 : Int32) {M' M1 : Nat → Nat → Nat} {O' O1 : Nat → Nat → Int32} {xq : Nat} {rr : Int32} (hM : vx_Met l yX2_join wsX2_join ({ frames := 7, cells := 4, slots := 24, locals := 104 }) (va_Pc [.ref (ad 0), .int p0, .int p1] (zPre D k ad M O sz sa)) (zQop D k ad M M' O' (va_A (zw (20 + 2 * M 0 1) ad (cX k ad M O)) sz) xq rr) (zX (fun E => exC E xq)) 4 24 (va_A (zw (20 + 2 * M 0 1) ad (cX k ad M O)) sz)) (e1 : xq = 0 → M1 = M' ∧ O1 = O') (e2 : xq ≠ 0 → M1 = M ∧ O1 = O) : vx_Met l yL_join wsL_join ({ frames := 8, cells := 4, slots := 24, locals := 128 }) (va_Pc [.ref (ad 0), .int p0, .int p1, .ref o] (lwPre D k ad M O o g sz sa)) (lwQ D k ad M M1 O1 o (va_A (lX k o g ad M O) sz) xq (xq) (rr.toInt64)) (zX (fun _ => False)) 4 24 (va_A (lX k o g ad M O) sz) := by
  refine vx_ofWH (cc := cL_join) (maxL := 5) (ret := (some .int)) (by decide) rfl ?_
  intro p e s m args below meth c s₁ B hml hv
  obtain ⟨rfl, hsz, ⟨hP, hK⟩, hD0, hE, hN⟩ := hv
  have hx := B.exec
  have hb := B.bytes
  have hr := B.returns
  have hts := atoms_spec (ws := wsL_join) B.pre
  have hown : s.vm.findClass RL = some m.cls := findClass_of_methodNamed B.named
  have hlocks := B.notSynchronized
  have F : CallFix p m c cL_join 5 s _ wsL_join RL := ⟨hx, hb, hml, hown, hts⟩
  have htab : c.exceptionTable.toList = tableOf [(0, 10, 13, 13), (0, 10, 17, 15), (0, 10, 21, 20)] := vx_table (x := yL_join) B (hts _ List.mem_cons_self)
  subst hsz
  have hD := hD0.self (sz := s.heap.size)
  generalize hAe : va_A (lX k o g ad M O) s.heap.size = A at hD hE ⊢
  have hA : ∀ q : Nat, s.heap.size ≤ q → A q := fun q h => by rw [← hAe]; exact Or.inr h
  have hS : va_S A s.heap s.heap [] := va_S.rf
  have hl := lv_entry ([.ref (ad 0), .int p0, .int p1, .ref o]) (n := 5) (Nat.le_of_ble_eq_true rfl)
  rw [lg_entry_eq]
  generalize (lg_sl ([.ref (ad 0), .int p0, .int p1, .ref o]) ++ List.replicate (5 - (lg_sl ([.ref (ad 0), .int p0, .int p1, .ref o])).length) Slot.unset).toArray = ls at hl ⊢
  have hl : lv_has ls 5 [(0, .ref (ad 0)), (1, .int p0), (2, .int p1), (3, .ref o)] := hl
  refine lv_aload_n hx hb dL_join_0 rfl (lv_at hl 3 rfl) ?_
  refine lv_iconst (v := nI 0) hx hb dL_join_1 (by decide) ?_
  refine lv_aload_n hx hb dL_join_2 rfl (lv_at hl 0 rfl) ?_
  refine lv_iload_n hx hb dL_join_3 rfl (lv_at hl 1 rfl) ?_
  refine lv_iload_n hx hb dL_join_4 rfl (lv_at hl 2 rfl) ?_
  refine lx_call (wb := [(o, (.inl (k 4, 1, .inr (.inl g)) : va_E))]) (As := [.int p0, .int p1]) (rest := [.int (nI 0), .ref o]) F hM (cwV 2 hts gL_join_X2_join rfl rfl rfl (by decide +kernel) ⟨Nat.le_of_ble_eq_true rfl, Nat.le_of_ble_eq_true rfl⟩) hK hP hD hS hA hE rfl hl.1 rfl (Nat.le_of_ble_eq_true rfl) dL_join_5 ⟨Nat.le_of_ble_eq_true rfl, Nat.le_of_ble_eq_true rfl⟩ (fun E ce q9 H1 locs1 hEx hP1 hS1 hce hcv hcl => ?_) (fun ad1 H1 locs1 h0 had hP hD hS => ?_)
  · rcases hEx with ⟨h1, rfl⟩ | ⟨h1, rfl⟩ | ⟨h1, rfl⟩
    · obtain ⟨e3, e4⟩ := e2 (by omega)
      rw [e3, e4]
      refine vx_catch hown [] ⟨0, 10, 13, 13⟩ [⟨0, 10, 17, 15⟩, ⟨0, 10, 21, 20⟩] (by rw [htab]; rfl) (fun zq hz => absurd hz List.not_mem_nil) (by decide) (by decide) (hts (.classLink RL 13 exI) (by decide +kernel)) (va_Nw.use rfl hE.2.2.1.1) hce hcv hcl ?_
      refine lv_astore (lv' := [(4, .ref q9), (0, .ref (ad 0)), (1, .int p0), (2, .int p1), (3, .ref o)]) hx hb dL_join_13 hl (by decide) rfl (fun ls hl => ?_)
      refine lv_iconst (v := nI 1) hx hb dL_join_15 (by decide) ?_
      refine vx_ret (mc := 4) (ms := 24) (W.widen (k := 4) (n := 24) (Nat.le_of_ble_eq_true rfl) (Nat.le_of_ble_eq_true rfl) ?_)
      exact W.iret (v := nI 1) hx hb hr (fun t ht hW => ⟨⟨nI 1, (ad, g), rfl, ⟨by rw [h1]; try rfl, fun zz1 => absurd zz1 (by omega)⟩, ⟨⟨by rw [ht]; exact hP1, va_K.moved hW.alike hK⟩, hD⟩, fun _ _ => rfl⟩, hS1.F ht⟩) hS1.2.2 dL_join_16
    · obtain ⟨e3, e4⟩ := e2 (by omega)
      rw [e3, e4]
      refine vx_catch hown [⟨0, 10, 13, 13⟩] ⟨0, 10, 17, 15⟩ [⟨0, 10, 21, 20⟩] (by rw [htab]; rfl) (fun zq hz => by rw [List.mem_singleton.mp hz]; exact Or.inr ⟨by decide, exI, hts (.classLink RL 13 exI) (by decide +kernel), hN.1⟩) (by decide) (by decide) (hts (.classLink RL 15 exA) (by decide +kernel)) (va_Nw.use rfl hE.2.2.1.2.1) hce hcv hcl ?_
      refine lv_astore (lv' := [(4, .ref q9), (0, .ref (ad 0)), (1, .int p0), (2, .int p1), (3, .ref o)]) hx hb dL_join_17 hl (by decide) rfl (fun ls hl => ?_)
      refine lv_iconst (v := nI 2) hx hb dL_join_19 (by decide) ?_
      refine vx_ret (mc := 4) (ms := 24) (W.widen (k := 4) (n := 24) (Nat.le_of_ble_eq_true rfl) (Nat.le_of_ble_eq_true rfl) ?_)
      exact W.iret (v := nI 2) hx hb hr (fun t ht hW => ⟨⟨nI 2, (ad, g), rfl, ⟨by rw [h1]; try rfl, fun zz1 => absurd zz1 (by omega)⟩, ⟨⟨by rw [ht]; exact hP1, va_K.moved hW.alike hK⟩, hD⟩, fun _ _ => rfl⟩, hS1.F ht⟩) hS1.2.2 dL_join_20
    · obtain ⟨e3, e4⟩ := e2 (by omega)
      rw [e3, e4]
      have hps : ∀ zq ∈ ([⟨0, 10, 13, 13⟩, ⟨0, 10, 17, 15⟩] : List ExceptionTableEntry), covers zq 5 = false ∨ (zq.catchType ≠ 0 ∧ ∃ nm : String, (Cond.classLink RL zq.catchType nm).before (#[.ref (ad 0), .int p0, .int p1, .ref o] : Array Value) s = true ∧ va_Nc exS nm s) := by
        intro zq hz
        rcases List.mem_cons.mp hz with hz | hz
        · rw [hz]; exact Or.inr ⟨by decide, exI, hts (.classLink RL 13 exI) (by decide +kernel), hN.2.1⟩
        · rw [List.mem_singleton.mp hz]; exact Or.inr ⟨by decide, exA, hts (.classLink RL 15 exA) (by decide +kernel), hN.2.2⟩
      refine vx_catch hown [⟨0, 10, 13, 13⟩, ⟨0, 10, 17, 15⟩] ⟨0, 10, 21, 20⟩ [] (by rw [htab]; rfl) hps (by decide) (by decide) (hts (.classLink RL 20 exS) (by decide +kernel)) (va_Nw.use rfl hE.2.2.1.2.2) hce hcv hcl ?_
      refine lv_astore (lv' := [(4, .ref q9), (0, .ref (ad 0)), (1, .int p0), (2, .int p1), (3, .ref o)]) hx hb dL_join_21 hl (by decide) rfl (fun ls hl => ?_)
      refine lv_iconst (v := nI 3) hx hb dL_join_23 (by decide) ?_
      refine vx_ret (mc := 4) (ms := 24) (W.widen (k := 4) (n := 24) (Nat.le_of_ble_eq_true rfl) (Nat.le_of_ble_eq_true rfl) ?_)
      exact W.iret (v := nI 3) hx hb hr (fun t ht hW => ⟨⟨nI 3, (ad, g), rfl, ⟨by rw [h1]; try rfl, fun zz1 => absurd zz1 (by omega)⟩, ⟨⟨by rw [ht]; exact hP1, va_K.moved hW.alike hK⟩, hD⟩, fun _ _ => rfl⟩, hS1.F ht⟩) hS1.2.2 dL_join_24
  · obtain ⟨e3, e4⟩ := e1 h0
    rw [e3, e4]
    refine lv_i2l (v := (rr).toInt64) hx hb dL_join_8 rfl ?_
    refine lw_last F hK hP hD hS dL_join_9 (fun H1 locs1 hP hD hS => ?_)
    refine lv_goto (tgt := 25) hx hb dL_join_10 (by decide) ?_
    refine lv_iconst (v := nI 0) hx hb dL_join_25 (by decide) ?_
    refine vx_ret (mc := 4) (ms := 24) (W.widen (k := 4) (n := 24) (Nat.le_of_ble_eq_true rfl) (Nat.le_of_ble_eq_true rfl) ?_)
    exact W.iret (v := nI 0) hx hb hr (fun t ht hW => ⟨⟨nI 0, (ad1, vp_updL g 0 ((rr).toInt64)), rfl, ⟨by rw [h0]; try rfl, fun _ => uL0 g ((rr).toInt64)⟩, ⟨⟨by rw [ht]; exact hP, va_K.moved hW.alike hK⟩, hD⟩, had⟩, hS.F ht⟩) hS.2.2 dL_join_26
set_option maxRecDepth 100000 in
set_option maxHeartbeats 2000000 in
theorem c_L_openAnew (l : Launch) (sa : Nat → Nat) (D : va_G) (k : Nat → ClassId) (ad : Nat → Nat) (M : Nat → Nat → Nat) (O : Nat → Nat → Int32) (o : Nat) (g : Nat → Int64) (sz : Nat) (p0 : Int32) {M' M1 : Nat → Nat → Nat} {O' O1 : Nat → Nat → Int32} {xq : Nat} {rr : Int32} (hM : vx_Met l yX2_openAnew wsX2_openAnew ({ frames := 7, cells := 2, slots := 12, locals := 104 }) (va_Pc [.ref (ad 0), .int p0] (zPre D k ad M O sz sa)) (zQop D k ad M M' O' (va_A (zw (20 + 2 * M 0 1) ad (cX k ad M O)) sz) xq rr) (zX (fun E => exC E xq)) 2 12 (va_A (zw (20 + 2 * M 0 1) ad (cX k ad M O)) sz)) (h92 : xq ≠ 2) (e1 : xq = 0 → M1 = M' ∧ O1 = O') (e2 : xq ≠ 0 → M1 = M ∧ O1 = O) : vx_Met l yL_openAnew wsL_openAnew ({ frames := 8, cells := 2, slots := 12, locals := 126 }) (va_Pc [.ref (ad 0), .int p0, .ref o] (lwPre D k ad M O o g sz sa)) (lwQ D k ad M M1 O1 o (va_A (lX k o g ad M O) sz) xq (kq xq) (rr.toInt64)) (zX (fun _ => False)) 2 12 (va_A (lX k o g ad M O) sz) := by
  refine vx_ofWH (cc := cL_openAnew) (maxL := 4) (ret := (some .int)) (by decide) rfl ?_
  intro p e s m args below meth c s₁ B hml hv
  obtain ⟨rfl, hsz, ⟨hP, hK⟩, hD0, hE, hN⟩ := hv
  have hx := B.exec
  have hb := B.bytes
  have hr := B.returns
  have hts := atoms_spec (ws := wsL_openAnew) B.pre
  have hown : s.vm.findClass RL = some m.cls := findClass_of_methodNamed B.named
  have hlocks := B.notSynchronized
  have F : CallFix p m c cL_openAnew 4 s _ wsL_openAnew RL := ⟨hx, hb, hml, hown, hts⟩
  have htab : c.exceptionTable.toList = tableOf [(0, 9, 12, 13), (0, 9, 15, 20)] := vx_table (x := yL_openAnew) B (hts _ List.mem_cons_self)
  subst hsz
  have hD := hD0.self (sz := s.heap.size)
  generalize hAe : va_A (lX k o g ad M O) s.heap.size = A at hD hE ⊢
  have hA : ∀ q : Nat, s.heap.size ≤ q → A q := fun q h => by rw [← hAe]; exact Or.inr h
  have hS : va_S A s.heap s.heap [] := va_S.rf
  have hl := lv_entry ([.ref (ad 0), .int p0, .ref o]) (n := 4) (Nat.le_of_ble_eq_true rfl)
  rw [lg_entry_eq]
  generalize (lg_sl ([.ref (ad 0), .int p0, .ref o]) ++ List.replicate (4 - (lg_sl ([.ref (ad 0), .int p0, .ref o])).length) Slot.unset).toArray = ls at hl ⊢
  have hl : lv_has ls 4 [(0, .ref (ad 0)), (1, .int p0), (2, .ref o)] := hl
  refine lv_aload_n hx hb dL_openAnew_0 rfl (lv_at hl 2 rfl) ?_
  refine lv_iconst (v := nI 0) hx hb dL_openAnew_1 (by decide) ?_
  refine lv_aload_n hx hb dL_openAnew_2 rfl (lv_at hl 0 rfl) ?_
  refine lv_iload_n hx hb dL_openAnew_3 rfl (lv_at hl 1 rfl) ?_
  refine lx_call (wb := [(o, (.inl (k 4, 1, .inr (.inl g)) : va_E))]) (As := [.int p0]) (rest := [.int (nI 0), .ref o]) F hM (cwV 1 hts gL_openAnew_X2_openAnew rfl rfl rfl (by decide +kernel) ⟨Nat.le_of_ble_eq_true rfl, Nat.le_of_ble_eq_true rfl⟩) hK hP hD hS hA hE rfl hl.1 rfl (Nat.le_of_ble_eq_true rfl) dL_openAnew_4 ⟨Nat.le_of_ble_eq_true rfl, Nat.le_of_ble_eq_true rfl⟩ (fun E ce q9 H1 locs1 hEx hP1 hS1 hce hcv hcl => ?_) (fun ad1 H1 locs1 h0 had hP hD hS => ?_)
  · rcases hEx with ⟨h1, rfl⟩ | ⟨h1, rfl⟩ | ⟨h1, rfl⟩
    · obtain ⟨e3, e4⟩ := e2 (by omega)
      rw [e3, e4]
      refine vx_catch hown [] ⟨0, 9, 12, 13⟩ [⟨0, 9, 15, 20⟩] (by rw [htab]; rfl) (fun zq hz => absurd hz List.not_mem_nil) (by decide) (by decide) (hts (.classLink RL 13 exI) (by decide +kernel)) (va_Nw.use rfl hE.2.2.1.1) hce hcv hcl ?_
      refine lv_astore_n (lv' := [(3, .ref q9), (0, .ref (ad 0)), (1, .int p0), (2, .ref o)]) hx hb dL_openAnew_12 rfl hl (by decide) rfl (fun ls hl => ?_)
      refine lv_iconst (v := nI 1) hx hb dL_openAnew_13 (by decide) ?_
      refine vx_ret (mc := 2) (ms := 12) (W.widen (k := 2) (n := 12) (Nat.le_of_ble_eq_true rfl) (Nat.le_of_ble_eq_true rfl) ?_)
      exact W.iret (v := nI 1) hx hb hr (fun t ht hW => ⟨⟨nI 1, (ad, g), rfl, ⟨by rw [h1]; try rfl, fun zz1 => absurd zz1 (by omega)⟩, ⟨⟨by rw [ht]; exact hP1, va_K.moved hW.alike hK⟩, hD⟩, fun _ _ => rfl⟩, hS1.F ht⟩) hS1.2.2 dL_openAnew_14
    · exact absurd h1 h92
    · obtain ⟨e3, e4⟩ := e2 (by omega)
      rw [e3, e4]
      refine vx_catch hown [⟨0, 9, 12, 13⟩] ⟨0, 9, 15, 20⟩ [] (by rw [htab]; rfl) (fun zq hz => by rw [List.mem_singleton.mp hz]; exact Or.inr ⟨by decide, exI, hts (.classLink RL 13 exI) (by decide +kernel), hN.2.1⟩) (by decide) (by decide) (hts (.classLink RL 20 exS) (by decide +kernel)) (va_Nw.use rfl hE.2.2.1.2.2) hce hcv hcl ?_
      refine lv_astore_n (lv' := [(3, .ref q9), (0, .ref (ad 0)), (1, .int p0), (2, .ref o)]) hx hb dL_openAnew_15 rfl hl (by decide) rfl (fun ls hl => ?_)
      refine lv_iconst (v := nI 2) hx hb dL_openAnew_16 (by decide) ?_
      refine vx_ret (mc := 2) (ms := 12) (W.widen (k := 2) (n := 12) (Nat.le_of_ble_eq_true rfl) (Nat.le_of_ble_eq_true rfl) ?_)
      exact W.iret (v := nI 2) hx hb hr (fun t ht hW => ⟨⟨nI 2, (ad, g), rfl, ⟨by rw [h1]; try rfl, fun zz1 => absurd zz1 (by omega)⟩, ⟨⟨by rw [ht]; exact hP1, va_K.moved hW.alike hK⟩, hD⟩, fun _ _ => rfl⟩, hS1.F ht⟩) hS1.2.2 dL_openAnew_17
  · obtain ⟨e3, e4⟩ := e1 h0
    rw [e3, e4]
    refine lv_i2l (v := (rr).toInt64) hx hb dL_openAnew_7 rfl ?_
    refine lw_last F hK hP hD hS dL_openAnew_8 (fun H1 locs1 hP hD hS => ?_)
    refine lv_goto (tgt := 18) hx hb dL_openAnew_9 (by decide) ?_
    refine lv_iconst (v := nI 0) hx hb dL_openAnew_18 (by decide) ?_
    refine vx_ret (mc := 2) (ms := 12) (W.widen (k := 2) (n := 12) (Nat.le_of_ble_eq_true rfl) (Nat.le_of_ble_eq_true rfl) ?_)
    exact W.iret (v := nI 0) hx hb hr (fun t ht hW => ⟨⟨nI 0, (ad1, vp_updL g 0 ((rr).toInt64)), rfl, ⟨by rw [h0]; try rfl, fun _ => uL0 g ((rr).toInt64)⟩, ⟨⟨by rw [ht]; exact hP, va_K.moved hW.alike hK⟩, hD⟩, had⟩, hS.F ht⟩) hS.2.2 dL_openAnew_19
set_option maxRecDepth 100000 in
set_option maxHeartbeats 2000000 in
theorem c_L_stateOf (l : Launch) (sa : Nat → Nat) (D : va_G) (k : Nat → ClassId) (ad : Nat → Nat) (M : Nat → Nat → Nat) (O : Nat → Nat → Int32) (o : Nat) (g : Nat → Int64) (sz : Nat) (p0 : Int32) {M' M1 : Nat → Nat → Nat} {O' O1 : Nat → Nat → Int32} {xq : Nat} {rr : Int32} (hM : vx_Met l yX2_stateOf wsX2_stateOf ({ frames := 7, cells := 1, slots := 6, locals := 104 }) (va_Pc [.ref (ad 0), .int p0] (zPre D k ad M O sz sa)) (zQop D k ad M M' O' (va_A (zw (20 + 2 * M 0 1) ad (cX k ad M O)) sz) xq rr) (zX (fun E => exC E xq)) 1 6 (va_A (zw (20 + 2 * M 0 1) ad (cX k ad M O)) sz)) (h92 : xq ≠ 2) (h93 : xq ≠ 3) (e1 : xq = 0 → M1 = M' ∧ O1 = O') (e2 : xq ≠ 0 → M1 = M ∧ O1 = O) : vx_Met l yL_stateOf wsL_stateOf ({ frames := 8, cells := 1, slots := 6, locals := 125 }) (va_Pc [.ref (ad 0), .int p0, .ref o] (lwPre D k ad M O o g sz sa)) (lwQ D k ad M M1 O1 o (va_A (lX k o g ad M O) sz) xq (xq) (rr.toInt64)) (zX (fun _ => False)) 1 6 (va_A (lX k o g ad M O) sz) := by
  refine vx_ofWH (cc := cL_stateOf) (maxL := 4) (ret := (some .int)) (by decide) rfl ?_
  intro p e s m args below meth c s₁ B hml hv
  obtain ⟨rfl, hsz, ⟨hP, hK⟩, hD0, hE, hN⟩ := hv
  have hx := B.exec
  have hb := B.bytes
  have hr := B.returns
  have hts := atoms_spec (ws := wsL_stateOf) B.pre
  have hown : s.vm.findClass RL = some m.cls := findClass_of_methodNamed B.named
  have hlocks := B.notSynchronized
  have F : CallFix p m c cL_stateOf 4 s _ wsL_stateOf RL := ⟨hx, hb, hml, hown, hts⟩
  have htab : c.exceptionTable.toList = tableOf [(0, 9, 12, 13)] := vx_table (x := yL_stateOf) B (hts _ List.mem_cons_self)
  subst hsz
  have hD := hD0.self (sz := s.heap.size)
  generalize hAe : va_A (lX k o g ad M O) s.heap.size = A at hD hE ⊢
  have hA : ∀ q : Nat, s.heap.size ≤ q → A q := fun q h => by rw [← hAe]; exact Or.inr h
  have hS : va_S A s.heap s.heap [] := va_S.rf
  have hl := lv_entry ([.ref (ad 0), .int p0, .ref o]) (n := 4) (Nat.le_of_ble_eq_true rfl)
  rw [lg_entry_eq]
  generalize (lg_sl ([.ref (ad 0), .int p0, .ref o]) ++ List.replicate (4 - (lg_sl ([.ref (ad 0), .int p0, .ref o])).length) Slot.unset).toArray = ls at hl ⊢
  have hl : lv_has ls 4 [(0, .ref (ad 0)), (1, .int p0), (2, .ref o)] := hl
  refine lv_aload_n hx hb dL_stateOf_0 rfl (lv_at hl 2 rfl) ?_
  refine lv_iconst (v := nI 0) hx hb dL_stateOf_1 (by decide) ?_
  refine lv_aload_n hx hb dL_stateOf_2 rfl (lv_at hl 0 rfl) ?_
  refine lv_iload_n hx hb dL_stateOf_3 rfl (lv_at hl 1 rfl) ?_
  refine lx_call (wb := [(o, (.inl (k 4, 1, .inr (.inl g)) : va_E))]) (As := [.int p0]) (rest := [.int (nI 0), .ref o]) F hM (cwV 1 hts gL_stateOf_X2_stateOf rfl rfl rfl (by decide +kernel) ⟨Nat.le_of_ble_eq_true rfl, Nat.le_of_ble_eq_true rfl⟩) hK hP hD hS hA hE rfl hl.1 rfl (Nat.le_of_ble_eq_true rfl) dL_stateOf_4 ⟨Nat.le_of_ble_eq_true rfl, Nat.le_of_ble_eq_true rfl⟩ (fun E ce q9 H1 locs1 hEx hP1 hS1 hce hcv hcl => ?_) (fun ad1 H1 locs1 h0 had hP hD hS => ?_)
  · rcases hEx with ⟨h1, rfl⟩ | ⟨h1, rfl⟩ | ⟨h1, rfl⟩
    · obtain ⟨e3, e4⟩ := e2 (by omega)
      rw [e3, e4]
      refine vx_catch hown [] ⟨0, 9, 12, 13⟩ [] (by rw [htab]; rfl) (fun zq hz => absurd hz List.not_mem_nil) (by decide) (by decide) (hts (.classLink RL 13 exI) (by decide +kernel)) (va_Nw.use rfl hE.2.2.1.1) hce hcv hcl ?_
      refine lv_astore_n (lv' := [(3, .ref q9), (0, .ref (ad 0)), (1, .int p0), (2, .ref o)]) hx hb dL_stateOf_12 rfl hl (by decide) rfl (fun ls hl => ?_)
      refine lv_iconst (v := nI 1) hx hb dL_stateOf_13 (by decide) ?_
      refine vx_ret (mc := 1) (ms := 6) (W.widen (k := 1) (n := 6) (Nat.le_of_ble_eq_true rfl) (Nat.le_of_ble_eq_true rfl) ?_)
      exact W.iret (v := nI 1) hx hb hr (fun t ht hW => ⟨⟨nI 1, (ad, g), rfl, ⟨by rw [h1]; try rfl, fun zz1 => absurd zz1 (by omega)⟩, ⟨⟨by rw [ht]; exact hP1, va_K.moved hW.alike hK⟩, hD⟩, fun _ _ => rfl⟩, hS1.F ht⟩) hS1.2.2 dL_stateOf_14
    · exact absurd h1 h92
    · exact absurd h1 h93
  · obtain ⟨e3, e4⟩ := e1 h0
    rw [e3, e4]
    refine lv_i2l (v := (rr).toInt64) hx hb dL_stateOf_7 rfl ?_
    refine lw_last F hK hP hD hS dL_stateOf_8 (fun H1 locs1 hP hD hS => ?_)
    refine lv_goto (tgt := 15) hx hb dL_stateOf_9 (by decide) ?_
    refine lv_iconst (v := nI 0) hx hb dL_stateOf_15 (by decide) ?_
    refine vx_ret (mc := 1) (ms := 6) (W.widen (k := 1) (n := 6) (Nat.le_of_ble_eq_true rfl) (Nat.le_of_ble_eq_true rfl) ?_)
    exact W.iret (v := nI 0) hx hb hr (fun t ht hW => ⟨⟨nI 0, (ad1, vp_updL g 0 ((rr).toInt64)), rfl, ⟨by rw [h0]; try rfl, fun _ => uL0 g ((rr).toInt64)⟩, ⟨⟨by rw [ht]; exact hP, va_K.moved hW.alike hK⟩, hD⟩, had⟩, hS.F ht⟩) hS.2.2 dL_stateOf_16
set_option maxRecDepth 100000 in
set_option maxHeartbeats 2000000 in
theorem c_L_clock (l : Launch) (sa : Nat → Nat) (D : va_G) (k : Nat → ClassId) (ad : Nat → Nat) (M : Nat → Nat → Nat) (O : Nat → Nat → Int32) (o : Nat) (g : Nat → Int64) (sz : Nat) (p0 p1 : Int32) {M' M1 : Nat → Nat → Nat} {O' O1 : Nat → Nat → Int32} {xq : Nat} {rr : Int32} (hM : vx_Met l yX2_clock wsX2_clock ({ frames := 8, cells := 2, slots := 12, locals := 124 }) (va_Pc [.ref (ad 0), .int p0, .int p1] (zPre D k ad M O sz sa)) (zQop D k ad M M' O' (va_A (zw (20 + 2 * M 0 1) ad (cX k ad M O)) sz) xq rr) (zX (fun E => exC E xq)) 2 12 (va_A (zw (20 + 2 * M 0 1) ad (cX k ad M O)) sz)) (h93 : xq ≠ 3) (e1 : xq = 0 → M1 = M' ∧ O1 = O') (e2 : xq ≠ 0 → M1 = M ∧ O1 = O) : vx_Met l yL_clock wsL_clock ({ frames := 9, cells := 2, slots := 12, locals := 147 }) (va_Pc [.ref (ad 0), .int p0, .int p1, .ref o] (lwPre D k ad M O o g sz sa)) (lwQ D k ad M M1 O1 o (va_A (lX k o g ad M O) sz) xq (xq) (rr.toInt64)) (zX (fun _ => False)) 2 12 (va_A (lX k o g ad M O) sz) := by
  refine vx_ofWH (cc := cL_clock) (maxL := 5) (ret := (some .int)) (by decide) rfl ?_
  intro p e s m args below meth c s₁ B hml hv
  obtain ⟨rfl, hsz, ⟨hP, hK⟩, hD0, hE, hN⟩ := hv
  have hx := B.exec
  have hb := B.bytes
  have hr := B.returns
  have hts := atoms_spec (ws := wsL_clock) B.pre
  have hown : s.vm.findClass RL = some m.cls := findClass_of_methodNamed B.named
  have hlocks := B.notSynchronized
  have F : CallFix p m c cL_clock 5 s _ wsL_clock RL := ⟨hx, hb, hml, hown, hts⟩
  have htab : c.exceptionTable.toList = tableOf [(0, 10, 13, 13), (0, 10, 17, 15)] := vx_table (x := yL_clock) B (hts _ List.mem_cons_self)
  subst hsz
  have hD := hD0.self (sz := s.heap.size)
  generalize hAe : va_A (lX k o g ad M O) s.heap.size = A at hD hE ⊢
  have hA : ∀ q : Nat, s.heap.size ≤ q → A q := fun q h => by rw [← hAe]; exact Or.inr h
  have hS : va_S A s.heap s.heap [] := va_S.rf
  have hl := lv_entry ([.ref (ad 0), .int p0, .int p1, .ref o]) (n := 5) (Nat.le_of_ble_eq_true rfl)
  rw [lg_entry_eq]
  generalize (lg_sl ([.ref (ad 0), .int p0, .int p1, .ref o]) ++ List.replicate (5 - (lg_sl ([.ref (ad 0), .int p0, .int p1, .ref o])).length) Slot.unset).toArray = ls at hl ⊢
  have hl : lv_has ls 5 [(0, .ref (ad 0)), (1, .int p0), (2, .int p1), (3, .ref o)] := hl
  refine lv_aload_n hx hb dL_clock_0 rfl (lv_at hl 3 rfl) ?_
  refine lv_iconst (v := nI 0) hx hb dL_clock_1 (by decide) ?_
  refine lv_aload_n hx hb dL_clock_2 rfl (lv_at hl 0 rfl) ?_
  refine lv_iload_n hx hb dL_clock_3 rfl (lv_at hl 1 rfl) ?_
  refine lv_iload_n hx hb dL_clock_4 rfl (lv_at hl 2 rfl) ?_
  refine lx_call (wb := [(o, (.inl (k 4, 1, .inr (.inl g)) : va_E))]) (As := [.int p0, .int p1]) (rest := [.int (nI 0), .ref o]) F hM (cwV 2 hts gL_clock_X2_clock rfl rfl rfl (by decide +kernel) ⟨Nat.le_of_ble_eq_true rfl, Nat.le_of_ble_eq_true rfl⟩) hK hP hD hS hA hE rfl hl.1 rfl (Nat.le_of_ble_eq_true rfl) dL_clock_5 ⟨Nat.le_of_ble_eq_true rfl, Nat.le_of_ble_eq_true rfl⟩ (fun E ce q9 H1 locs1 hEx hP1 hS1 hce hcv hcl => ?_) (fun ad1 H1 locs1 h0 had hP hD hS => ?_)
  · rcases hEx with ⟨h1, rfl⟩ | ⟨h1, rfl⟩ | ⟨h1, rfl⟩
    · obtain ⟨e3, e4⟩ := e2 (by omega)
      rw [e3, e4]
      refine vx_catch hown [] ⟨0, 10, 13, 13⟩ [⟨0, 10, 17, 15⟩] (by rw [htab]; rfl) (fun zq hz => absurd hz List.not_mem_nil) (by decide) (by decide) (hts (.classLink RL 13 exI) (by decide +kernel)) (va_Nw.use rfl hE.2.2.1.1) hce hcv hcl ?_
      refine lv_astore (lv' := [(4, .ref q9), (0, .ref (ad 0)), (1, .int p0), (2, .int p1), (3, .ref o)]) hx hb dL_clock_13 hl (by decide) rfl (fun ls hl => ?_)
      refine lv_iconst (v := nI 1) hx hb dL_clock_15 (by decide) ?_
      refine vx_ret (mc := 2) (ms := 12) (W.widen (k := 2) (n := 12) (Nat.le_of_ble_eq_true rfl) (Nat.le_of_ble_eq_true rfl) ?_)
      exact W.iret (v := nI 1) hx hb hr (fun t ht hW => ⟨⟨nI 1, (ad, g), rfl, ⟨by rw [h1]; try rfl, fun zz1 => absurd zz1 (by omega)⟩, ⟨⟨by rw [ht]; exact hP1, va_K.moved hW.alike hK⟩, hD⟩, fun _ _ => rfl⟩, hS1.F ht⟩) hS1.2.2 dL_clock_16
    · obtain ⟨e3, e4⟩ := e2 (by omega)
      rw [e3, e4]
      refine vx_catch hown [⟨0, 10, 13, 13⟩] ⟨0, 10, 17, 15⟩ [] (by rw [htab]; rfl) (fun zq hz => by rw [List.mem_singleton.mp hz]; exact Or.inr ⟨by decide, exI, hts (.classLink RL 13 exI) (by decide +kernel), hN.1⟩) (by decide) (by decide) (hts (.classLink RL 15 exA) (by decide +kernel)) (va_Nw.use rfl hE.2.2.1.2.1) hce hcv hcl ?_
      refine lv_astore (lv' := [(4, .ref q9), (0, .ref (ad 0)), (1, .int p0), (2, .int p1), (3, .ref o)]) hx hb dL_clock_17 hl (by decide) rfl (fun ls hl => ?_)
      refine lv_iconst (v := nI 2) hx hb dL_clock_19 (by decide) ?_
      refine vx_ret (mc := 2) (ms := 12) (W.widen (k := 2) (n := 12) (Nat.le_of_ble_eq_true rfl) (Nat.le_of_ble_eq_true rfl) ?_)
      exact W.iret (v := nI 2) hx hb hr (fun t ht hW => ⟨⟨nI 2, (ad, g), rfl, ⟨by rw [h1]; try rfl, fun zz1 => absurd zz1 (by omega)⟩, ⟨⟨by rw [ht]; exact hP1, va_K.moved hW.alike hK⟩, hD⟩, fun _ _ => rfl⟩, hS1.F ht⟩) hS1.2.2 dL_clock_20
    · exact absurd h1 h93
  · obtain ⟨e3, e4⟩ := e1 h0
    rw [e3, e4]
    refine lv_i2l (v := (rr).toInt64) hx hb dL_clock_8 rfl ?_
    refine lw_last F hK hP hD hS dL_clock_9 (fun H1 locs1 hP hD hS => ?_)
    refine lv_goto (tgt := 21) hx hb dL_clock_10 (by decide) ?_
    refine lv_iconst (v := nI 0) hx hb dL_clock_21 (by decide) ?_
    refine vx_ret (mc := 2) (ms := 12) (W.widen (k := 2) (n := 12) (Nat.le_of_ble_eq_true rfl) (Nat.le_of_ble_eq_true rfl) ?_)
    exact W.iret (v := nI 0) hx hb hr (fun t ht hW => ⟨⟨nI 0, (ad1, vp_updL g 0 ((rr).toInt64)), rfl, ⟨by rw [h0]; try rfl, fun _ => uL0 g ((rr).toInt64)⟩, ⟨⟨by rw [ht]; exact hP, va_K.moved hW.alike hK⟩, hD⟩, had⟩, hS.F ht⟩) hS.2.2 dL_clock_22
set_option maxRecDepth 100000 in
set_option maxHeartbeats 2000000 in
theorem c_L_isMissed (l : Launch) (sa : Nat → Nat) (D : va_G) (k : Nat → ClassId) (ad : Nat → Nat) (M : Nat → Nat → Nat) (O : Nat → Nat → Int32) (o : Nat) (g : Nat → Int64) (sz : Nat) (p0 p1 : Int32) {M' M1 : Nat → Nat → Nat} {O' O1 : Nat → Nat → Int32} {xq : Nat} {rr : Int32} (hM : vx_Met l yX2_isMissed wsX2_isMissed ({ frames := 8, cells := 2, slots := 12, locals := 124 }) (va_Pc [.ref (ad 0), .int p0, .int p1] (zPre D k ad M O sz sa)) (zQop D k ad M M' O' (va_A (zw (20 + 2 * M 0 1) ad (cX k ad M O)) sz) xq rr) (zX (fun E => exC E xq)) 2 12 (va_A (zw (20 + 2 * M 0 1) ad (cX k ad M O)) sz)) (h93 : xq ≠ 3) (e1 : xq = 0 → M1 = M' ∧ O1 = O') (e2 : xq ≠ 0 → M1 = M ∧ O1 = O) : vx_Met l yL_isMissed wsL_isMissed ({ frames := 9, cells := 2, slots := 12, locals := 147 }) (va_Pc [.ref (ad 0), .int p0, .int p1, .ref o] (lwPre D k ad M O o g sz sa)) (lwQ D k ad M M1 O1 o (va_A (lX k o g ad M O) sz) xq (xq) (bL rr)) (zX (fun _ => False)) 2 12 (va_A (lX k o g ad M O) sz) := by
  refine vx_ofWH (cc := cL_isMissed) (maxL := 5) (ret := (some .int)) (by decide) rfl ?_
  intro p e s m args below meth c s₁ B hml hv
  obtain ⟨rfl, hsz, ⟨hP, hK⟩, hD0, hE, hN⟩ := hv
  have hx := B.exec
  have hb := B.bytes
  have hr := B.returns
  have hts := atoms_spec (ws := wsL_isMissed) B.pre
  have hown : s.vm.findClass RL = some m.cls := findClass_of_methodNamed B.named
  have hlocks := B.notSynchronized
  have F : CallFix p m c cL_isMissed 5 s _ wsL_isMissed RL := ⟨hx, hb, hml, hown, hts⟩
  have htab : c.exceptionTable.toList = tableOf [(0, 17, 20, 13), (0, 17, 24, 15)] := vx_table (x := yL_isMissed) B (hts _ List.mem_cons_self)
  subst hsz
  have hD := hD0.self (sz := s.heap.size)
  generalize hAe : va_A (lX k o g ad M O) s.heap.size = A at hD hE ⊢
  have hA : ∀ q : Nat, s.heap.size ≤ q → A q := fun q h => by rw [← hAe]; exact Or.inr h
  have hS : va_S A s.heap s.heap [] := va_S.rf
  have hl := lv_entry ([.ref (ad 0), .int p0, .int p1, .ref o]) (n := 5) (Nat.le_of_ble_eq_true rfl)
  rw [lg_entry_eq]
  generalize (lg_sl ([.ref (ad 0), .int p0, .int p1, .ref o]) ++ List.replicate (5 - (lg_sl ([.ref (ad 0), .int p0, .int p1, .ref o])).length) Slot.unset).toArray = ls at hl ⊢
  have hl : lv_has ls 5 [(0, .ref (ad 0)), (1, .int p0), (2, .int p1), (3, .ref o)] := hl
  refine lv_aload_n hx hb dL_isMissed_0 rfl (lv_at hl 3 rfl) ?_
  refine lv_iconst (v := nI 0) hx hb dL_isMissed_1 (by decide) ?_
  refine lv_aload_n hx hb dL_isMissed_2 rfl (lv_at hl 0 rfl) ?_
  refine lv_iload_n hx hb dL_isMissed_3 rfl (lv_at hl 1 rfl) ?_
  refine lv_iload_n hx hb dL_isMissed_4 rfl (lv_at hl 2 rfl) ?_
  refine lx_call (wb := [(o, (.inl (k 4, 1, .inr (.inl g)) : va_E))]) (As := [.int p0, .int p1]) (rest := [.int (nI 0), .ref o]) F hM (cwV 2 hts gL_isMissed_X2_isMissed rfl rfl rfl (by decide +kernel) ⟨Nat.le_of_ble_eq_true rfl, Nat.le_of_ble_eq_true rfl⟩) hK hP hD hS hA hE rfl hl.1 rfl (Nat.le_of_ble_eq_true rfl) dL_isMissed_5 ⟨Nat.le_of_ble_eq_true rfl, Nat.le_of_ble_eq_true rfl⟩ (fun E ce q9 H1 locs1 hEx hP1 hS1 hce hcv hcl => ?_) (fun ad1 H1 locs1 h0 had hP hD hS => ?_)
  · rcases hEx with ⟨h1, rfl⟩ | ⟨h1, rfl⟩ | ⟨h1, rfl⟩
    · obtain ⟨e3, e4⟩ := e2 (by omega)
      rw [e3, e4]
      refine vx_catch hown [] ⟨0, 17, 20, 13⟩ [⟨0, 17, 24, 15⟩] (by rw [htab]; rfl) (fun zq hz => absurd hz List.not_mem_nil) (by decide) (by decide) (hts (.classLink RL 13 exI) (by decide +kernel)) (va_Nw.use rfl hE.2.2.1.1) hce hcv hcl ?_
      refine lv_astore (lv' := [(4, .ref q9), (0, .ref (ad 0)), (1, .int p0), (2, .int p1), (3, .ref o)]) hx hb dL_isMissed_20 hl (by decide) rfl (fun ls hl => ?_)
      refine lv_iconst (v := nI 1) hx hb dL_isMissed_22 (by decide) ?_
      refine vx_ret (mc := 2) (ms := 12) (W.widen (k := 2) (n := 12) (Nat.le_of_ble_eq_true rfl) (Nat.le_of_ble_eq_true rfl) ?_)
      exact W.iret (v := nI 1) hx hb hr (fun t ht hW => ⟨⟨nI 1, (ad, g), rfl, ⟨by rw [h1]; try rfl, fun zz1 => absurd zz1 (by omega)⟩, ⟨⟨by rw [ht]; exact hP1, va_K.moved hW.alike hK⟩, hD⟩, fun _ _ => rfl⟩, hS1.F ht⟩) hS1.2.2 dL_isMissed_23
    · obtain ⟨e3, e4⟩ := e2 (by omega)
      rw [e3, e4]
      refine vx_catch hown [⟨0, 17, 20, 13⟩] ⟨0, 17, 24, 15⟩ [] (by rw [htab]; rfl) (fun zq hz => by rw [List.mem_singleton.mp hz]; exact Or.inr ⟨by decide, exI, hts (.classLink RL 13 exI) (by decide +kernel), hN.1⟩) (by decide) (by decide) (hts (.classLink RL 15 exA) (by decide +kernel)) (va_Nw.use rfl hE.2.2.1.2.1) hce hcv hcl ?_
      refine lv_astore (lv' := [(4, .ref q9), (0, .ref (ad 0)), (1, .int p0), (2, .int p1), (3, .ref o)]) hx hb dL_isMissed_24 hl (by decide) rfl (fun ls hl => ?_)
      refine lv_iconst (v := nI 2) hx hb dL_isMissed_26 (by decide) ?_
      refine vx_ret (mc := 2) (ms := 12) (W.widen (k := 2) (n := 12) (Nat.le_of_ble_eq_true rfl) (Nat.le_of_ble_eq_true rfl) ?_)
      exact W.iret (v := nI 2) hx hb hr (fun t ht hW => ⟨⟨nI 2, (ad, g), rfl, ⟨by rw [h1]; try rfl, fun zz1 => absurd zz1 (by omega)⟩, ⟨⟨by rw [ht]; exact hP1, va_K.moved hW.alike hK⟩, hD⟩, fun _ _ => rfl⟩, hS1.F ht⟩) hS1.2.2 dL_isMissed_27
    · exact absurd h1 h93
  · obtain ⟨e3, e4⟩ := e1 h0
    rw [e3, e4]
    refine lv_if_eq (tgt := 15) hx hb dL_isMissed_8 (by decide) (fun c3 => ?_) (fun c3 => ?_)
    · refine lv_lconst (v := 0) hx hb dL_isMissed_15 (by decide) ?_
      refine lw_last F hK hP hD hS dL_isMissed_16 (fun H1 locs1 hP hD hS => ?_)
      refine lv_goto (tgt := 28) hx hb dL_isMissed_17 (by decide) ?_
      refine lv_iconst (v := nI 0) hx hb dL_isMissed_28 (by decide) ?_
      refine vx_ret (mc := 2) (ms := 12) (W.widen (k := 2) (n := 12) (Nat.le_of_ble_eq_true rfl) (Nat.le_of_ble_eq_true rfl) ?_)
      exact W.iret (v := nI 0) hx hb hr (fun t ht hW => ⟨⟨nI 0, (ad1, vp_updL g 0 (0)), rfl, ⟨by rw [h0]; try rfl, fun _ => (uL0 g (0)).trans (if_pos c3).symm⟩, ⟨⟨by rw [ht]; exact hP, va_K.moved hW.alike hK⟩, hD⟩, had⟩, hS.F ht⟩) hS.2.2 dL_isMissed_29
    · refine lv_lconst (v := 1) hx hb dL_isMissed_11 (by decide) ?_
      refine lv_goto (tgt := 16) hx hb dL_isMissed_12 (by decide) ?_
      refine lw_last F hK hP hD hS dL_isMissed_16 (fun H1 locs1 hP hD hS => ?_)
      refine lv_goto (tgt := 28) hx hb dL_isMissed_17 (by decide) ?_
      refine lv_iconst (v := nI 0) hx hb dL_isMissed_28 (by decide) ?_
      refine vx_ret (mc := 2) (ms := 12) (W.widen (k := 2) (n := 12) (Nat.le_of_ble_eq_true rfl) (Nat.le_of_ble_eq_true rfl) ?_)
      exact W.iret (v := nI 0) hx hb hr (fun t ht hW => ⟨⟨nI 0, (ad1, vp_updL g 0 (1)), rfl, ⟨by rw [h0]; try rfl, fun _ => (uL0 g (1)).trans (if_neg c3).symm⟩, ⟨⟨by rw [ht]; exact hP, va_K.moved hW.alike hK⟩, hD⟩, had⟩, hS.F ht⟩) hS.2.2 dL_isMissed_29
set_option maxRecDepth 100000 in
set_option maxHeartbeats 2000000 in
theorem c_L_step (l : Launch) (sa : Nat → Nat) (D : va_G) (k : Nat → ClassId) (ad : Nat → Nat) (M : Nat → Nat → Nat) (O : Nat → Nat → Int32) (o : Nat) (g : Nat → Int64) (sz : Nat) (p0 : Int32) {M' M1 : Nat → Nat → Nat} {O' O1 : Nat → Nat → Int32} {xq : Nat} {rr : Int32} (hM : vx_Met l yX2_step wsX2_step ({ frames := 7, cells := 1, slots := 6, locals := 104 }) (va_Pc [.ref (ad 0), .int p0] (zPre D k ad M O sz sa)) (zQop D k ad M M' O' (va_A (zw (20 + 2 * M 0 1) ad (cX k ad M O)) sz) xq rr) (zX (fun E => exC E xq)) 1 6 (va_A (zw (20 + 2 * M 0 1) ad (cX k ad M O)) sz)) (h92 : xq ≠ 2) (h93 : xq ≠ 3) (e1 : xq = 0 → M1 = M' ∧ O1 = O') (e2 : xq ≠ 0 → M1 = M ∧ O1 = O) : vx_Met l yL_step wsL_step ({ frames := 8, cells := 1, slots := 6, locals := 125 }) (va_Pc [.ref (ad 0), .int p0, .ref o] (lwPre D k ad M O o g sz sa)) (lwQ D k ad M M1 O1 o (va_A (lX k o g ad M O) sz) xq (xq) (rr.toInt64)) (zX (fun _ => False)) 1 6 (va_A (lX k o g ad M O) sz) := by
  refine vx_ofWH (cc := cL_step) (maxL := 4) (ret := (some .int)) (by decide) rfl ?_
  intro p e s m args below meth c s₁ B hml hv
  obtain ⟨rfl, hsz, ⟨hP, hK⟩, hD0, hE, hN⟩ := hv
  have hx := B.exec
  have hb := B.bytes
  have hr := B.returns
  have hts := atoms_spec (ws := wsL_step) B.pre
  have hown : s.vm.findClass RL = some m.cls := findClass_of_methodNamed B.named
  have hlocks := B.notSynchronized
  have F : CallFix p m c cL_step 4 s _ wsL_step RL := ⟨hx, hb, hml, hown, hts⟩
  have htab : c.exceptionTable.toList = tableOf [(0, 9, 12, 13)] := vx_table (x := yL_step) B (hts _ List.mem_cons_self)
  subst hsz
  have hD := hD0.self (sz := s.heap.size)
  generalize hAe : va_A (lX k o g ad M O) s.heap.size = A at hD hE ⊢
  have hA : ∀ q : Nat, s.heap.size ≤ q → A q := fun q h => by rw [← hAe]; exact Or.inr h
  have hS : va_S A s.heap s.heap [] := va_S.rf
  have hl := lv_entry ([.ref (ad 0), .int p0, .ref o]) (n := 4) (Nat.le_of_ble_eq_true rfl)
  rw [lg_entry_eq]
  generalize (lg_sl ([.ref (ad 0), .int p0, .ref o]) ++ List.replicate (4 - (lg_sl ([.ref (ad 0), .int p0, .ref o])).length) Slot.unset).toArray = ls at hl ⊢
  have hl : lv_has ls 4 [(0, .ref (ad 0)), (1, .int p0), (2, .ref o)] := hl
  refine lv_aload_n hx hb dL_step_0 rfl (lv_at hl 2 rfl) ?_
  refine lv_iconst (v := nI 0) hx hb dL_step_1 (by decide) ?_
  refine lv_aload_n hx hb dL_step_2 rfl (lv_at hl 0 rfl) ?_
  refine lv_iload_n hx hb dL_step_3 rfl (lv_at hl 1 rfl) ?_
  refine lx_call (wb := [(o, (.inl (k 4, 1, .inr (.inl g)) : va_E))]) (As := [.int p0]) (rest := [.int (nI 0), .ref o]) F hM (cwV 1 hts gL_step_X2_step rfl rfl rfl (by decide +kernel) ⟨Nat.le_of_ble_eq_true rfl, Nat.le_of_ble_eq_true rfl⟩) hK hP hD hS hA hE rfl hl.1 rfl (Nat.le_of_ble_eq_true rfl) dL_step_4 ⟨Nat.le_of_ble_eq_true rfl, Nat.le_of_ble_eq_true rfl⟩ (fun E ce q9 H1 locs1 hEx hP1 hS1 hce hcv hcl => ?_) (fun ad1 H1 locs1 h0 had hP hD hS => ?_)
  · rcases hEx with ⟨h1, rfl⟩ | ⟨h1, rfl⟩ | ⟨h1, rfl⟩
    · obtain ⟨e3, e4⟩ := e2 (by omega)
      rw [e3, e4]
      refine vx_catch hown [] ⟨0, 9, 12, 13⟩ [] (by rw [htab]; rfl) (fun zq hz => absurd hz List.not_mem_nil) (by decide) (by decide) (hts (.classLink RL 13 exI) (by decide +kernel)) (va_Nw.use rfl hE.2.2.1.1) hce hcv hcl ?_
      refine lv_astore_n (lv' := [(3, .ref q9), (0, .ref (ad 0)), (1, .int p0), (2, .ref o)]) hx hb dL_step_12 rfl hl (by decide) rfl (fun ls hl => ?_)
      refine lv_iconst (v := nI 1) hx hb dL_step_13 (by decide) ?_
      refine vx_ret (mc := 1) (ms := 6) (W.widen (k := 1) (n := 6) (Nat.le_of_ble_eq_true rfl) (Nat.le_of_ble_eq_true rfl) ?_)
      exact W.iret (v := nI 1) hx hb hr (fun t ht hW => ⟨⟨nI 1, (ad, g), rfl, ⟨by rw [h1]; try rfl, fun zz1 => absurd zz1 (by omega)⟩, ⟨⟨by rw [ht]; exact hP1, va_K.moved hW.alike hK⟩, hD⟩, fun _ _ => rfl⟩, hS1.F ht⟩) hS1.2.2 dL_step_14
    · exact absurd h1 h92
    · exact absurd h1 h93
  · obtain ⟨e3, e4⟩ := e1 h0
    rw [e3, e4]
    refine lv_i2l (v := (rr).toInt64) hx hb dL_step_7 rfl ?_
    refine lw_last F hK hP hD hS dL_step_8 (fun H1 locs1 hP hD hS => ?_)
    refine lv_goto (tgt := 15) hx hb dL_step_9 (by decide) ?_
    refine lv_iconst (v := nI 0) hx hb dL_step_15 (by decide) ?_
    refine vx_ret (mc := 1) (ms := 6) (W.widen (k := 1) (n := 6) (Nat.le_of_ble_eq_true rfl) (Nat.le_of_ble_eq_true rfl) ?_)
    exact W.iret (v := nI 0) hx hb hr (fun t ht hW => ⟨⟨nI 0, (ad1, vp_updL g 0 ((rr).toInt64)), rfl, ⟨by rw [h0]; try rfl, fun _ => uL0 g ((rr).toInt64)⟩, ⟨⟨by rw [ht]; exact hP, va_K.moved hW.alike hK⟩, hD⟩, had⟩, hS.F ht⟩) hS.2.2 dL_step_16
set_option maxRecDepth 100000 in
set_option maxHeartbeats 2000000 in
theorem c_L_buy (l : Launch) (sa : Nat → Nat) (D : va_G) (k : Nat → ClassId) (ad : Nat → Nat) (M : Nat → Nat → Nat) (O : Nat → Nat → Int32) (o : Nat) (g : Nat → Int64) (sz : Nat) (p0 p1 : Int32) {M' M1 : Nat → Nat → Nat} {O' O1 : Nat → Nat → Int32} {xq : Nat} {rr : Int32} (hM : vx_Met l yX2_buy wsX2_buy ({ frames := 8, cells := 2, slots := 12, locals := 124 }) (va_Pc [.ref (ad 0), .int p0, .int p1] (zPre D k ad M O sz sa)) (zQop D k ad M M' O' (va_A (zw (20 + 2 * M 0 1) ad (cX k ad M O)) sz) xq rr) (zX (fun E => exC E xq)) 2 12 (va_A (zw (20 + 2 * M 0 1) ad (cX k ad M O)) sz)) (h93 : xq ≠ 3) (e1 : xq = 0 → M1 = M' ∧ O1 = O') (e2 : xq ≠ 0 → M1 = M ∧ O1 = O) : vx_Met l yL_buy wsL_buy ({ frames := 9, cells := 2, slots := 12, locals := 147 }) (va_Pc [.ref (ad 0), .int p0, .int p1, .ref o] (lwPre D k ad M O o g sz sa)) (lwQ D k ad M M1 O1 o (va_A (lX k o g ad M O) sz) xq (xq) (rr.toInt64)) (zX (fun _ => False)) 2 12 (va_A (lX k o g ad M O) sz) := by
  refine vx_ofWH (cc := cL_buy) (maxL := 5) (ret := (some .int)) (by decide) rfl ?_
  intro p e s m args below meth c s₁ B hml hv
  obtain ⟨rfl, hsz, ⟨hP, hK⟩, hD0, hE, hN⟩ := hv
  have hx := B.exec
  have hb := B.bytes
  have hr := B.returns
  have hts := atoms_spec (ws := wsL_buy) B.pre
  have hown : s.vm.findClass RL = some m.cls := findClass_of_methodNamed B.named
  have hlocks := B.notSynchronized
  have F : CallFix p m c cL_buy 5 s _ wsL_buy RL := ⟨hx, hb, hml, hown, hts⟩
  have htab : c.exceptionTable.toList = tableOf [(0, 10, 13, 13), (0, 10, 17, 15)] := vx_table (x := yL_buy) B (hts _ List.mem_cons_self)
  subst hsz
  have hD := hD0.self (sz := s.heap.size)
  generalize hAe : va_A (lX k o g ad M O) s.heap.size = A at hD hE ⊢
  have hA : ∀ q : Nat, s.heap.size ≤ q → A q := fun q h => by rw [← hAe]; exact Or.inr h
  have hS : va_S A s.heap s.heap [] := va_S.rf
  have hl := lv_entry ([.ref (ad 0), .int p0, .int p1, .ref o]) (n := 5) (Nat.le_of_ble_eq_true rfl)
  rw [lg_entry_eq]
  generalize (lg_sl ([.ref (ad 0), .int p0, .int p1, .ref o]) ++ List.replicate (5 - (lg_sl ([.ref (ad 0), .int p0, .int p1, .ref o])).length) Slot.unset).toArray = ls at hl ⊢
  have hl : lv_has ls 5 [(0, .ref (ad 0)), (1, .int p0), (2, .int p1), (3, .ref o)] := hl
  refine lv_aload_n hx hb dL_buy_0 rfl (lv_at hl 3 rfl) ?_
  refine lv_iconst (v := nI 0) hx hb dL_buy_1 (by decide) ?_
  refine lv_aload_n hx hb dL_buy_2 rfl (lv_at hl 0 rfl) ?_
  refine lv_iload_n hx hb dL_buy_3 rfl (lv_at hl 1 rfl) ?_
  refine lv_iload_n hx hb dL_buy_4 rfl (lv_at hl 2 rfl) ?_
  refine lx_call (wb := [(o, (.inl (k 4, 1, .inr (.inl g)) : va_E))]) (As := [.int p0, .int p1]) (rest := [.int (nI 0), .ref o]) F hM (cwV 2 hts gL_buy_X2_buy rfl rfl rfl (by decide +kernel) ⟨Nat.le_of_ble_eq_true rfl, Nat.le_of_ble_eq_true rfl⟩) hK hP hD hS hA hE rfl hl.1 rfl (Nat.le_of_ble_eq_true rfl) dL_buy_5 ⟨Nat.le_of_ble_eq_true rfl, Nat.le_of_ble_eq_true rfl⟩ (fun E ce q9 H1 locs1 hEx hP1 hS1 hce hcv hcl => ?_) (fun ad1 H1 locs1 h0 had hP hD hS => ?_)
  · rcases hEx with ⟨h1, rfl⟩ | ⟨h1, rfl⟩ | ⟨h1, rfl⟩
    · obtain ⟨e3, e4⟩ := e2 (by omega)
      rw [e3, e4]
      refine vx_catch hown [] ⟨0, 10, 13, 13⟩ [⟨0, 10, 17, 15⟩] (by rw [htab]; rfl) (fun zq hz => absurd hz List.not_mem_nil) (by decide) (by decide) (hts (.classLink RL 13 exI) (by decide +kernel)) (va_Nw.use rfl hE.2.2.1.1) hce hcv hcl ?_
      refine lv_astore (lv' := [(4, .ref q9), (0, .ref (ad 0)), (1, .int p0), (2, .int p1), (3, .ref o)]) hx hb dL_buy_13 hl (by decide) rfl (fun ls hl => ?_)
      refine lv_iconst (v := nI 1) hx hb dL_buy_15 (by decide) ?_
      refine vx_ret (mc := 2) (ms := 12) (W.widen (k := 2) (n := 12) (Nat.le_of_ble_eq_true rfl) (Nat.le_of_ble_eq_true rfl) ?_)
      exact W.iret (v := nI 1) hx hb hr (fun t ht hW => ⟨⟨nI 1, (ad, g), rfl, ⟨by rw [h1]; try rfl, fun zz1 => absurd zz1 (by omega)⟩, ⟨⟨by rw [ht]; exact hP1, va_K.moved hW.alike hK⟩, hD⟩, fun _ _ => rfl⟩, hS1.F ht⟩) hS1.2.2 dL_buy_16
    · obtain ⟨e3, e4⟩ := e2 (by omega)
      rw [e3, e4]
      refine vx_catch hown [⟨0, 10, 13, 13⟩] ⟨0, 10, 17, 15⟩ [] (by rw [htab]; rfl) (fun zq hz => by rw [List.mem_singleton.mp hz]; exact Or.inr ⟨by decide, exI, hts (.classLink RL 13 exI) (by decide +kernel), hN.1⟩) (by decide) (by decide) (hts (.classLink RL 15 exA) (by decide +kernel)) (va_Nw.use rfl hE.2.2.1.2.1) hce hcv hcl ?_
      refine lv_astore (lv' := [(4, .ref q9), (0, .ref (ad 0)), (1, .int p0), (2, .int p1), (3, .ref o)]) hx hb dL_buy_17 hl (by decide) rfl (fun ls hl => ?_)
      refine lv_iconst (v := nI 2) hx hb dL_buy_19 (by decide) ?_
      refine vx_ret (mc := 2) (ms := 12) (W.widen (k := 2) (n := 12) (Nat.le_of_ble_eq_true rfl) (Nat.le_of_ble_eq_true rfl) ?_)
      exact W.iret (v := nI 2) hx hb hr (fun t ht hW => ⟨⟨nI 2, (ad, g), rfl, ⟨by rw [h1]; try rfl, fun zz1 => absurd zz1 (by omega)⟩, ⟨⟨by rw [ht]; exact hP1, va_K.moved hW.alike hK⟩, hD⟩, fun _ _ => rfl⟩, hS1.F ht⟩) hS1.2.2 dL_buy_20
    · exact absurd h1 h93
  · obtain ⟨e3, e4⟩ := e1 h0
    rw [e3, e4]
    refine lv_i2l (v := (rr).toInt64) hx hb dL_buy_8 rfl ?_
    refine lw_last F hK hP hD hS dL_buy_9 (fun H1 locs1 hP hD hS => ?_)
    refine lv_goto (tgt := 21) hx hb dL_buy_10 (by decide) ?_
    refine lv_iconst (v := nI 0) hx hb dL_buy_21 (by decide) ?_
    refine vx_ret (mc := 2) (ms := 12) (W.widen (k := 2) (n := 12) (Nat.le_of_ble_eq_true rfl) (Nat.le_of_ble_eq_true rfl) ?_)
    exact W.iret (v := nI 0) hx hb hr (fun t ht hW => ⟨⟨nI 0, (ad1, vp_updL g 0 ((rr).toInt64)), rfl, ⟨by rw [h0]; try rfl, fun _ => uL0 g ((rr).toInt64)⟩, ⟨⟨by rw [ht]; exact hP, va_K.moved hW.alike hK⟩, hD⟩, had⟩, hS.F ht⟩) hS.2.2 dL_buy_22
set_option maxRecDepth 100000 in
set_option maxHeartbeats 2000000 in
theorem c_L_work (l : Launch) (sa : Nat → Nat) (D : va_G) (k : Nat → ClassId) (ad : Nat → Nat) (M : Nat → Nat → Nat) (O : Nat → Nat → Int32) (o : Nat) (g : Nat → Int64) (sz : Nat) (p0 p1 : Int32) {M' M1 : Nat → Nat → Nat} {O' O1 : Nat → Nat → Int32} {xq : Nat} {rr : Int32} (hM : vx_Met l yX2_work wsX2_work ({ frames := 8, cells := 3, slots := 18, locals := 124 }) (va_Pc [.ref (ad 0), .int p0, .int p1] (zPre D k ad M O sz sa)) (zQop D k ad M M' O' (va_A (zw (20 + 2 * M 0 1) ad (cX k ad M O)) sz) xq rr) (zX (fun E => exC E xq)) 3 18 (va_A (zw (20 + 2 * M 0 1) ad (cX k ad M O)) sz)) (e1 : xq = 0 → M1 = M' ∧ O1 = O') (e2 : xq ≠ 0 → M1 = M ∧ O1 = O) : vx_Met l yL_work wsL_work ({ frames := 9, cells := 3, slots := 18, locals := 150 }) (va_Pc [.ref (ad 0), .int p0, .int p1, .ref o] (lwPre D k ad M O o g sz sa)) (lwQ D k ad M M1 O1 o (va_A (lX k o g ad M O) sz) xq (xq) (rr.toInt64)) (zX (fun _ => False)) 3 18 (va_A (lX k o g ad M O) sz) := by
  refine vx_ofWH (cc := cL_work) (maxL := 5) (ret := (some .int)) (by decide) rfl ?_
  intro p e s m args below meth c s₁ B hml hv
  obtain ⟨rfl, hsz, ⟨hP, hK⟩, hD0, hE, hN⟩ := hv
  have hx := B.exec
  have hb := B.bytes
  have hr := B.returns
  have hts := atoms_spec (ws := wsL_work) B.pre
  have hown : s.vm.findClass RL = some m.cls := findClass_of_methodNamed B.named
  have hlocks := B.notSynchronized
  have F : CallFix p m c cL_work 5 s _ wsL_work RL := ⟨hx, hb, hml, hown, hts⟩
  have htab : c.exceptionTable.toList = tableOf [(0, 10, 13, 13), (0, 10, 17, 15), (0, 10, 21, 20)] := vx_table (x := yL_work) B (hts _ List.mem_cons_self)
  subst hsz
  have hD := hD0.self (sz := s.heap.size)
  generalize hAe : va_A (lX k o g ad M O) s.heap.size = A at hD hE ⊢
  have hA : ∀ q : Nat, s.heap.size ≤ q → A q := fun q h => by rw [← hAe]; exact Or.inr h
  have hS : va_S A s.heap s.heap [] := va_S.rf
  have hl := lv_entry ([.ref (ad 0), .int p0, .int p1, .ref o]) (n := 5) (Nat.le_of_ble_eq_true rfl)
  rw [lg_entry_eq]
  generalize (lg_sl ([.ref (ad 0), .int p0, .int p1, .ref o]) ++ List.replicate (5 - (lg_sl ([.ref (ad 0), .int p0, .int p1, .ref o])).length) Slot.unset).toArray = ls at hl ⊢
  have hl : lv_has ls 5 [(0, .ref (ad 0)), (1, .int p0), (2, .int p1), (3, .ref o)] := hl
  refine lv_aload_n hx hb dL_work_0 rfl (lv_at hl 3 rfl) ?_
  refine lv_iconst (v := nI 0) hx hb dL_work_1 (by decide) ?_
  refine lv_aload_n hx hb dL_work_2 rfl (lv_at hl 0 rfl) ?_
  refine lv_iload_n hx hb dL_work_3 rfl (lv_at hl 1 rfl) ?_
  refine lv_iload_n hx hb dL_work_4 rfl (lv_at hl 2 rfl) ?_
  refine lx_call (wb := [(o, (.inl (k 4, 1, .inr (.inl g)) : va_E))]) (As := [.int p0, .int p1]) (rest := [.int (nI 0), .ref o]) F hM (cwV 2 hts gL_work_X2_work rfl rfl rfl (by decide +kernel) ⟨Nat.le_of_ble_eq_true rfl, Nat.le_of_ble_eq_true rfl⟩) hK hP hD hS hA hE rfl hl.1 rfl (Nat.le_of_ble_eq_true rfl) dL_work_5 ⟨Nat.le_of_ble_eq_true rfl, Nat.le_of_ble_eq_true rfl⟩ (fun E ce q9 H1 locs1 hEx hP1 hS1 hce hcv hcl => ?_) (fun ad1 H1 locs1 h0 had hP hD hS => ?_)
  · rcases hEx with ⟨h1, rfl⟩ | ⟨h1, rfl⟩ | ⟨h1, rfl⟩
    · obtain ⟨e3, e4⟩ := e2 (by omega)
      rw [e3, e4]
      refine vx_catch hown [] ⟨0, 10, 13, 13⟩ [⟨0, 10, 17, 15⟩, ⟨0, 10, 21, 20⟩] (by rw [htab]; rfl) (fun zq hz => absurd hz List.not_mem_nil) (by decide) (by decide) (hts (.classLink RL 13 exI) (by decide +kernel)) (va_Nw.use rfl hE.2.2.1.1) hce hcv hcl ?_
      refine lv_astore (lv' := [(4, .ref q9), (0, .ref (ad 0)), (1, .int p0), (2, .int p1), (3, .ref o)]) hx hb dL_work_13 hl (by decide) rfl (fun ls hl => ?_)
      refine lv_iconst (v := nI 1) hx hb dL_work_15 (by decide) ?_
      refine vx_ret (mc := 3) (ms := 18) (W.widen (k := 3) (n := 18) (Nat.le_of_ble_eq_true rfl) (Nat.le_of_ble_eq_true rfl) ?_)
      exact W.iret (v := nI 1) hx hb hr (fun t ht hW => ⟨⟨nI 1, (ad, g), rfl, ⟨by rw [h1]; try rfl, fun zz1 => absurd zz1 (by omega)⟩, ⟨⟨by rw [ht]; exact hP1, va_K.moved hW.alike hK⟩, hD⟩, fun _ _ => rfl⟩, hS1.F ht⟩) hS1.2.2 dL_work_16
    · obtain ⟨e3, e4⟩ := e2 (by omega)
      rw [e3, e4]
      refine vx_catch hown [⟨0, 10, 13, 13⟩] ⟨0, 10, 17, 15⟩ [⟨0, 10, 21, 20⟩] (by rw [htab]; rfl) (fun zq hz => by rw [List.mem_singleton.mp hz]; exact Or.inr ⟨by decide, exI, hts (.classLink RL 13 exI) (by decide +kernel), hN.1⟩) (by decide) (by decide) (hts (.classLink RL 15 exA) (by decide +kernel)) (va_Nw.use rfl hE.2.2.1.2.1) hce hcv hcl ?_
      refine lv_astore (lv' := [(4, .ref q9), (0, .ref (ad 0)), (1, .int p0), (2, .int p1), (3, .ref o)]) hx hb dL_work_17 hl (by decide) rfl (fun ls hl => ?_)
      refine lv_iconst (v := nI 2) hx hb dL_work_19 (by decide) ?_
      refine vx_ret (mc := 3) (ms := 18) (W.widen (k := 3) (n := 18) (Nat.le_of_ble_eq_true rfl) (Nat.le_of_ble_eq_true rfl) ?_)
      exact W.iret (v := nI 2) hx hb hr (fun t ht hW => ⟨⟨nI 2, (ad, g), rfl, ⟨by rw [h1]; try rfl, fun zz1 => absurd zz1 (by omega)⟩, ⟨⟨by rw [ht]; exact hP1, va_K.moved hW.alike hK⟩, hD⟩, fun _ _ => rfl⟩, hS1.F ht⟩) hS1.2.2 dL_work_20
    · obtain ⟨e3, e4⟩ := e2 (by omega)
      rw [e3, e4]
      have hps : ∀ zq ∈ ([⟨0, 10, 13, 13⟩, ⟨0, 10, 17, 15⟩] : List ExceptionTableEntry), covers zq 5 = false ∨ (zq.catchType ≠ 0 ∧ ∃ nm : String, (Cond.classLink RL zq.catchType nm).before (#[.ref (ad 0), .int p0, .int p1, .ref o] : Array Value) s = true ∧ va_Nc exS nm s) := by
        intro zq hz
        rcases List.mem_cons.mp hz with hz | hz
        · rw [hz]; exact Or.inr ⟨by decide, exI, hts (.classLink RL 13 exI) (by decide +kernel), hN.2.1⟩
        · rw [List.mem_singleton.mp hz]; exact Or.inr ⟨by decide, exA, hts (.classLink RL 15 exA) (by decide +kernel), hN.2.2⟩
      refine vx_catch hown [⟨0, 10, 13, 13⟩, ⟨0, 10, 17, 15⟩] ⟨0, 10, 21, 20⟩ [] (by rw [htab]; rfl) hps (by decide) (by decide) (hts (.classLink RL 20 exS) (by decide +kernel)) (va_Nw.use rfl hE.2.2.1.2.2) hce hcv hcl ?_
      refine lv_astore (lv' := [(4, .ref q9), (0, .ref (ad 0)), (1, .int p0), (2, .int p1), (3, .ref o)]) hx hb dL_work_21 hl (by decide) rfl (fun ls hl => ?_)
      refine lv_iconst (v := nI 3) hx hb dL_work_23 (by decide) ?_
      refine vx_ret (mc := 3) (ms := 18) (W.widen (k := 3) (n := 18) (Nat.le_of_ble_eq_true rfl) (Nat.le_of_ble_eq_true rfl) ?_)
      exact W.iret (v := nI 3) hx hb hr (fun t ht hW => ⟨⟨nI 3, (ad, g), rfl, ⟨by rw [h1]; try rfl, fun zz1 => absurd zz1 (by omega)⟩, ⟨⟨by rw [ht]; exact hP1, va_K.moved hW.alike hK⟩, hD⟩, fun _ _ => rfl⟩, hS1.F ht⟩) hS1.2.2 dL_work_24
  · obtain ⟨e3, e4⟩ := e1 h0
    rw [e3, e4]
    refine lv_i2l (v := (rr).toInt64) hx hb dL_work_8 rfl ?_
    refine lw_last F hK hP hD hS dL_work_9 (fun H1 locs1 hP hD hS => ?_)
    refine lv_goto (tgt := 25) hx hb dL_work_10 (by decide) ?_
    refine lv_iconst (v := nI 0) hx hb dL_work_25 (by decide) ?_
    refine vx_ret (mc := 3) (ms := 18) (W.widen (k := 3) (n := 18) (Nat.le_of_ble_eq_true rfl) (Nat.le_of_ble_eq_true rfl) ?_)
    exact W.iret (v := nI 0) hx hb hr (fun t ht hW => ⟨⟨nI 0, (ad1, vp_updL g 0 ((rr).toInt64)), rfl, ⟨by rw [h0]; try rfl, fun _ => uL0 g ((rr).toInt64)⟩, ⟨⟨by rw [ht]; exact hP, va_K.moved hW.alike hK⟩, hD⟩, had⟩, hS.F ht⟩) hS.2.2 dL_work_26
set_option maxRecDepth 100000 in
set_option maxHeartbeats 2000000 in
theorem c_L_ahead (l : Launch) (sa : Nat → Nat) (D : va_G) (k : Nat → ClassId) (ad : Nat → Nat) (M : Nat → Nat → Nat) (O : Nat → Nat → Int32) (o : Nat) (g : Nat → Int64) (sz : Nat) (p0 : Int32) {M' M1 : Nat → Nat → Nat} {O' O1 : Nat → Nat → Int32} {xq : Nat} {rr : Int32} (hM : vx_Met l yX2_ahead wsX2_ahead ({ frames := 7, cells := 1, slots := 6, locals := 104 }) (va_Pc [.ref (ad 0), .int p0] (zPre D k ad M O sz sa)) (zQop D k ad M M' O' (va_A (zw (20 + 2 * M 0 1) ad (cX k ad M O)) sz) xq rr) (zX (fun E => exC E xq)) 1 6 (va_A (zw (20 + 2 * M 0 1) ad (cX k ad M O)) sz)) (h92 : xq ≠ 2) (h93 : xq ≠ 3) (e1 : xq = 0 → M1 = M' ∧ O1 = O') (e2 : xq ≠ 0 → M1 = M ∧ O1 = O) : vx_Met l yL_ahead wsL_ahead ({ frames := 8, cells := 1, slots := 6, locals := 125 }) (va_Pc [.ref (ad 0), .int p0, .ref o] (lwPre D k ad M O o g sz sa)) (lwQ D k ad M M1 O1 o (va_A (lX k o g ad M O) sz) xq (xq) (rr.toInt64)) (zX (fun _ => False)) 1 6 (va_A (lX k o g ad M O) sz) := by
  refine vx_ofWH (cc := cL_ahead) (maxL := 4) (ret := (some .int)) (by decide) rfl ?_
  intro p e s m args below meth c s₁ B hml hv
  obtain ⟨rfl, hsz, ⟨hP, hK⟩, hD0, hE, hN⟩ := hv
  have hx := B.exec
  have hb := B.bytes
  have hr := B.returns
  have hts := atoms_spec (ws := wsL_ahead) B.pre
  have hown : s.vm.findClass RL = some m.cls := findClass_of_methodNamed B.named
  have hlocks := B.notSynchronized
  have F : CallFix p m c cL_ahead 4 s _ wsL_ahead RL := ⟨hx, hb, hml, hown, hts⟩
  have htab : c.exceptionTable.toList = tableOf [(0, 9, 12, 13)] := vx_table (x := yL_ahead) B (hts _ List.mem_cons_self)
  subst hsz
  have hD := hD0.self (sz := s.heap.size)
  generalize hAe : va_A (lX k o g ad M O) s.heap.size = A at hD hE ⊢
  have hA : ∀ q : Nat, s.heap.size ≤ q → A q := fun q h => by rw [← hAe]; exact Or.inr h
  have hS : va_S A s.heap s.heap [] := va_S.rf
  have hl := lv_entry ([.ref (ad 0), .int p0, .ref o]) (n := 4) (Nat.le_of_ble_eq_true rfl)
  rw [lg_entry_eq]
  generalize (lg_sl ([.ref (ad 0), .int p0, .ref o]) ++ List.replicate (4 - (lg_sl ([.ref (ad 0), .int p0, .ref o])).length) Slot.unset).toArray = ls at hl ⊢
  have hl : lv_has ls 4 [(0, .ref (ad 0)), (1, .int p0), (2, .ref o)] := hl
  refine lv_aload_n hx hb dL_ahead_0 rfl (lv_at hl 2 rfl) ?_
  refine lv_iconst (v := nI 0) hx hb dL_ahead_1 (by decide) ?_
  refine lv_aload_n hx hb dL_ahead_2 rfl (lv_at hl 0 rfl) ?_
  refine lv_iload_n hx hb dL_ahead_3 rfl (lv_at hl 1 rfl) ?_
  refine lx_call (wb := [(o, (.inl (k 4, 1, .inr (.inl g)) : va_E))]) (As := [.int p0]) (rest := [.int (nI 0), .ref o]) F hM (cwV 1 hts gL_ahead_X2_ahead rfl rfl rfl (by decide +kernel) ⟨Nat.le_of_ble_eq_true rfl, Nat.le_of_ble_eq_true rfl⟩) hK hP hD hS hA hE rfl hl.1 rfl (Nat.le_of_ble_eq_true rfl) dL_ahead_4 ⟨Nat.le_of_ble_eq_true rfl, Nat.le_of_ble_eq_true rfl⟩ (fun E ce q9 H1 locs1 hEx hP1 hS1 hce hcv hcl => ?_) (fun ad1 H1 locs1 h0 had hP hD hS => ?_)
  · rcases hEx with ⟨h1, rfl⟩ | ⟨h1, rfl⟩ | ⟨h1, rfl⟩
    · obtain ⟨e3, e4⟩ := e2 (by omega)
      rw [e3, e4]
      refine vx_catch hown [] ⟨0, 9, 12, 13⟩ [] (by rw [htab]; rfl) (fun zq hz => absurd hz List.not_mem_nil) (by decide) (by decide) (hts (.classLink RL 13 exI) (by decide +kernel)) (va_Nw.use rfl hE.2.2.1.1) hce hcv hcl ?_
      refine lv_astore_n (lv' := [(3, .ref q9), (0, .ref (ad 0)), (1, .int p0), (2, .ref o)]) hx hb dL_ahead_12 rfl hl (by decide) rfl (fun ls hl => ?_)
      refine lv_iconst (v := nI 1) hx hb dL_ahead_13 (by decide) ?_
      refine vx_ret (mc := 1) (ms := 6) (W.widen (k := 1) (n := 6) (Nat.le_of_ble_eq_true rfl) (Nat.le_of_ble_eq_true rfl) ?_)
      exact W.iret (v := nI 1) hx hb hr (fun t ht hW => ⟨⟨nI 1, (ad, g), rfl, ⟨by rw [h1]; try rfl, fun zz1 => absurd zz1 (by omega)⟩, ⟨⟨by rw [ht]; exact hP1, va_K.moved hW.alike hK⟩, hD⟩, fun _ _ => rfl⟩, hS1.F ht⟩) hS1.2.2 dL_ahead_14
    · exact absurd h1 h92
    · exact absurd h1 h93
  · obtain ⟨e3, e4⟩ := e1 h0
    rw [e3, e4]
    refine lv_i2l (v := (rr).toInt64) hx hb dL_ahead_7 rfl ?_
    refine lw_last F hK hP hD hS dL_ahead_8 (fun H1 locs1 hP hD hS => ?_)
    refine lv_goto (tgt := 15) hx hb dL_ahead_9 (by decide) ?_
    refine lv_iconst (v := nI 0) hx hb dL_ahead_15 (by decide) ?_
    refine vx_ret (mc := 1) (ms := 6) (W.widen (k := 1) (n := 6) (Nat.le_of_ble_eq_true rfl) (Nat.le_of_ble_eq_true rfl) ?_)
    exact W.iret (v := nI 0) hx hb hr (fun t ht hW => ⟨⟨nI 0, (ad1, vp_updL g 0 ((rr).toInt64)), rfl, ⟨by rw [h0]; try rfl, fun _ => uL0 g ((rr).toInt64)⟩, ⟨⟨by rw [ht]; exact hP, va_K.moved hW.alike hK⟩, hD⟩, had⟩, hS.F ht⟩) hS.2.2 dL_ahead_16
set_option maxRecDepth 100000 in
set_option maxHeartbeats 2000000 in
theorem c_L_owes (l : Launch) (sa : Nat → Nat) (D : va_G) (k : Nat → ClassId) (ad : Nat → Nat) (M : Nat → Nat → Nat) (O : Nat → Nat → Int32) (o : Nat) (g : Nat → Int64) (sz : Nat) (p0 : Int32) {M' M1 : Nat → Nat → Nat} {O' O1 : Nat → Nat → Int32} {xq : Nat} {rr : Int32} (hM : vx_Met l yX2_owes wsX2_owes ({ frames := 7, cells := 1, slots := 6, locals := 104 }) (va_Pc [.ref (ad 0), .int p0] (zPre D k ad M O sz sa)) (zQop D k ad M M' O' (va_A (zw (20 + 2 * M 0 1) ad (cX k ad M O)) sz) xq rr) (zX (fun E => exC E xq)) 1 6 (va_A (zw (20 + 2 * M 0 1) ad (cX k ad M O)) sz)) (h92 : xq ≠ 2) (h93 : xq ≠ 3) (e1 : xq = 0 → M1 = M' ∧ O1 = O') (e2 : xq ≠ 0 → M1 = M ∧ O1 = O) : vx_Met l yL_owes wsL_owes ({ frames := 8, cells := 1, slots := 6, locals := 125 }) (va_Pc [.ref (ad 0), .int p0, .ref o] (lwPre D k ad M O o g sz sa)) (lwQ D k ad M M1 O1 o (va_A (lX k o g ad M O) sz) xq (xq) (rr.toInt64)) (zX (fun _ => False)) 1 6 (va_A (lX k o g ad M O) sz) := by
  refine vx_ofWH (cc := cL_owes) (maxL := 4) (ret := (some .int)) (by decide) rfl ?_
  intro p e s m args below meth c s₁ B hml hv
  obtain ⟨rfl, hsz, ⟨hP, hK⟩, hD0, hE, hN⟩ := hv
  have hx := B.exec
  have hb := B.bytes
  have hr := B.returns
  have hts := atoms_spec (ws := wsL_owes) B.pre
  have hown : s.vm.findClass RL = some m.cls := findClass_of_methodNamed B.named
  have hlocks := B.notSynchronized
  have F : CallFix p m c cL_owes 4 s _ wsL_owes RL := ⟨hx, hb, hml, hown, hts⟩
  have htab : c.exceptionTable.toList = tableOf [(0, 9, 12, 13)] := vx_table (x := yL_owes) B (hts _ List.mem_cons_self)
  subst hsz
  have hD := hD0.self (sz := s.heap.size)
  generalize hAe : va_A (lX k o g ad M O) s.heap.size = A at hD hE ⊢
  have hA : ∀ q : Nat, s.heap.size ≤ q → A q := fun q h => by rw [← hAe]; exact Or.inr h
  have hS : va_S A s.heap s.heap [] := va_S.rf
  have hl := lv_entry ([.ref (ad 0), .int p0, .ref o]) (n := 4) (Nat.le_of_ble_eq_true rfl)
  rw [lg_entry_eq]
  generalize (lg_sl ([.ref (ad 0), .int p0, .ref o]) ++ List.replicate (4 - (lg_sl ([.ref (ad 0), .int p0, .ref o])).length) Slot.unset).toArray = ls at hl ⊢
  have hl : lv_has ls 4 [(0, .ref (ad 0)), (1, .int p0), (2, .ref o)] := hl
  refine lv_aload_n hx hb dL_owes_0 rfl (lv_at hl 2 rfl) ?_
  refine lv_iconst (v := nI 0) hx hb dL_owes_1 (by decide) ?_
  refine lv_aload_n hx hb dL_owes_2 rfl (lv_at hl 0 rfl) ?_
  refine lv_iload_n hx hb dL_owes_3 rfl (lv_at hl 1 rfl) ?_
  refine lx_call (wb := [(o, (.inl (k 4, 1, .inr (.inl g)) : va_E))]) (As := [.int p0]) (rest := [.int (nI 0), .ref o]) F hM (cwV 1 hts gL_owes_X2_owes rfl rfl rfl (by decide +kernel) ⟨Nat.le_of_ble_eq_true rfl, Nat.le_of_ble_eq_true rfl⟩) hK hP hD hS hA hE rfl hl.1 rfl (Nat.le_of_ble_eq_true rfl) dL_owes_4 ⟨Nat.le_of_ble_eq_true rfl, Nat.le_of_ble_eq_true rfl⟩ (fun E ce q9 H1 locs1 hEx hP1 hS1 hce hcv hcl => ?_) (fun ad1 H1 locs1 h0 had hP hD hS => ?_)
  · rcases hEx with ⟨h1, rfl⟩ | ⟨h1, rfl⟩ | ⟨h1, rfl⟩
    · obtain ⟨e3, e4⟩ := e2 (by omega)
      rw [e3, e4]
      refine vx_catch hown [] ⟨0, 9, 12, 13⟩ [] (by rw [htab]; rfl) (fun zq hz => absurd hz List.not_mem_nil) (by decide) (by decide) (hts (.classLink RL 13 exI) (by decide +kernel)) (va_Nw.use rfl hE.2.2.1.1) hce hcv hcl ?_
      refine lv_astore_n (lv' := [(3, .ref q9), (0, .ref (ad 0)), (1, .int p0), (2, .ref o)]) hx hb dL_owes_12 rfl hl (by decide) rfl (fun ls hl => ?_)
      refine lv_iconst (v := nI 1) hx hb dL_owes_13 (by decide) ?_
      refine vx_ret (mc := 1) (ms := 6) (W.widen (k := 1) (n := 6) (Nat.le_of_ble_eq_true rfl) (Nat.le_of_ble_eq_true rfl) ?_)
      exact W.iret (v := nI 1) hx hb hr (fun t ht hW => ⟨⟨nI 1, (ad, g), rfl, ⟨by rw [h1]; try rfl, fun zz1 => absurd zz1 (by omega)⟩, ⟨⟨by rw [ht]; exact hP1, va_K.moved hW.alike hK⟩, hD⟩, fun _ _ => rfl⟩, hS1.F ht⟩) hS1.2.2 dL_owes_14
    · exact absurd h1 h92
    · exact absurd h1 h93
  · obtain ⟨e3, e4⟩ := e1 h0
    rw [e3, e4]
    refine lv_i2l (v := (rr).toInt64) hx hb dL_owes_7 rfl ?_
    refine lw_last F hK hP hD hS dL_owes_8 (fun H1 locs1 hP hD hS => ?_)
    refine lv_goto (tgt := 15) hx hb dL_owes_9 (by decide) ?_
    refine lv_iconst (v := nI 0) hx hb dL_owes_15 (by decide) ?_
    refine vx_ret (mc := 1) (ms := 6) (W.widen (k := 1) (n := 6) (Nat.le_of_ble_eq_true rfl) (Nat.le_of_ble_eq_true rfl) ?_)
    exact W.iret (v := nI 0) hx hb hr (fun t ht hW => ⟨⟨nI 0, (ad1, vp_updL g 0 ((rr).toInt64)), rfl, ⟨by rw [h0]; try rfl, fun _ => uL0 g ((rr).toInt64)⟩, ⟨⟨by rw [ht]; exact hP, va_K.moved hW.alike hK⟩, hD⟩, had⟩, hS.F ht⟩) hS.2.2 dL_owes_16
