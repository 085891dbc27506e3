/-! THE LAW'S HELPERS, a theorem a road, over any contract of the call. -/
theorem wP_n {D : va_G} {cl : List vw_C} {wa : va_W} {H : Heap} (h : va_P D cl wa H) : va_P D cl (wa ++ []) H := by rw [List.append_nil]; exact h
theorem wD_n {A : Nat → Prop} {wa : va_W} (h : va_D A wa) : va_D A (wa ++ []) := by rw [List.append_nil]; exact h
theorem and30 (zx : Int32) : ∃ d : Nat, d < 1073741824 ∧ zx &&& 1073741823 = nI d := by
  refine ⟨zx.toBitVec.toNat % 1073741824, Nat.mod_lt _ (by decide), Int32.toBitVec_inj.mp (BitVec.eq_of_toNat_eq ?_)⟩
  have n1 : (zx.toBitVec &&& (1073741823 : Int32).toBitVec).toNat = zx.toBitVec.toNat % 2 ^ 30 := by rw [BitVec.toNat_and, show (1073741823 : Int32).toBitVec.toNat = 2 ^ 30 - 1 from by decide, Nat.and_two_pow_sub_one_eq_mod]
  show (zx.toBitVec &&& (1073741823 : Int32).toBitVec).toNat = (BitVec.ofNat 32 (zx.toBitVec.toNat % 1073741824)).toNat
  rw [n1, BitVec.toNat_ofNat]
  omega
set_option maxRecDepth 100000 in
set_option maxHeartbeats 2000000 in
theorem c_L_drawn (l : Launch) {b L kk0 : Nat} {xs : Nat → Int32} (hk : kk0 < 120) (hL : L ≤ 260) : Met l yL_drawn wsL_drawn ({ frames := 0, cells := 0, slots := 0, locals := 0 }) (va_Pc [.ref b, .int (nI kk0)] (fun U => va_X b L xs U U.heap)) (vp_Si (fun r => ∃ d : Nat, d < 1073741824 ∧ r = nI d)) 0 0 (fun _ => False) := by
  refine Met.ofW (cc := cL_drawn) (maxL := 3) (ret := (some .int)) (by decide) rfl ?_
  intro p e s m args below meth c s₁ B hml hv
  obtain ⟨rfl, hX⟩ := hv
  have hbl : b < s.heap.size := by obtain ⟨scr, h1, -⟩ := hX; exact (Array.getElem?_eq_some_iff.mp h1).1
  have hx := B.exec
  have hb := B.bytes
  have hr := B.returns
  have hts := atoms_spec (ws := wsL_drawn) B.pre
  have hown : s.vm.findClass RL = some m.cls := findClass_of_methodNamed B.named
  have hlocks := B.notSynchronized
  have F : CallFix p m c cL_drawn 3 s _ wsL_drawn RL := ⟨hx, hb, hml, hown, hts⟩
  have hS : va_S noA s.heap s.heap [] := va_S.rf
  have hl := lv_entry ([.ref b, .int (nI kk0)]) (n := 3) (Nat.le_of_ble_eq_true rfl)
  rw [lg_entry_eq]
  generalize (lg_sl ([.ref b, .int (nI kk0)]) ++ List.replicate (3 - (lg_sl ([.ref b, .int (nI kk0)])).length) Slot.unset).toArray = ls at hl ⊢
  have hl : lv_has ls 3 [(0, .ref b), (1, .int (nI kk0))] := hl
  refine lv_iload_n hx hb dL_drawn_0 rfl (lv_at hl 1 rfl) ?_
  refine lv_aload_n hx hb dL_drawn_1 rfl (lv_at hl 0 rfl) ?_
  refine va_slen hx hb hX hbl (fun zz1 => zz1) hS dL_drawn_2 ?_
  rw [z_ofI]
  refine z_icmp_ge (tgt := 12) F (by omega) (by omega) dL_drawn_3 (by decide) (fun c1 => ?_) (fun c1 => ?_)
  · refine lv_sipush (v := nI 12241) hx hb dL_drawn_12 (by decide) ?_
    refine lv_iload_n hx hb dL_drawn_15 rfl (lv_at hl 1 rfl) ?_
    refine z_mul F dL_drawn_16 ?_
    refine lv_sipush (v := nI 7001) hx hb dL_drawn_17 (by decide) ?_
    refine z_add F dL_drawn_20 ?_
    refine lv_istore_n (lv' := [(2, .int (nI ((12241 * kk0) + 7001))), (0, .ref b), (1, .int (nI kk0))]) hx hb dL_drawn_21 rfl hl (by decide) rfl (fun ls hl => ?_)
    refine lv_iload_n hx hb dL_drawn_22 rfl (lv_at hl 0 rfl) ?_
    refine lv_ldc (v := 1073741823) hx hb hown (hts (.constant RL 7 (1073741823)) (by decide +kernel)) dL_drawn_23 ?_
    refine lv_iand hx hb dL_drawn_25 ?_
    exact W.iret (v := (nI ((12241 * kk0) + 7001)) &&& 1073741823) hx hb hr (fun t ht hW => ⟨(nI ((12241 * kk0) + 7001)) &&& 1073741823, rfl, and30 ((nI ((12241 * kk0) + 7001))), ht⟩) (fun q h => by cases h) dL_drawn_26
  · refine lv_aload_n hx hb dL_drawn_6 rfl (lv_at hl 0 rfl) ?_
    refine lv_iload_n hx hb dL_drawn_7 rfl (lv_at hl 1 rfl) ?_
    refine va_sld hx hb hX hbl (fun zz1 => zz1) hS (vp_in_nI c1 (by omega)) dL_drawn_8 ?_
    rw [nI_clamp (by omega)]
    refine lv_goto (tgt := 21) hx hb dL_drawn_9 (by decide) ?_
    refine lv_istore_n (lv' := [(2, .int (xs kk0)), (0, .ref b), (1, .int (nI kk0))]) hx hb dL_drawn_21 rfl hl (by decide) rfl (fun ls hl => ?_)
    refine lv_iload_n hx hb dL_drawn_22 rfl (lv_at hl 0 rfl) ?_
    refine lv_ldc (v := 1073741823) hx hb hown (hts (.constant RL 7 (1073741823)) (by decide +kernel)) dL_drawn_23 ?_
    refine lv_iand hx hb dL_drawn_25 ?_
    exact W.iret (v := (xs kk0) &&& 1073741823) hx hb hr (fun t ht hW => ⟨(xs kk0) &&& 1073741823, rfl, and30 ((xs kk0)), ht⟩) (fun q h => by cases h) dL_drawn_26
set_option maxRecDepth 100000 in
set_option maxHeartbeats 2000000 in
theorem c_L_set0 (l : Launch) (sa : Nat → Nat) (D : va_G) (k : Nat → ClassId) (ad : Nat → Nat) (M : Nat → Nat → Nat) (O : Nat → Nat → Int32) (sz : Nat) (p0 p1 p2 p3 : Int32) {M' M1 : Nat → Nat → Nat} {O' O1 : Nat → Nat → Int32} {xq : Nat} {rr : Int32} (hM : vx_Met l yX2_setCalendar wsX2_setCalendar ({ frames := 8, cells := 4, slots := 24, locals := 124 }) (va_Pc [.ref (ad 0), .int p0, .int p1, .int p2, .int p3] (zPre D k ad M O sz sa)) (zQop D k ad M M' O' (va_A (zw (20 + 2 * M 0 1) ad (cX k ad M O)) sz) xq rr) (zX (fun E => exC E xq)) 4 24 (va_A (zw (20 + 2 * M 0 1) ad (cX k ad M O)) sz)) (e1 : xq = 0 → M1 = M' ∧ O1 = O') (e2 : xq ≠ 0 → M1 = M ∧ O1 = O) : vx_Met l yL_set wsL_set ({ frames := 9, cells := 6, slots := 35, locals := 150 }) (va_Pc [.ref (ad 0), .int (nI 0), .int p0, .int p1, .int p2, .int p3] (tPre D k ad M O sz sa)) (tQ D k ad M M1 O1 (va_A (zw (20 + 2 * M 0 1) ad (cX k ad M O)) sz) (rV xq rr)) (zX (fun _ => False)) 6 35 (va_A (zw (20 + 2 * M 0 1) ad (cX k ad M O)) sz) := by
  refine vx_ofWH (cc := cL_set) (maxL := 7) (ret := (some .int)) (by decide) rfl ?_
  intro p e s m args below meth c s₁ B hml hv
  obtain ⟨rfl, ⟨⟨hsz, ⟨hP, hK⟩, hD0⟩, hE⟩, hN⟩ := hv
  have hx := B.exec
  have hb := B.bytes
  have hr := B.returns
  have hts := atoms_spec (ws := wsL_set) B.pre
  have hown : s.vm.findClass RL = some m.cls := findClass_of_methodNamed B.named
  have hlocks := B.notSynchronized
  have F : CallFix p m c cL_set 7 s _ wsL_set RL := ⟨hx, hb, hml, hown, hts⟩
  have htab : c.exceptionTable.toList = tableOf [(0, 87, 88, 32), (0, 87, 93, 35), (0, 87, 98, 37)] := vx_table (x := yL_set) B (hts _ List.mem_cons_self)
  subst hsz
  have hD := hD0.self (sz := s.heap.size)
  generalize hAe : va_A (zw (20 + 2 * M 0 1) ad (cX k ad M O)) s.heap.size = A at hD hE ⊢
  have hA : ∀ q : Nat, s.heap.size ≤ q → A q := fun q h => by rw [← hAe]; exact Or.inr h
  have hS : va_S A s.heap s.heap [] := va_S.rf
  have hP := wP_n hP
  have hD := wD_n hD
  have hl := lv_entry ([.ref (ad 0), .int (nI 0), .int p0, .int p1, .int p2, .int p3]) (n := 7) (Nat.le_of_ble_eq_true rfl)
  rw [lg_entry_eq]
  generalize (lg_sl ([.ref (ad 0), .int (nI 0), .int p0, .int p1, .int p2, .int p3]) ++ List.replicate (7 - (lg_sl ([.ref (ad 0), .int (nI 0), .int p0, .int p1, .int p2, .int p3])).length) Slot.unset).toArray = ls at hl ⊢
  have hl : lv_has ls 7 [(0, .ref (ad 0)), (1, .int (nI 0)), (2, .int p0), (3, .int p1), (4, .int p2), (5, .int p3)] := hl
  refine lv_iload_n hx hb dL_set_0 rfl (lv_at hl 1 rfl) ?_
  refine z_ifn_neF (tgt := 17) F dL_set_1 (by decide) ?_
  refine lv_aload_n hx hb dL_set_4 rfl (lv_at hl 0 rfl) ?_
  refine lv_iload_n hx hb dL_set_5 rfl (lv_at hl 2 rfl) ?_
  refine lv_iload_n hx hb dL_set_6 rfl (lv_at hl 3 rfl) ?_
  refine lv_iload hx hb dL_set_7 (lv_at hl 4 rfl) ?_
  refine lv_iload hx hb dL_set_9 (lv_at hl 5 rfl) ?_
  refine lx_call (wb := []) (As := [.int p0, .int p1, .int p2, .int p3]) (rest := []) F hM (cwV 4 hts gL_set_X2_setCalendar rfl rfl rfl (by decide +kernel) ⟨Nat.le_of_ble_eq_true rfl, Nat.le_of_ble_eq_true rfl⟩) hK hP hD hS hA hE rfl hl.1 rfl (Nat.le_of_ble_eq_true rfl) dL_set_11 ⟨Nat.le_of_ble_eq_true rfl, Nat.le_of_ble_eq_true rfl⟩ (fun E ce q9 H1 locs1 hEx hP1 hS1 hce hcv hcl => ?_) (fun ad1 H1 locs1 h0 had hP hD hS => ?_)
  · rcases hEx with ⟨h1, rfl⟩ | ⟨h1, rfl⟩ | ⟨h1, rfl⟩
    · have h00 : xq ≠ 0 := by omega
      obtain ⟨e3, e4⟩ := e2 h00
      rw [e3, e4]
      refine vx_catch hown [] ⟨0, 87, 88, 32⟩ [⟨0, 87, 93, 35⟩, ⟨0, 87, 98, 37⟩] (by rw [htab]; rfl) (fun zq hz => absurd hz List.not_mem_nil) (by decide) (by decide) (hts (.classLink RL 32 exI) (by decide +kernel)) (va_Nw.use rfl hE.2.2.1.1) hce hcv hcl ?_
      refine lv_astore (lv' := [(6, .ref q9), (0, .ref (ad 0)), (1, .int (nI 0)), (2, .int p0), (3, .int p1), (4, .int p2), (5, .int p3)]) hx hb dL_set_88 hl (by decide) rfl (fun ls hl => ?_)
      refine lv_ldc (v := (-3000000)) hx hb hown (hts (.constant RL 34 ((-3000000))) (by decide +kernel)) dL_set_90 ?_
      refine vx_ret (mc := 6) (ms := 35) (W.widen (k := 6) (n := 35) (Nat.le_of_ble_eq_true rfl) (Nat.le_of_ble_eq_true rfl) ?_)
      exact W.iret (v := (-3000000)) hx hb hr (fun t ht hW => ⟨⟨(-3000000), ad, rfl, rV_x h00, ⟨⟨by rw [ht]; exact wP_l hP1, va_K.moved hW.alike hK⟩, wD_l hD⟩, fun _ _ => rfl⟩, hS1.F ht⟩) hS1.2.2 dL_set_92
    · have h00 : xq ≠ 0 := by omega
      obtain ⟨e3, e4⟩ := e2 h00
      rw [e3, e4]
      refine vx_catch hown [⟨0, 87, 88, 32⟩] ⟨0, 87, 93, 35⟩ [⟨0, 87, 98, 37⟩] (by rw [htab]; rfl) (fun zq hz => by rw [List.mem_singleton.mp hz]; exact Or.inr ⟨by decide, exI, hts (.classLink RL 32 exI) (by decide +kernel), hN.1⟩) (by decide) (by decide) (hts (.classLink RL 35 exA) (by decide +kernel)) (va_Nw.use rfl hE.2.2.1.2.1) hce hcv hcl ?_
      refine lv_astore (lv' := [(6, .ref q9), (0, .ref (ad 0)), (1, .int (nI 0)), (2, .int p0), (3, .int p1), (4, .int p2), (5, .int p3)]) hx hb dL_set_93 hl (by decide) rfl (fun ls hl => ?_)
      refine lv_ldc (v := (-3000000)) hx hb hown (hts (.constant RL 34 ((-3000000))) (by decide +kernel)) dL_set_95 ?_
      refine vx_ret (mc := 6) (ms := 35) (W.widen (k := 6) (n := 35) (Nat.le_of_ble_eq_true rfl) (Nat.le_of_ble_eq_true rfl) ?_)
      exact W.iret (v := (-3000000)) hx hb hr (fun t ht hW => ⟨⟨(-3000000), ad, rfl, rV_x h00, ⟨⟨by rw [ht]; exact wP_l hP1, va_K.moved hW.alike hK⟩, wD_l hD⟩, fun _ _ => rfl⟩, hS1.F ht⟩) hS1.2.2 dL_set_97
    · have h00 : xq ≠ 0 := by omega
      obtain ⟨e3, e4⟩ := e2 h00
      rw [e3, e4]
      have hps : ∀ zq ∈ ([⟨0, 87, 88, 32⟩, ⟨0, 87, 93, 35⟩] : List ExceptionTableEntry), covers zq 11 = false ∨ (zq.catchType ≠ 0 ∧ ∃ nm : String, (Cond.classLink RL zq.catchType nm).before (#[.ref (ad 0), .int (nI 0), .int p0, .int p1, .int p2, .int p3] : Array Value) s = true ∧ va_Nc exS nm s) := by
        intro zq hz
        rcases List.mem_cons.mp hz with hz | hz
        · rw [hz]; exact Or.inr ⟨by decide, exI, hts (.classLink RL 32 exI) (by decide +kernel), hN.2.1⟩
        · rw [List.mem_singleton.mp hz]; exact Or.inr ⟨by decide, exA, hts (.classLink RL 35 exA) (by decide +kernel), hN.2.2⟩
      refine vx_catch hown [⟨0, 87, 88, 32⟩, ⟨0, 87, 93, 35⟩] ⟨0, 87, 98, 37⟩ [] (by rw [htab]; rfl) hps (by decide) (by decide) (hts (.classLink RL 37 exS) (by decide +kernel)) (va_Nw.use rfl hE.2.2.1.2.2) hce hcv hcl ?_
      refine lv_astore (lv' := [(6, .ref q9), (0, .ref (ad 0)), (1, .int (nI 0)), (2, .int p0), (3, .int p1), (4, .int p2), (5, .int p3)]) hx hb dL_set_98 hl (by decide) rfl (fun ls hl => ?_)
      refine lv_ldc (v := (-3000000)) hx hb hown (hts (.constant RL 34 ((-3000000))) (by decide +kernel)) dL_set_100 ?_
      refine vx_ret (mc := 6) (ms := 35) (W.widen (k := 6) (n := 35) (Nat.le_of_ble_eq_true rfl) (Nat.le_of_ble_eq_true rfl) ?_)
      exact W.iret (v := (-3000000)) hx hb hr (fun t ht hW => ⟨⟨(-3000000), ad, rfl, rV_x h00, ⟨⟨by rw [ht]; exact wP_l hP1, va_K.moved hW.alike hK⟩, wD_l hD⟩, fun _ _ => rfl⟩, hS1.F ht⟩) hS1.2.2 dL_set_102
  · obtain ⟨e3, e4⟩ := e1 h0
    rw [e3, e4]
    refine lv_goto (tgt := 87) hx hb dL_set_14 (by decide) ?_
    refine vx_ret (mc := 6) (ms := 35) (W.widen (k := 6) (n := 35) (Nat.le_of_ble_eq_true rfl) (Nat.le_of_ble_eq_true rfl) ?_)
    exact W.iret (v := rr) hx hb hr (fun t ht hW => ⟨⟨rr, ad1, rfl, rV_0 h0, ⟨⟨by rw [ht]; exact wP_l hP, va_K.moved hW.alike hK⟩, wD_l hD⟩, had⟩, hS.F ht⟩) hS.2.2 dL_set_87
set_option maxRecDepth 100000 in
set_option maxHeartbeats 2000000 in
theorem c_L_set1 (l : Launch) (sa : Nat → Nat) (D : va_G) (k : Nat → ClassId) (ad : Nat → Nat) (M : Nat → Nat → Nat) (O : Nat → Nat → Int32) (sz : Nat) (p0 p1 p2 p3 : Int32) {M' M1 : Nat → Nat → Nat} {O' O1 : Nat → Nat → Int32} {xq : Nat} {rr : Int32} (hM : vx_Met l yX2_addContract wsX2_addContract ({ frames := 8, cells := 5, slots := 30, locals := 124 }) (va_Pc [.ref (ad 0), .int p0, .int p1, .int p2, .int p3] (zPre D k ad M O sz sa)) (zQop D k ad M M' O' (va_A (zw (20 + 2 * M 0 1) ad (cX k ad M O)) sz) xq rr) (zX (fun E => exC E xq)) 5 30 (va_A (zw (20 + 2 * M 0 1) ad (cX k ad M O)) sz)) (e1 : xq = 0 → M1 = M' ∧ O1 = O') (e2 : xq ≠ 0 → M1 = M ∧ O1 = O) : vx_Met l yL_set wsL_set ({ frames := 9, cells := 6, slots := 35, locals := 150 }) (va_Pc [.ref (ad 0), .int (nI 1), .int p0, .int p1, .int p2, .int p3] (tPre D k ad M O sz sa)) (tQ D k ad M M1 O1 (va_A (zw (20 + 2 * M 0 1) ad (cX k ad M O)) sz) (rV xq rr)) (zX (fun _ => False)) 6 35 (va_A (zw (20 + 2 * M 0 1) ad (cX k ad M O)) sz) := by
  refine vx_ofWH (cc := cL_set) (maxL := 7) (ret := (some .int)) (by decide) rfl ?_
  intro p e s m args below meth c s₁ B hml hv
  obtain ⟨rfl, ⟨⟨hsz, ⟨hP, hK⟩, hD0⟩, hE⟩, hN⟩ := hv
  have hx := B.exec
  have hb := B.bytes
  have hr := B.returns
  have hts := atoms_spec (ws := wsL_set) B.pre
  have hown : s.vm.findClass RL = some m.cls := findClass_of_methodNamed B.named
  have hlocks := B.notSynchronized
  have F : CallFix p m c cL_set 7 s _ wsL_set RL := ⟨hx, hb, hml, hown, hts⟩
  have htab : c.exceptionTable.toList = tableOf [(0, 87, 88, 32), (0, 87, 93, 35), (0, 87, 98, 37)] := vx_table (x := yL_set) B (hts _ List.mem_cons_self)
  subst hsz
  have hD := hD0.self (sz := s.heap.size)
  generalize hAe : va_A (zw (20 + 2 * M 0 1) ad (cX k ad M O)) s.heap.size = A at hD hE ⊢
  have hA : ∀ q : Nat, s.heap.size ≤ q → A q := fun q h => by rw [← hAe]; exact Or.inr h
  have hS : va_S A s.heap s.heap [] := va_S.rf
  have hP := wP_n hP
  have hD := wD_n hD
  have hl := lv_entry ([.ref (ad 0), .int (nI 1), .int p0, .int p1, .int p2, .int p3]) (n := 7) (Nat.le_of_ble_eq_true rfl)
  rw [lg_entry_eq]
  generalize (lg_sl ([.ref (ad 0), .int (nI 1), .int p0, .int p1, .int p2, .int p3]) ++ List.replicate (7 - (lg_sl ([.ref (ad 0), .int (nI 1), .int p0, .int p1, .int p2, .int p3])).length) Slot.unset).toArray = ls at hl ⊢
  have hl : lv_has ls 7 [(0, .ref (ad 0)), (1, .int (nI 1)), (2, .int p0), (3, .int p1), (4, .int p2), (5, .int p3)] := hl
  refine lv_iload_n hx hb dL_set_0 rfl (lv_at hl 1 rfl) ?_
  refine z_ifn_neT (tgt := 17) F (by decide) dL_set_1 (by decide) ?_
  refine lv_iload_n hx hb dL_set_17 rfl (lv_at hl 1 rfl) ?_
  refine lv_iconst (v := nI 1) hx hb dL_set_18 (by decide) ?_
  refine z_icmp_ne (tgt := 35) F (by omega) (by omega) dL_set_19 (by decide) (fun zc => absurd zc (by decide)) (fun _ => ?_)
  refine lv_aload_n hx hb dL_set_22 rfl (lv_at hl 0 rfl) ?_
  refine lv_iload_n hx hb dL_set_23 rfl (lv_at hl 2 rfl) ?_
  refine lv_iload_n hx hb dL_set_24 rfl (lv_at hl 3 rfl) ?_
  refine lv_iload hx hb dL_set_25 (lv_at hl 4 rfl) ?_
  refine lv_iload hx hb dL_set_27 (lv_at hl 5 rfl) ?_
  refine lx_call (wb := []) (As := [.int p0, .int p1, .int p2, .int p3]) (rest := []) F hM (cwV 4 hts gL_set_X2_addContract rfl rfl rfl (by decide +kernel) ⟨Nat.le_of_ble_eq_true rfl, Nat.le_of_ble_eq_true rfl⟩) hK hP hD hS hA hE rfl hl.1 rfl (Nat.le_of_ble_eq_true rfl) dL_set_29 ⟨Nat.le_of_ble_eq_true rfl, Nat.le_of_ble_eq_true rfl⟩ (fun E ce q9 H1 locs1 hEx hP1 hS1 hce hcv hcl => ?_) (fun ad1 H1 locs1 h0 had hP hD hS => ?_)
  · rcases hEx with ⟨h1, rfl⟩ | ⟨h1, rfl⟩ | ⟨h1, rfl⟩
    · have h00 : xq ≠ 0 := by omega
      obtain ⟨e3, e4⟩ := e2 h00
      rw [e3, e4]
      refine vx_catch hown [] ⟨0, 87, 88, 32⟩ [⟨0, 87, 93, 35⟩, ⟨0, 87, 98, 37⟩] (by rw [htab]; rfl) (fun zq hz => absurd hz List.not_mem_nil) (by decide) (by decide) (hts (.classLink RL 32 exI) (by decide +kernel)) (va_Nw.use rfl hE.2.2.1.1) hce hcv hcl ?_
      refine lv_astore (lv' := [(6, .ref q9), (0, .ref (ad 0)), (1, .int (nI 1)), (2, .int p0), (3, .int p1), (4, .int p2), (5, .int p3)]) hx hb dL_set_88 hl (by decide) rfl (fun ls hl => ?_)
      refine lv_ldc (v := (-3000000)) hx hb hown (hts (.constant RL 34 ((-3000000))) (by decide +kernel)) dL_set_90 ?_
      refine vx_ret (mc := 6) (ms := 35) (W.widen (k := 6) (n := 35) (Nat.le_of_ble_eq_true rfl) (Nat.le_of_ble_eq_true rfl) ?_)
      exact W.iret (v := (-3000000)) hx hb hr (fun t ht hW => ⟨⟨(-3000000), ad, rfl, rV_x h00, ⟨⟨by rw [ht]; exact wP_l hP1, va_K.moved hW.alike hK⟩, wD_l hD⟩, fun _ _ => rfl⟩, hS1.F ht⟩) hS1.2.2 dL_set_92
    · have h00 : xq ≠ 0 := by omega
      obtain ⟨e3, e4⟩ := e2 h00
      rw [e3, e4]
      refine vx_catch hown [⟨0, 87, 88, 32⟩] ⟨0, 87, 93, 35⟩ [⟨0, 87, 98, 37⟩] (by rw [htab]; rfl) (fun zq hz => by rw [List.mem_singleton.mp hz]; exact Or.inr ⟨by decide, exI, hts (.classLink RL 32 exI) (by decide +kernel), hN.1⟩) (by decide) (by decide) (hts (.classLink RL 35 exA) (by decide +kernel)) (va_Nw.use rfl hE.2.2.1.2.1) hce hcv hcl ?_
      refine lv_astore (lv' := [(6, .ref q9), (0, .ref (ad 0)), (1, .int (nI 1)), (2, .int p0), (3, .int p1), (4, .int p2), (5, .int p3)]) hx hb dL_set_93 hl (by decide) rfl (fun ls hl => ?_)
      refine lv_ldc (v := (-3000000)) hx hb hown (hts (.constant RL 34 ((-3000000))) (by decide +kernel)) dL_set_95 ?_
      refine vx_ret (mc := 6) (ms := 35) (W.widen (k := 6) (n := 35) (Nat.le_of_ble_eq_true rfl) (Nat.le_of_ble_eq_true rfl) ?_)
      exact W.iret (v := (-3000000)) hx hb hr (fun t ht hW => ⟨⟨(-3000000), ad, rfl, rV_x h00, ⟨⟨by rw [ht]; exact wP_l hP1, va_K.moved hW.alike hK⟩, wD_l hD⟩, fun _ _ => rfl⟩, hS1.F ht⟩) hS1.2.2 dL_set_97
    · have h00 : xq ≠ 0 := by omega
      obtain ⟨e3, e4⟩ := e2 h00
      rw [e3, e4]
      have hps : ∀ zq ∈ ([⟨0, 87, 88, 32⟩, ⟨0, 87, 93, 35⟩] : List ExceptionTableEntry), covers zq 29 = false ∨ (zq.catchType ≠ 0 ∧ ∃ nm : String, (Cond.classLink RL zq.catchType nm).before (#[.ref (ad 0), .int (nI 1), .int p0, .int p1, .int p2, .int p3] : Array Value) s = true ∧ va_Nc exS nm s) := by
        intro zq hz
        rcases List.mem_cons.mp hz with hz | hz
        · rw [hz]; exact Or.inr ⟨by decide, exI, hts (.classLink RL 32 exI) (by decide +kernel), hN.2.1⟩
        · rw [List.mem_singleton.mp hz]; exact Or.inr ⟨by decide, exA, hts (.classLink RL 35 exA) (by decide +kernel), hN.2.2⟩
      refine vx_catch hown [⟨0, 87, 88, 32⟩, ⟨0, 87, 93, 35⟩] ⟨0, 87, 98, 37⟩ [] (by rw [htab]; rfl) hps (by decide) (by decide) (hts (.classLink RL 37 exS) (by decide +kernel)) (va_Nw.use rfl hE.2.2.1.2.2) hce hcv hcl ?_
      refine lv_astore (lv' := [(6, .ref q9), (0, .ref (ad 0)), (1, .int (nI 1)), (2, .int p0), (3, .int p1), (4, .int p2), (5, .int p3)]) hx hb dL_set_98 hl (by decide) rfl (fun ls hl => ?_)
      refine lv_ldc (v := (-3000000)) hx hb hown (hts (.constant RL 34 ((-3000000))) (by decide +kernel)) dL_set_100 ?_
      refine vx_ret (mc := 6) (ms := 35) (W.widen (k := 6) (n := 35) (Nat.le_of_ble_eq_true rfl) (Nat.le_of_ble_eq_true rfl) ?_)
      exact W.iret (v := (-3000000)) hx hb hr (fun t ht hW => ⟨⟨(-3000000), ad, rfl, rV_x h00, ⟨⟨by rw [ht]; exact wP_l hP1, va_K.moved hW.alike hK⟩, wD_l hD⟩, fun _ _ => rfl⟩, hS1.F ht⟩) hS1.2.2 dL_set_102
  · obtain ⟨e3, e4⟩ := e1 h0
    rw [e3, e4]
    refine lv_goto (tgt := 87) hx hb dL_set_32 (by decide) ?_
    refine vx_ret (mc := 6) (ms := 35) (W.widen (k := 6) (n := 35) (Nat.le_of_ble_eq_true rfl) (Nat.le_of_ble_eq_true rfl) ?_)
    exact W.iret (v := rr) hx hb hr (fun t ht hW => ⟨⟨rr, ad1, rfl, rV_0 h0, ⟨⟨by rw [ht]; exact wP_l hP, va_K.moved hW.alike hK⟩, wD_l hD⟩, had⟩, hS.F ht⟩) hS.2.2 dL_set_87
set_option maxRecDepth 100000 in
set_option maxHeartbeats 2000000 in
theorem c_L_set2 (l : Launch) (sa : Nat → Nat) (D : va_G) (k : Nat → ClassId) (ad : Nat → Nat) (M : Nat → Nat → Nat) (O : Nat → Nat → Int32) (sz : Nat) (p0 p1 p2 p3 : Int32) {M' M1 : Nat → Nat → Nat} {O' O1 : Nat → Nat → Int32} {xq : Nat} {rr : Int32} (hM : vx_Met l yX2_setPromise wsX2_setPromise ({ frames := 8, cells := 3, slots := 18, locals := 124 }) (va_Pc [.ref (ad 0), .int p1, .int p2, .int p3] (zPre D k ad M O sz sa)) (zQop D k ad M M' O' (va_A (zw (20 + 2 * M 0 1) ad (cX k ad M O)) sz) xq rr) (zX (fun E => exC E xq)) 3 18 (va_A (zw (20 + 2 * M 0 1) ad (cX k ad M O)) sz)) (e1 : xq = 0 → M1 = M' ∧ O1 = O') (e2 : xq ≠ 0 → M1 = M ∧ O1 = O) : vx_Met l yL_set wsL_set ({ frames := 9, cells := 6, slots := 35, locals := 150 }) (va_Pc [.ref (ad 0), .int (nI 2), .int p0, .int p1, .int p2, .int p3] (tPre D k ad M O sz sa)) (tQ D k ad M M1 O1 (va_A (zw (20 + 2 * M 0 1) ad (cX k ad M O)) sz) (rV xq rr)) (zX (fun _ => False)) 6 35 (va_A (zw (20 + 2 * M 0 1) ad (cX k ad M O)) sz) := by
  refine vx_ofWH (cc := cL_set) (maxL := 7) (ret := (some .int)) (by decide) rfl ?_
  intro p e s m args below meth c s₁ B hml hv
  obtain ⟨rfl, ⟨⟨hsz, ⟨hP, hK⟩, hD0⟩, hE⟩, hN⟩ := hv
  have hx := B.exec
  have hb := B.bytes
  have hr := B.returns
  have hts := atoms_spec (ws := wsL_set) B.pre
  have hown : s.vm.findClass RL = some m.cls := findClass_of_methodNamed B.named
  have hlocks := B.notSynchronized
  have F : CallFix p m c cL_set 7 s _ wsL_set RL := ⟨hx, hb, hml, hown, hts⟩
  have htab : c.exceptionTable.toList = tableOf [(0, 87, 88, 32), (0, 87, 93, 35), (0, 87, 98, 37)] := vx_table (x := yL_set) B (hts _ List.mem_cons_self)
  subst hsz
  have hD := hD0.self (sz := s.heap.size)
  generalize hAe : va_A (zw (20 + 2 * M 0 1) ad (cX k ad M O)) s.heap.size = A at hD hE ⊢
  have hA : ∀ q : Nat, s.heap.size ≤ q → A q := fun q h => by rw [← hAe]; exact Or.inr h
  have hS : va_S A s.heap s.heap [] := va_S.rf
  have hP := wP_n hP
  have hD := wD_n hD
  have hl := lv_entry ([.ref (ad 0), .int (nI 2), .int p0, .int p1, .int p2, .int p3]) (n := 7) (Nat.le_of_ble_eq_true rfl)
  rw [lg_entry_eq]
  generalize (lg_sl ([.ref (ad 0), .int (nI 2), .int p0, .int p1, .int p2, .int p3]) ++ List.replicate (7 - (lg_sl ([.ref (ad 0), .int (nI 2), .int p0, .int p1, .int p2, .int p3])).length) Slot.unset).toArray = ls at hl ⊢
  have hl : lv_has ls 7 [(0, .ref (ad 0)), (1, .int (nI 2)), (2, .int p0), (3, .int p1), (4, .int p2), (5, .int p3)] := hl
  refine lv_iload_n hx hb dL_set_0 rfl (lv_at hl 1 rfl) ?_
  refine z_ifn_neT (tgt := 17) F (by decide) dL_set_1 (by decide) ?_
  refine lv_iload_n hx hb dL_set_17 rfl (lv_at hl 1 rfl) ?_
  refine lv_iconst (v := nI 1) hx hb dL_set_18 (by decide) ?_
  refine z_icmp_ne (tgt := 35) F (by omega) (by omega) dL_set_19 (by decide) (fun _ => ?_) (fun zc => absurd zc (by decide))
  refine lv_iload_n hx hb dL_set_35 rfl (lv_at hl 1 rfl) ?_
  refine lv_iconst (v := nI 2) hx hb dL_set_36 (by decide) ?_
  refine z_icmp_ne (tgt := 52) F (by omega) (by omega) dL_set_37 (by decide) (fun zc => absurd zc (by decide)) (fun _ => ?_)
  refine lv_aload_n hx hb dL_set_40 rfl (lv_at hl 0 rfl) ?_
  refine lv_iload_n hx hb dL_set_41 rfl (lv_at hl 3 rfl) ?_
  refine lv_iload hx hb dL_set_42 (lv_at hl 4 rfl) ?_
  refine lv_iload hx hb dL_set_44 (lv_at hl 5 rfl) ?_
  refine lx_call (wb := []) (As := [.int p1, .int p2, .int p3]) (rest := []) F hM (cwV 3 hts gL_set_X2_setPromise rfl rfl rfl (by decide +kernel) ⟨Nat.le_of_ble_eq_true rfl, Nat.le_of_ble_eq_true rfl⟩) hK hP hD hS hA hE rfl hl.1 rfl (Nat.le_of_ble_eq_true rfl) dL_set_46 ⟨Nat.le_of_ble_eq_true rfl, Nat.le_of_ble_eq_true rfl⟩ (fun E ce q9 H1 locs1 hEx hP1 hS1 hce hcv hcl => ?_) (fun ad1 H1 locs1 h0 had hP hD hS => ?_)
  · rcases hEx with ⟨h1, rfl⟩ | ⟨h1, rfl⟩ | ⟨h1, rfl⟩
    · have h00 : xq ≠ 0 := by omega
      obtain ⟨e3, e4⟩ := e2 h00
      rw [e3, e4]
      refine vx_catch hown [] ⟨0, 87, 88, 32⟩ [⟨0, 87, 93, 35⟩, ⟨0, 87, 98, 37⟩] (by rw [htab]; rfl) (fun zq hz => absurd hz List.not_mem_nil) (by decide) (by decide) (hts (.classLink RL 32 exI) (by decide +kernel)) (va_Nw.use rfl hE.2.2.1.1) hce hcv hcl ?_
      refine lv_astore (lv' := [(6, .ref q9), (0, .ref (ad 0)), (1, .int (nI 2)), (2, .int p0), (3, .int p1), (4, .int p2), (5, .int p3)]) hx hb dL_set_88 hl (by decide) rfl (fun ls hl => ?_)
      refine lv_ldc (v := (-3000000)) hx hb hown (hts (.constant RL 34 ((-3000000))) (by decide +kernel)) dL_set_90 ?_
      refine vx_ret (mc := 6) (ms := 35) (W.widen (k := 6) (n := 35) (Nat.le_of_ble_eq_true rfl) (Nat.le_of_ble_eq_true rfl) ?_)
      exact W.iret (v := (-3000000)) hx hb hr (fun t ht hW => ⟨⟨(-3000000), ad, rfl, rV_x h00, ⟨⟨by rw [ht]; exact wP_l hP1, va_K.moved hW.alike hK⟩, wD_l hD⟩, fun _ _ => rfl⟩, hS1.F ht⟩) hS1.2.2 dL_set_92
    · have h00 : xq ≠ 0 := by omega
      obtain ⟨e3, e4⟩ := e2 h00
      rw [e3, e4]
      refine vx_catch hown [⟨0, 87, 88, 32⟩] ⟨0, 87, 93, 35⟩ [⟨0, 87, 98, 37⟩] (by rw [htab]; rfl) (fun zq hz => by rw [List.mem_singleton.mp hz]; exact Or.inr ⟨by decide, exI, hts (.classLink RL 32 exI) (by decide +kernel), hN.1⟩) (by decide) (by decide) (hts (.classLink RL 35 exA) (by decide +kernel)) (va_Nw.use rfl hE.2.2.1.2.1) hce hcv hcl ?_
      refine lv_astore (lv' := [(6, .ref q9), (0, .ref (ad 0)), (1, .int (nI 2)), (2, .int p0), (3, .int p1), (4, .int p2), (5, .int p3)]) hx hb dL_set_93 hl (by decide) rfl (fun ls hl => ?_)
      refine lv_ldc (v := (-3000000)) hx hb hown (hts (.constant RL 34 ((-3000000))) (by decide +kernel)) dL_set_95 ?_
      refine vx_ret (mc := 6) (ms := 35) (W.widen (k := 6) (n := 35) (Nat.le_of_ble_eq_true rfl) (Nat.le_of_ble_eq_true rfl) ?_)
      exact W.iret (v := (-3000000)) hx hb hr (fun t ht hW => ⟨⟨(-3000000), ad, rfl, rV_x h00, ⟨⟨by rw [ht]; exact wP_l hP1, va_K.moved hW.alike hK⟩, wD_l hD⟩, fun _ _ => rfl⟩, hS1.F ht⟩) hS1.2.2 dL_set_97
    · have h00 : xq ≠ 0 := by omega
      obtain ⟨e3, e4⟩ := e2 h00
      rw [e3, e4]
      have hps : ∀ zq ∈ ([⟨0, 87, 88, 32⟩, ⟨0, 87, 93, 35⟩] : List ExceptionTableEntry), covers zq 46 = false ∨ (zq.catchType ≠ 0 ∧ ∃ nm : String, (Cond.classLink RL zq.catchType nm).before (#[.ref (ad 0), .int (nI 2), .int p0, .int p1, .int p2, .int p3] : Array Value) s = true ∧ va_Nc exS nm s) := by
        intro zq hz
        rcases List.mem_cons.mp hz with hz | hz
        · rw [hz]; exact Or.inr ⟨by decide, exI, hts (.classLink RL 32 exI) (by decide +kernel), hN.2.1⟩
        · rw [List.mem_singleton.mp hz]; exact Or.inr ⟨by decide, exA, hts (.classLink RL 35 exA) (by decide +kernel), hN.2.2⟩
      refine vx_catch hown [⟨0, 87, 88, 32⟩, ⟨0, 87, 93, 35⟩] ⟨0, 87, 98, 37⟩ [] (by rw [htab]; rfl) hps (by decide) (by decide) (hts (.classLink RL 37 exS) (by decide +kernel)) (va_Nw.use rfl hE.2.2.1.2.2) hce hcv hcl ?_
      refine lv_astore (lv' := [(6, .ref q9), (0, .ref (ad 0)), (1, .int (nI 2)), (2, .int p0), (3, .int p1), (4, .int p2), (5, .int p3)]) hx hb dL_set_98 hl (by decide) rfl (fun ls hl => ?_)
      refine lv_ldc (v := (-3000000)) hx hb hown (hts (.constant RL 34 ((-3000000))) (by decide +kernel)) dL_set_100 ?_
      refine vx_ret (mc := 6) (ms := 35) (W.widen (k := 6) (n := 35) (Nat.le_of_ble_eq_true rfl) (Nat.le_of_ble_eq_true rfl) ?_)
      exact W.iret (v := (-3000000)) hx hb hr (fun t ht hW => ⟨⟨(-3000000), ad, rfl, rV_x h00, ⟨⟨by rw [ht]; exact wP_l hP1, va_K.moved hW.alike hK⟩, wD_l hD⟩, fun _ _ => rfl⟩, hS1.F ht⟩) hS1.2.2 dL_set_102
  · obtain ⟨e3, e4⟩ := e1 h0
    rw [e3, e4]
    refine lv_goto (tgt := 87) hx hb dL_set_49 (by decide) ?_
    refine vx_ret (mc := 6) (ms := 35) (W.widen (k := 6) (n := 35) (Nat.le_of_ble_eq_true rfl) (Nat.le_of_ble_eq_true rfl) ?_)
    exact W.iret (v := rr) hx hb hr (fun t ht hW => ⟨⟨rr, ad1, rfl, rV_0 h0, ⟨⟨by rw [ht]; exact wP_l hP, va_K.moved hW.alike hK⟩, wD_l hD⟩, had⟩, hS.F ht⟩) hS.2.2 dL_set_87
set_option maxRecDepth 100000 in
set_option maxHeartbeats 2000000 in
theorem c_L_set3 (l : Launch) (sa : Nat → Nat) (D : va_G) (k : Nat → ClassId) (ad : Nat → Nat) (M : Nat → Nat → Nat) (O : Nat → Nat → Int32) (sz : Nat) (p0 p1 p2 p3 : Int32) {M' M1 : Nat → Nat → Nat} {O' O1 : Nat → Nat → Int32} {xq : Nat} {rr : Int32} (hM : vx_Met l yX2_pass wsX2_pass ({ frames := 8, cells := 2, slots := 12, locals := 124 }) (va_Pc [.ref (ad 0), .int p1] (zPre D k ad M O sz sa)) (zQop D k ad M M' O' (va_A (zw (20 + 2 * M 0 1) ad (cX k ad M O)) sz) xq rr) (zX (fun E => exC E xq)) 2 12 (va_A (zw (20 + 2 * M 0 1) ad (cX k ad M O)) sz)) (e1 : xq = 0 → M1 = M' ∧ O1 = O') (e2 : xq ≠ 0 → M1 = M ∧ O1 = O) : vx_Met l yL_set wsL_set ({ frames := 9, cells := 6, slots := 35, locals := 150 }) (va_Pc [.ref (ad 0), .int (nI 3), .int p0, .int p1, .int p2, .int p3] (tPre D k ad M O sz sa)) (tQ D k ad M M1 O1 (va_A (zw (20 + 2 * M 0 1) ad (cX k ad M O)) sz) (rV xq rr)) (zX (fun _ => False)) 6 35 (va_A (zw (20 + 2 * M 0 1) ad (cX k ad M O)) sz) := by
  refine vx_ofWH (cc := cL_set) (maxL := 7) (ret := (some .int)) (by decide) rfl ?_
  intro p e s m args below meth c s₁ B hml hv
  obtain ⟨rfl, ⟨⟨hsz, ⟨hP, hK⟩, hD0⟩, hE⟩, hN⟩ := hv
  have hx := B.exec
  have hb := B.bytes
  have hr := B.returns
  have hts := atoms_spec (ws := wsL_set) B.pre
  have hown : s.vm.findClass RL = some m.cls := findClass_of_methodNamed B.named
  have hlocks := B.notSynchronized
  have F : CallFix p m c cL_set 7 s _ wsL_set RL := ⟨hx, hb, hml, hown, hts⟩
  have htab : c.exceptionTable.toList = tableOf [(0, 87, 88, 32), (0, 87, 93, 35), (0, 87, 98, 37)] := vx_table (x := yL_set) B (hts _ List.mem_cons_self)
  subst hsz
  have hD := hD0.self (sz := s.heap.size)
  generalize hAe : va_A (zw (20 + 2 * M 0 1) ad (cX k ad M O)) s.heap.size = A at hD hE ⊢
  have hA : ∀ q : Nat, s.heap.size ≤ q → A q := fun q h => by rw [← hAe]; exact Or.inr h
  have hS : va_S A s.heap s.heap [] := va_S.rf
  have hP := wP_n hP
  have hD := wD_n hD
  have hl := lv_entry ([.ref (ad 0), .int (nI 3), .int p0, .int p1, .int p2, .int p3]) (n := 7) (Nat.le_of_ble_eq_true rfl)
  rw [lg_entry_eq]
  generalize (lg_sl ([.ref (ad 0), .int (nI 3), .int p0, .int p1, .int p2, .int p3]) ++ List.replicate (7 - (lg_sl ([.ref (ad 0), .int (nI 3), .int p0, .int p1, .int p2, .int p3])).length) Slot.unset).toArray = ls at hl ⊢
  have hl : lv_has ls 7 [(0, .ref (ad 0)), (1, .int (nI 3)), (2, .int p0), (3, .int p1), (4, .int p2), (5, .int p3)] := hl
  refine lv_iload_n hx hb dL_set_0 rfl (lv_at hl 1 rfl) ?_
  refine z_ifn_neT (tgt := 17) F (by decide) dL_set_1 (by decide) ?_
  refine lv_iload_n hx hb dL_set_17 rfl (lv_at hl 1 rfl) ?_
  refine lv_iconst (v := nI 1) hx hb dL_set_18 (by decide) ?_
  refine z_icmp_ne (tgt := 35) F (by omega) (by omega) dL_set_19 (by decide) (fun _ => ?_) (fun zc => absurd zc (by decide))
  refine lv_iload_n hx hb dL_set_35 rfl (lv_at hl 1 rfl) ?_
  refine lv_iconst (v := nI 2) hx hb dL_set_36 (by decide) ?_
  refine z_icmp_ne (tgt := 52) F (by omega) (by omega) dL_set_37 (by decide) (fun _ => ?_) (fun zc => absurd zc (by decide))
  refine lv_iload_n hx hb dL_set_52 rfl (lv_at hl 1 rfl) ?_
  refine lv_iconst (v := nI 3) hx hb dL_set_53 (by decide) ?_
  refine z_icmp_ne (tgt := 65) F (by omega) (by omega) dL_set_54 (by decide) (fun zc => absurd zc (by decide)) (fun _ => ?_)
  refine lv_aload_n hx hb dL_set_57 rfl (lv_at hl 0 rfl) ?_
  refine lv_iload_n hx hb dL_set_58 rfl (lv_at hl 3 rfl) ?_
  refine lx_call (wb := []) (As := [.int p1]) (rest := []) F hM (cwV 1 hts gL_set_X2_pass rfl rfl rfl (by decide +kernel) ⟨Nat.le_of_ble_eq_true rfl, Nat.le_of_ble_eq_true rfl⟩) hK hP hD hS hA hE rfl hl.1 rfl (Nat.le_of_ble_eq_true rfl) dL_set_59 ⟨Nat.le_of_ble_eq_true rfl, Nat.le_of_ble_eq_true rfl⟩ (fun E ce q9 H1 locs1 hEx hP1 hS1 hce hcv hcl => ?_) (fun ad1 H1 locs1 h0 had hP hD hS => ?_)
  · rcases hEx with ⟨h1, rfl⟩ | ⟨h1, rfl⟩ | ⟨h1, rfl⟩
    · have h00 : xq ≠ 0 := by omega
      obtain ⟨e3, e4⟩ := e2 h00
      rw [e3, e4]
      refine vx_catch hown [] ⟨0, 87, 88, 32⟩ [⟨0, 87, 93, 35⟩, ⟨0, 87, 98, 37⟩] (by rw [htab]; rfl) (fun zq hz => absurd hz List.not_mem_nil) (by decide) (by decide) (hts (.classLink RL 32 exI) (by decide +kernel)) (va_Nw.use rfl hE.2.2.1.1) hce hcv hcl ?_
      refine lv_astore (lv' := [(6, .ref q9), (0, .ref (ad 0)), (1, .int (nI 3)), (2, .int p0), (3, .int p1), (4, .int p2), (5, .int p3)]) hx hb dL_set_88 hl (by decide) rfl (fun ls hl => ?_)
      refine lv_ldc (v := (-3000000)) hx hb hown (hts (.constant RL 34 ((-3000000))) (by decide +kernel)) dL_set_90 ?_
      refine vx_ret (mc := 6) (ms := 35) (W.widen (k := 6) (n := 35) (Nat.le_of_ble_eq_true rfl) (Nat.le_of_ble_eq_true rfl) ?_)
      exact W.iret (v := (-3000000)) hx hb hr (fun t ht hW => ⟨⟨(-3000000), ad, rfl, rV_x h00, ⟨⟨by rw [ht]; exact wP_l hP1, va_K.moved hW.alike hK⟩, wD_l hD⟩, fun _ _ => rfl⟩, hS1.F ht⟩) hS1.2.2 dL_set_92
    · have h00 : xq ≠ 0 := by omega
      obtain ⟨e3, e4⟩ := e2 h00
      rw [e3, e4]
      refine vx_catch hown [⟨0, 87, 88, 32⟩] ⟨0, 87, 93, 35⟩ [⟨0, 87, 98, 37⟩] (by rw [htab]; rfl) (fun zq hz => by rw [List.mem_singleton.mp hz]; exact Or.inr ⟨by decide, exI, hts (.classLink RL 32 exI) (by decide +kernel), hN.1⟩) (by decide) (by decide) (hts (.classLink RL 35 exA) (by decide +kernel)) (va_Nw.use rfl hE.2.2.1.2.1) hce hcv hcl ?_
      refine lv_astore (lv' := [(6, .ref q9), (0, .ref (ad 0)), (1, .int (nI 3)), (2, .int p0), (3, .int p1), (4, .int p2), (5, .int p3)]) hx hb dL_set_93 hl (by decide) rfl (fun ls hl => ?_)
      refine lv_ldc (v := (-3000000)) hx hb hown (hts (.constant RL 34 ((-3000000))) (by decide +kernel)) dL_set_95 ?_
      refine vx_ret (mc := 6) (ms := 35) (W.widen (k := 6) (n := 35) (Nat.le_of_ble_eq_true rfl) (Nat.le_of_ble_eq_true rfl) ?_)
      exact W.iret (v := (-3000000)) hx hb hr (fun t ht hW => ⟨⟨(-3000000), ad, rfl, rV_x h00, ⟨⟨by rw [ht]; exact wP_l hP1, va_K.moved hW.alike hK⟩, wD_l hD⟩, fun _ _ => rfl⟩, hS1.F ht⟩) hS1.2.2 dL_set_97
    · have h00 : xq ≠ 0 := by omega
      obtain ⟨e3, e4⟩ := e2 h00
      rw [e3, e4]
      have hps : ∀ zq ∈ ([⟨0, 87, 88, 32⟩, ⟨0, 87, 93, 35⟩] : List ExceptionTableEntry), covers zq 59 = false ∨ (zq.catchType ≠ 0 ∧ ∃ nm : String, (Cond.classLink RL zq.catchType nm).before (#[.ref (ad 0), .int (nI 3), .int p0, .int p1, .int p2, .int p3] : Array Value) s = true ∧ va_Nc exS nm s) := by
        intro zq hz
        rcases List.mem_cons.mp hz with hz | hz
        · rw [hz]; exact Or.inr ⟨by decide, exI, hts (.classLink RL 32 exI) (by decide +kernel), hN.2.1⟩
        · rw [List.mem_singleton.mp hz]; exact Or.inr ⟨by decide, exA, hts (.classLink RL 35 exA) (by decide +kernel), hN.2.2⟩
      refine vx_catch hown [⟨0, 87, 88, 32⟩, ⟨0, 87, 93, 35⟩] ⟨0, 87, 98, 37⟩ [] (by rw [htab]; rfl) hps (by decide) (by decide) (hts (.classLink RL 37 exS) (by decide +kernel)) (va_Nw.use rfl hE.2.2.1.2.2) hce hcv hcl ?_
      refine lv_astore (lv' := [(6, .ref q9), (0, .ref (ad 0)), (1, .int (nI 3)), (2, .int p0), (3, .int p1), (4, .int p2), (5, .int p3)]) hx hb dL_set_98 hl (by decide) rfl (fun ls hl => ?_)
      refine lv_ldc (v := (-3000000)) hx hb hown (hts (.constant RL 34 ((-3000000))) (by decide +kernel)) dL_set_100 ?_
      refine vx_ret (mc := 6) (ms := 35) (W.widen (k := 6) (n := 35) (Nat.le_of_ble_eq_true rfl) (Nat.le_of_ble_eq_true rfl) ?_)
      exact W.iret (v := (-3000000)) hx hb hr (fun t ht hW => ⟨⟨(-3000000), ad, rfl, rV_x h00, ⟨⟨by rw [ht]; exact wP_l hP1, va_K.moved hW.alike hK⟩, wD_l hD⟩, fun _ _ => rfl⟩, hS1.F ht⟩) hS1.2.2 dL_set_102
  · obtain ⟨e3, e4⟩ := e1 h0
    rw [e3, e4]
    refine lv_goto (tgt := 87) hx hb dL_set_62 (by decide) ?_
    refine vx_ret (mc := 6) (ms := 35) (W.widen (k := 6) (n := 35) (Nat.le_of_ble_eq_true rfl) (Nat.le_of_ble_eq_true rfl) ?_)
    exact W.iret (v := rr) hx hb hr (fun t ht hW => ⟨⟨rr, ad1, rfl, rV_0 h0, ⟨⟨by rw [ht]; exact wP_l hP, va_K.moved hW.alike hK⟩, wD_l hD⟩, had⟩, hS.F ht⟩) hS.2.2 dL_set_87
set_option maxRecDepth 100000 in
set_option maxHeartbeats 2000000 in
theorem c_L_set4 (l : Launch) (sa : Nat → Nat) (D : va_G) (k : Nat → ClassId) (ad : Nat → Nat) (M : Nat → Nat → Nat) (O : Nat → Nat → Int32) (sz : Nat) (p0 p1 p2 p3 : Int32) {M' M1 : Nat → Nat → Nat} {O' O1 : Nat → Nat → Int32} {xq : Nat} {rr : Int32} (hM : vx_Met l yX2_buy wsX2_buy ({ frames := 8, cells := 2, slots := 12, locals := 124 }) (va_Pc [.ref (ad 0), .int p0, .int p1] (zPre D k ad M O sz sa)) (zQop D k ad M M' O' (va_A (zw (20 + 2 * M 0 1) ad (cX k ad M O)) sz) xq rr) (zX (fun E => exC E xq)) 2 12 (va_A (zw (20 + 2 * M 0 1) ad (cX k ad M O)) sz)) (e1 : xq = 0 → M1 = M' ∧ O1 = O') (e2 : xq ≠ 0 → M1 = M ∧ O1 = O) : vx_Met l yL_set wsL_set ({ frames := 9, cells := 6, slots := 35, locals := 150 }) (va_Pc [.ref (ad 0), .int (nI 4), .int p0, .int p1, .int p2, .int p3] (tPre D k ad M O sz sa)) (tQ D k ad M M1 O1 (va_A (zw (20 + 2 * M 0 1) ad (cX k ad M O)) sz) (rV xq rr)) (zX (fun _ => False)) 6 35 (va_A (zw (20 + 2 * M 0 1) ad (cX k ad M O)) sz) := by
  refine vx_ofWH (cc := cL_set) (maxL := 7) (ret := (some .int)) (by decide) rfl ?_
  intro p e s m args below meth c s₁ B hml hv
  obtain ⟨rfl, ⟨⟨hsz, ⟨hP, hK⟩, hD0⟩, hE⟩, hN⟩ := hv
  have hx := B.exec
  have hb := B.bytes
  have hr := B.returns
  have hts := atoms_spec (ws := wsL_set) B.pre
  have hown : s.vm.findClass RL = some m.cls := findClass_of_methodNamed B.named
  have hlocks := B.notSynchronized
  have F : CallFix p m c cL_set 7 s _ wsL_set RL := ⟨hx, hb, hml, hown, hts⟩
  have htab : c.exceptionTable.toList = tableOf [(0, 87, 88, 32), (0, 87, 93, 35), (0, 87, 98, 37)] := vx_table (x := yL_set) B (hts _ List.mem_cons_self)
  subst hsz
  have hD := hD0.self (sz := s.heap.size)
  generalize hAe : va_A (zw (20 + 2 * M 0 1) ad (cX k ad M O)) s.heap.size = A at hD hE ⊢
  have hA : ∀ q : Nat, s.heap.size ≤ q → A q := fun q h => by rw [← hAe]; exact Or.inr h
  have hS : va_S A s.heap s.heap [] := va_S.rf
  have hP := wP_n hP
  have hD := wD_n hD
  have hl := lv_entry ([.ref (ad 0), .int (nI 4), .int p0, .int p1, .int p2, .int p3]) (n := 7) (Nat.le_of_ble_eq_true rfl)
  rw [lg_entry_eq]
  generalize (lg_sl ([.ref (ad 0), .int (nI 4), .int p0, .int p1, .int p2, .int p3]) ++ List.replicate (7 - (lg_sl ([.ref (ad 0), .int (nI 4), .int p0, .int p1, .int p2, .int p3])).length) Slot.unset).toArray = ls at hl ⊢
  have hl : lv_has ls 7 [(0, .ref (ad 0)), (1, .int (nI 4)), (2, .int p0), (3, .int p1), (4, .int p2), (5, .int p3)] := hl
  refine lv_iload_n hx hb dL_set_0 rfl (lv_at hl 1 rfl) ?_
  refine z_ifn_neT (tgt := 17) F (by decide) dL_set_1 (by decide) ?_
  refine lv_iload_n hx hb dL_set_17 rfl (lv_at hl 1 rfl) ?_
  refine lv_iconst (v := nI 1) hx hb dL_set_18 (by decide) ?_
  refine z_icmp_ne (tgt := 35) F (by omega) (by omega) dL_set_19 (by decide) (fun _ => ?_) (fun zc => absurd zc (by decide))
  refine lv_iload_n hx hb dL_set_35 rfl (lv_at hl 1 rfl) ?_
  refine lv_iconst (v := nI 2) hx hb dL_set_36 (by decide) ?_
  refine z_icmp_ne (tgt := 52) F (by omega) (by omega) dL_set_37 (by decide) (fun _ => ?_) (fun zc => absurd zc (by decide))
  refine lv_iload_n hx hb dL_set_52 rfl (lv_at hl 1 rfl) ?_
  refine lv_iconst (v := nI 3) hx hb dL_set_53 (by decide) ?_
  refine z_icmp_ne (tgt := 65) F (by omega) (by omega) dL_set_54 (by decide) (fun _ => ?_) (fun zc => absurd zc (by decide))
  refine lv_iload_n hx hb dL_set_65 rfl (lv_at hl 1 rfl) ?_
  refine lv_iconst (v := nI 4) hx hb dL_set_66 (by decide) ?_
  refine z_icmp_ne (tgt := 79) F (by omega) (by omega) dL_set_67 (by decide) (fun zc => absurd zc (by decide)) (fun _ => ?_)
  refine lv_aload_n hx hb dL_set_70 rfl (lv_at hl 0 rfl) ?_
  refine lv_iload_n hx hb dL_set_71 rfl (lv_at hl 2 rfl) ?_
  refine lv_iload_n hx hb dL_set_72 rfl (lv_at hl 3 rfl) ?_
  refine lx_call (wb := []) (As := [.int p0, .int p1]) (rest := []) F hM (cwV 2 hts gL_set_X2_buy rfl rfl rfl (by decide +kernel) ⟨Nat.le_of_ble_eq_true rfl, Nat.le_of_ble_eq_true rfl⟩) hK hP hD hS hA hE rfl hl.1 rfl (Nat.le_of_ble_eq_true rfl) dL_set_73 ⟨Nat.le_of_ble_eq_true rfl, Nat.le_of_ble_eq_true rfl⟩ (fun E ce q9 H1 locs1 hEx hP1 hS1 hce hcv hcl => ?_) (fun ad1 H1 locs1 h0 had hP hD hS => ?_)
  · rcases hEx with ⟨h1, rfl⟩ | ⟨h1, rfl⟩ | ⟨h1, rfl⟩
    · have h00 : xq ≠ 0 := by omega
      obtain ⟨e3, e4⟩ := e2 h00
      rw [e3, e4]
      refine vx_catch hown [] ⟨0, 87, 88, 32⟩ [⟨0, 87, 93, 35⟩, ⟨0, 87, 98, 37⟩] (by rw [htab]; rfl) (fun zq hz => absurd hz List.not_mem_nil) (by decide) (by decide) (hts (.classLink RL 32 exI) (by decide +kernel)) (va_Nw.use rfl hE.2.2.1.1) hce hcv hcl ?_
      refine lv_astore (lv' := [(6, .ref q9), (0, .ref (ad 0)), (1, .int (nI 4)), (2, .int p0), (3, .int p1), (4, .int p2), (5, .int p3)]) hx hb dL_set_88 hl (by decide) rfl (fun ls hl => ?_)
      refine lv_ldc (v := (-3000000)) hx hb hown (hts (.constant RL 34 ((-3000000))) (by decide +kernel)) dL_set_90 ?_
      refine vx_ret (mc := 6) (ms := 35) (W.widen (k := 6) (n := 35) (Nat.le_of_ble_eq_true rfl) (Nat.le_of_ble_eq_true rfl) ?_)
      exact W.iret (v := (-3000000)) hx hb hr (fun t ht hW => ⟨⟨(-3000000), ad, rfl, rV_x h00, ⟨⟨by rw [ht]; exact wP_l hP1, va_K.moved hW.alike hK⟩, wD_l hD⟩, fun _ _ => rfl⟩, hS1.F ht⟩) hS1.2.2 dL_set_92
    · have h00 : xq ≠ 0 := by omega
      obtain ⟨e3, e4⟩ := e2 h00
      rw [e3, e4]
      refine vx_catch hown [⟨0, 87, 88, 32⟩] ⟨0, 87, 93, 35⟩ [⟨0, 87, 98, 37⟩] (by rw [htab]; rfl) (fun zq hz => by rw [List.mem_singleton.mp hz]; exact Or.inr ⟨by decide, exI, hts (.classLink RL 32 exI) (by decide +kernel), hN.1⟩) (by decide) (by decide) (hts (.classLink RL 35 exA) (by decide +kernel)) (va_Nw.use rfl hE.2.2.1.2.1) hce hcv hcl ?_
      refine lv_astore (lv' := [(6, .ref q9), (0, .ref (ad 0)), (1, .int (nI 4)), (2, .int p0), (3, .int p1), (4, .int p2), (5, .int p3)]) hx hb dL_set_93 hl (by decide) rfl (fun ls hl => ?_)
      refine lv_ldc (v := (-3000000)) hx hb hown (hts (.constant RL 34 ((-3000000))) (by decide +kernel)) dL_set_95 ?_
      refine vx_ret (mc := 6) (ms := 35) (W.widen (k := 6) (n := 35) (Nat.le_of_ble_eq_true rfl) (Nat.le_of_ble_eq_true rfl) ?_)
      exact W.iret (v := (-3000000)) hx hb hr (fun t ht hW => ⟨⟨(-3000000), ad, rfl, rV_x h00, ⟨⟨by rw [ht]; exact wP_l hP1, va_K.moved hW.alike hK⟩, wD_l hD⟩, fun _ _ => rfl⟩, hS1.F ht⟩) hS1.2.2 dL_set_97
    · have h00 : xq ≠ 0 := by omega
      obtain ⟨e3, e4⟩ := e2 h00
      rw [e3, e4]
      have hps : ∀ zq ∈ ([⟨0, 87, 88, 32⟩, ⟨0, 87, 93, 35⟩] : List ExceptionTableEntry), covers zq 73 = false ∨ (zq.catchType ≠ 0 ∧ ∃ nm : String, (Cond.classLink RL zq.catchType nm).before (#[.ref (ad 0), .int (nI 4), .int p0, .int p1, .int p2, .int p3] : Array Value) s = true ∧ va_Nc exS nm s) := by
        intro zq hz
        rcases List.mem_cons.mp hz with hz | hz
        · rw [hz]; exact Or.inr ⟨by decide, exI, hts (.classLink RL 32 exI) (by decide +kernel), hN.2.1⟩
        · rw [List.mem_singleton.mp hz]; exact Or.inr ⟨by decide, exA, hts (.classLink RL 35 exA) (by decide +kernel), hN.2.2⟩
      refine vx_catch hown [⟨0, 87, 88, 32⟩, ⟨0, 87, 93, 35⟩] ⟨0, 87, 98, 37⟩ [] (by rw [htab]; rfl) hps (by decide) (by decide) (hts (.classLink RL 37 exS) (by decide +kernel)) (va_Nw.use rfl hE.2.2.1.2.2) hce hcv hcl ?_
      refine lv_astore (lv' := [(6, .ref q9), (0, .ref (ad 0)), (1, .int (nI 4)), (2, .int p0), (3, .int p1), (4, .int p2), (5, .int p3)]) hx hb dL_set_98 hl (by decide) rfl (fun ls hl => ?_)
      refine lv_ldc (v := (-3000000)) hx hb hown (hts (.constant RL 34 ((-3000000))) (by decide +kernel)) dL_set_100 ?_
      refine vx_ret (mc := 6) (ms := 35) (W.widen (k := 6) (n := 35) (Nat.le_of_ble_eq_true rfl) (Nat.le_of_ble_eq_true rfl) ?_)
      exact W.iret (v := (-3000000)) hx hb hr (fun t ht hW => ⟨⟨(-3000000), ad, rfl, rV_x h00, ⟨⟨by rw [ht]; exact wP_l hP1, va_K.moved hW.alike hK⟩, wD_l hD⟩, fun _ _ => rfl⟩, hS1.F ht⟩) hS1.2.2 dL_set_102
  · obtain ⟨e3, e4⟩ := e1 h0
    rw [e3, e4]
    refine lv_goto (tgt := 87) hx hb dL_set_76 (by decide) ?_
    refine vx_ret (mc := 6) (ms := 35) (W.widen (k := 6) (n := 35) (Nat.le_of_ble_eq_true rfl) (Nat.le_of_ble_eq_true rfl) ?_)
    exact W.iret (v := rr) hx hb hr (fun t ht hW => ⟨⟨rr, ad1, rfl, rV_0 h0, ⟨⟨by rw [ht]; exact wP_l hP, va_K.moved hW.alike hK⟩, wD_l hD⟩, had⟩, hS.F ht⟩) hS.2.2 dL_set_87
set_option maxRecDepth 100000 in
set_option maxHeartbeats 2000000 in
theorem c_L_set5 (l : Launch) (sa : Nat → Nat) (D : va_G) (k : Nat → ClassId) (ad : Nat → Nat) (M : Nat → Nat → Nat) (O : Nat → Nat → Int32) (sz : Nat) (p0 p1 p2 p3 : Int32) {M' M1 : Nat → Nat → Nat} {O' O1 : Nat → Nat → Int32} {xq : Nat} {rr : Int32} (hM : vx_Met l yX2_open wsX2_open ({ frames := 8, cells := 6, slots := 35, locals := 124 }) (va_Pc [.ref (ad 0), .int p0, .int p1, .int p2] (zPre D k ad M O sz sa)) (zQop D k ad M M' O' (va_A (zw (20 + 2 * M 0 1) ad (cX k ad M O)) sz) xq rr) (zX (fun E => exC E xq)) 6 35 (va_A (zw (20 + 2 * M 0 1) ad (cX k ad M O)) sz)) (e1 : xq = 0 → M1 = M' ∧ O1 = O') (e2 : xq ≠ 0 → M1 = M ∧ O1 = O) : vx_Met l yL_set wsL_set ({ frames := 9, cells := 6, slots := 35, locals := 150 }) (va_Pc [.ref (ad 0), .int (nI 5), .int p0, .int p1, .int p2, .int p3] (tPre D k ad M O sz sa)) (tQ D k ad M M1 O1 (va_A (zw (20 + 2 * M 0 1) ad (cX k ad M O)) sz) (rV xq rr)) (zX (fun _ => False)) 6 35 (va_A (zw (20 + 2 * M 0 1) ad (cX k ad M O)) sz) := by
  refine vx_ofWH (cc := cL_set) (maxL := 7) (ret := (some .int)) (by decide) rfl ?_
  intro p e s m args below meth c s₁ B hml hv
  obtain ⟨rfl, ⟨⟨hsz, ⟨hP, hK⟩, hD0⟩, hE⟩, hN⟩ := hv
  have hx := B.exec
  have hb := B.bytes
  have hr := B.returns
  have hts := atoms_spec (ws := wsL_set) B.pre
  have hown : s.vm.findClass RL = some m.cls := findClass_of_methodNamed B.named
  have hlocks := B.notSynchronized
  have F : CallFix p m c cL_set 7 s _ wsL_set RL := ⟨hx, hb, hml, hown, hts⟩
  have htab : c.exceptionTable.toList = tableOf [(0, 87, 88, 32), (0, 87, 93, 35), (0, 87, 98, 37)] := vx_table (x := yL_set) B (hts _ List.mem_cons_self)
  subst hsz
  have hD := hD0.self (sz := s.heap.size)
  generalize hAe : va_A (zw (20 + 2 * M 0 1) ad (cX k ad M O)) s.heap.size = A at hD hE ⊢
  have hA : ∀ q : Nat, s.heap.size ≤ q → A q := fun q h => by rw [← hAe]; exact Or.inr h
  have hS : va_S A s.heap s.heap [] := va_S.rf
  have hP := wP_n hP
  have hD := wD_n hD
  have hl := lv_entry ([.ref (ad 0), .int (nI 5), .int p0, .int p1, .int p2, .int p3]) (n := 7) (Nat.le_of_ble_eq_true rfl)
  rw [lg_entry_eq]
  generalize (lg_sl ([.ref (ad 0), .int (nI 5), .int p0, .int p1, .int p2, .int p3]) ++ List.replicate (7 - (lg_sl ([.ref (ad 0), .int (nI 5), .int p0, .int p1, .int p2, .int p3])).length) Slot.unset).toArray = ls at hl ⊢
  have hl : lv_has ls 7 [(0, .ref (ad 0)), (1, .int (nI 5)), (2, .int p0), (3, .int p1), (4, .int p2), (5, .int p3)] := hl
  refine lv_iload_n hx hb dL_set_0 rfl (lv_at hl 1 rfl) ?_
  refine z_ifn_neT (tgt := 17) F (by decide) dL_set_1 (by decide) ?_
  refine lv_iload_n hx hb dL_set_17 rfl (lv_at hl 1 rfl) ?_
  refine lv_iconst (v := nI 1) hx hb dL_set_18 (by decide) ?_
  refine z_icmp_ne (tgt := 35) F (by omega) (by omega) dL_set_19 (by decide) (fun _ => ?_) (fun zc => absurd zc (by decide))
  refine lv_iload_n hx hb dL_set_35 rfl (lv_at hl 1 rfl) ?_
  refine lv_iconst (v := nI 2) hx hb dL_set_36 (by decide) ?_
  refine z_icmp_ne (tgt := 52) F (by omega) (by omega) dL_set_37 (by decide) (fun _ => ?_) (fun zc => absurd zc (by decide))
  refine lv_iload_n hx hb dL_set_52 rfl (lv_at hl 1 rfl) ?_
  refine lv_iconst (v := nI 3) hx hb dL_set_53 (by decide) ?_
  refine z_icmp_ne (tgt := 65) F (by omega) (by omega) dL_set_54 (by decide) (fun _ => ?_) (fun zc => absurd zc (by decide))
  refine lv_iload_n hx hb dL_set_65 rfl (lv_at hl 1 rfl) ?_
  refine lv_iconst (v := nI 4) hx hb dL_set_66 (by decide) ?_
  refine z_icmp_ne (tgt := 79) F (by omega) (by omega) dL_set_67 (by decide) (fun _ => ?_) (fun zc => absurd zc (by decide))
  refine lv_aload_n hx hb dL_set_79 rfl (lv_at hl 0 rfl) ?_
  refine lv_iload_n hx hb dL_set_80 rfl (lv_at hl 2 rfl) ?_
  refine lv_iload_n hx hb dL_set_81 rfl (lv_at hl 3 rfl) ?_
  refine lv_iload hx hb dL_set_82 (lv_at hl 4 rfl) ?_
  refine lx_call (wb := []) (As := [.int p0, .int p1, .int p2]) (rest := []) F hM (cwV 3 hts gL_set_X2_open rfl rfl rfl (by decide +kernel) ⟨Nat.le_of_ble_eq_true rfl, Nat.le_of_ble_eq_true rfl⟩) hK hP hD hS hA hE rfl hl.1 rfl (Nat.le_of_ble_eq_true rfl) dL_set_84 ⟨Nat.le_of_ble_eq_true rfl, Nat.le_of_ble_eq_true rfl⟩ (fun E ce q9 H1 locs1 hEx hP1 hS1 hce hcv hcl => ?_) (fun ad1 H1 locs1 h0 had hP hD hS => ?_)
  · rcases hEx with ⟨h1, rfl⟩ | ⟨h1, rfl⟩ | ⟨h1, rfl⟩
    · have h00 : xq ≠ 0 := by omega
      obtain ⟨e3, e4⟩ := e2 h00
      rw [e3, e4]
      refine vx_catch hown [] ⟨0, 87, 88, 32⟩ [⟨0, 87, 93, 35⟩, ⟨0, 87, 98, 37⟩] (by rw [htab]; rfl) (fun zq hz => absurd hz List.not_mem_nil) (by decide) (by decide) (hts (.classLink RL 32 exI) (by decide +kernel)) (va_Nw.use rfl hE.2.2.1.1) hce hcv hcl ?_
      refine lv_astore (lv' := [(6, .ref q9), (0, .ref (ad 0)), (1, .int (nI 5)), (2, .int p0), (3, .int p1), (4, .int p2), (5, .int p3)]) hx hb dL_set_88 hl (by decide) rfl (fun ls hl => ?_)
      refine lv_ldc (v := (-3000000)) hx hb hown (hts (.constant RL 34 ((-3000000))) (by decide +kernel)) dL_set_90 ?_
      refine vx_ret (mc := 6) (ms := 35) (W.widen (k := 6) (n := 35) (Nat.le_of_ble_eq_true rfl) (Nat.le_of_ble_eq_true rfl) ?_)
      exact W.iret (v := (-3000000)) hx hb hr (fun t ht hW => ⟨⟨(-3000000), ad, rfl, rV_x h00, ⟨⟨by rw [ht]; exact wP_l hP1, va_K.moved hW.alike hK⟩, wD_l hD⟩, fun _ _ => rfl⟩, hS1.F ht⟩) hS1.2.2 dL_set_92
    · have h00 : xq ≠ 0 := by omega
      obtain ⟨e3, e4⟩ := e2 h00
      rw [e3, e4]
      refine vx_catch hown [⟨0, 87, 88, 32⟩] ⟨0, 87, 93, 35⟩ [⟨0, 87, 98, 37⟩] (by rw [htab]; rfl) (fun zq hz => by rw [List.mem_singleton.mp hz]; exact Or.inr ⟨by decide, exI, hts (.classLink RL 32 exI) (by decide +kernel), hN.1⟩) (by decide) (by decide) (hts (.classLink RL 35 exA) (by decide +kernel)) (va_Nw.use rfl hE.2.2.1.2.1) hce hcv hcl ?_
      refine lv_astore (lv' := [(6, .ref q9), (0, .ref (ad 0)), (1, .int (nI 5)), (2, .int p0), (3, .int p1), (4, .int p2), (5, .int p3)]) hx hb dL_set_93 hl (by decide) rfl (fun ls hl => ?_)
      refine lv_ldc (v := (-3000000)) hx hb hown (hts (.constant RL 34 ((-3000000))) (by decide +kernel)) dL_set_95 ?_
      refine vx_ret (mc := 6) (ms := 35) (W.widen (k := 6) (n := 35) (Nat.le_of_ble_eq_true rfl) (Nat.le_of_ble_eq_true rfl) ?_)
      exact W.iret (v := (-3000000)) hx hb hr (fun t ht hW => ⟨⟨(-3000000), ad, rfl, rV_x h00, ⟨⟨by rw [ht]; exact wP_l hP1, va_K.moved hW.alike hK⟩, wD_l hD⟩, fun _ _ => rfl⟩, hS1.F ht⟩) hS1.2.2 dL_set_97
    · have h00 : xq ≠ 0 := by omega
      obtain ⟨e3, e4⟩ := e2 h00
      rw [e3, e4]
      have hps : ∀ zq ∈ ([⟨0, 87, 88, 32⟩, ⟨0, 87, 93, 35⟩] : List ExceptionTableEntry), covers zq 84 = false ∨ (zq.catchType ≠ 0 ∧ ∃ nm : String, (Cond.classLink RL zq.catchType nm).before (#[.ref (ad 0), .int (nI 5), .int p0, .int p1, .int p2, .int p3] : Array Value) s = true ∧ va_Nc exS nm s) := by
        intro zq hz
        rcases List.mem_cons.mp hz with hz | hz
        · rw [hz]; exact Or.inr ⟨by decide, exI, hts (.classLink RL 32 exI) (by decide +kernel), hN.2.1⟩
        · rw [List.mem_singleton.mp hz]; exact Or.inr ⟨by decide, exA, hts (.classLink RL 35 exA) (by decide +kernel), hN.2.2⟩
      refine vx_catch hown [⟨0, 87, 88, 32⟩, ⟨0, 87, 93, 35⟩] ⟨0, 87, 98, 37⟩ [] (by rw [htab]; rfl) hps (by decide) (by decide) (hts (.classLink RL 37 exS) (by decide +kernel)) (va_Nw.use rfl hE.2.2.1.2.2) hce hcv hcl ?_
      refine lv_astore (lv' := [(6, .ref q9), (0, .ref (ad 0)), (1, .int (nI 5)), (2, .int p0), (3, .int p1), (4, .int p2), (5, .int p3)]) hx hb dL_set_98 hl (by decide) rfl (fun ls hl => ?_)
      refine lv_ldc (v := (-3000000)) hx hb hown (hts (.constant RL 34 ((-3000000))) (by decide +kernel)) dL_set_100 ?_
      refine vx_ret (mc := 6) (ms := 35) (W.widen (k := 6) (n := 35) (Nat.le_of_ble_eq_true rfl) (Nat.le_of_ble_eq_true rfl) ?_)
      exact W.iret (v := (-3000000)) hx hb hr (fun t ht hW => ⟨⟨(-3000000), ad, rfl, rV_x h00, ⟨⟨by rw [ht]; exact wP_l hP1, va_K.moved hW.alike hK⟩, wD_l hD⟩, fun _ _ => rfl⟩, hS1.F ht⟩) hS1.2.2 dL_set_102
  · obtain ⟨e3, e4⟩ := e1 h0
    rw [e3, e4]
    refine vx_ret (mc := 6) (ms := 35) (W.widen (k := 6) (n := 35) (Nat.le_of_ble_eq_true rfl) (Nat.le_of_ble_eq_true rfl) ?_)
    exact W.iret (v := rr) hx hb hr (fun t ht hW => ⟨⟨rr, ad1, rfl, rV_0 h0, ⟨⟨by rw [ht]; exact wP_l hP, va_K.moved hW.alike hK⟩, wD_l hD⟩, had⟩, hS.F ht⟩) hS.2.2 dL_set_87
set_option maxRecDepth 100000 in
set_option maxHeartbeats 2000000 in
theorem c_L_does0 (l : Launch) (sa : Nat → Nat) (D : va_G) (k : Nat → ClassId) (ad : Nat → Nat) (M : Nat → Nat → Nat) (O : Nat → Nat → Int32) (sz : Nat) (p0 p1 : Int32) {M' M1 : Nat → Nat → Nat} {O' O1 : Nat → Nat → Int32} {xq : Nat} {rr : Int32} (hM : vx_Met l yX2_reach wsX2_reach ({ frames := 8, cells := 3, slots := 18, locals := 124 }) (va_Pc [.ref (ad 0), .int p0, .int p1] (zPre D k ad M O sz sa)) (zQop D k ad M M' O' (va_A (zw (20 + 2 * M 0 1) ad (cX k ad M O)) sz) xq rr) (zX (fun E => exC E xq)) 3 18 (va_A (zw (20 + 2 * M 0 1) ad (cX k ad M O)) sz)) (e1 : xq = 0 → M1 = M' ∧ O1 = O') (e2 : xq ≠ 0 → M1 = M ∧ O1 = O) : vx_Met l yL_does wsL_does ({ frames := 9, cells := 4, slots := 24, locals := 150 }) (va_Pc [.ref (ad 0), .int (nI 0), .int p0, .int p1] (tPre D k ad M O sz sa)) (tQ D k ad M M1 O1 (va_A (zw (20 + 2 * M 0 1) ad (cX k ad M O)) sz) (rV xq rr)) (zX (fun _ => False)) 4 24 (va_A (zw (20 + 2 * M 0 1) ad (cX k ad M O)) sz) := by
  refine vx_ofWH (cc := cL_does) (maxL := 5) (ret := (some .int)) (by decide) rfl ?_
  intro p e s m args below meth c s₁ B hml hv
  obtain ⟨rfl, ⟨⟨hsz, ⟨hP, hK⟩, hD0⟩, hE⟩, hN⟩ := hv
  have hx := B.exec
  have hb := B.bytes
  have hr := B.returns
  have hts := atoms_spec (ws := wsL_does) B.pre
  have hown : s.vm.findClass RL = some m.cls := findClass_of_methodNamed B.named
  have hlocks := B.notSynchronized
  have F : CallFix p m c cL_does 5 s _ wsL_does RL := ⟨hx, hb, hml, hown, hts⟩
  have htab : c.exceptionTable.toList = tableOf [(0, 91, 92, 32), (0, 91, 97, 35), (0, 91, 102, 37)] := vx_table (x := yL_does) B (hts _ List.mem_cons_self)
  subst hsz
  have hD := hD0.self (sz := s.heap.size)
  generalize hAe : va_A (zw (20 + 2 * M 0 1) ad (cX k ad M O)) s.heap.size = A at hD hE ⊢
  have hA : ∀ q : Nat, s.heap.size ≤ q → A q := fun q h => by rw [← hAe]; exact Or.inr h
  have hS : va_S A s.heap s.heap [] := va_S.rf
  have hP := wP_n hP
  have hD := wD_n hD
  have hl := lv_entry ([.ref (ad 0), .int (nI 0), .int p0, .int p1]) (n := 5) (Nat.le_of_ble_eq_true rfl)
  rw [lg_entry_eq]
  generalize (lg_sl ([.ref (ad 0), .int (nI 0), .int p0, .int p1]) ++ List.replicate (5 - (lg_sl ([.ref (ad 0), .int (nI 0), .int p0, .int p1])).length) Slot.unset).toArray = ls at hl ⊢
  have hl : lv_has ls 5 [(0, .ref (ad 0)), (1, .int (nI 0)), (2, .int p0), (3, .int p1)] := hl
  refine lv_iload_n hx hb dL_does_0 rfl (lv_at hl 1 rfl) ?_
  refine z_ifn_neF (tgt := 13) F dL_does_1 (by decide) ?_
  refine lv_aload_n hx hb dL_does_4 rfl (lv_at hl 0 rfl) ?_
  refine lv_iload_n hx hb dL_does_5 rfl (lv_at hl 2 rfl) ?_
  refine lv_iload_n hx hb dL_does_6 rfl (lv_at hl 3 rfl) ?_
  refine lx_call (wb := []) (As := [.int p0, .int p1]) (rest := []) F hM (cwV 2 hts gL_does_X2_reach rfl rfl rfl (by decide +kernel) ⟨Nat.le_of_ble_eq_true rfl, Nat.le_of_ble_eq_true rfl⟩) hK hP hD hS hA hE rfl hl.1 rfl (Nat.le_of_ble_eq_true rfl) dL_does_7 ⟨Nat.le_of_ble_eq_true rfl, Nat.le_of_ble_eq_true rfl⟩ (fun E ce q9 H1 locs1 hEx hP1 hS1 hce hcv hcl => ?_) (fun ad1 H1 locs1 h0 had hP hD hS => ?_)
  · rcases hEx with ⟨h1, rfl⟩ | ⟨h1, rfl⟩ | ⟨h1, rfl⟩
    · have h00 : xq ≠ 0 := by omega
      obtain ⟨e3, e4⟩ := e2 h00
      rw [e3, e4]
      refine vx_catch hown [] ⟨0, 91, 92, 32⟩ [⟨0, 91, 97, 35⟩, ⟨0, 91, 102, 37⟩] (by rw [htab]; rfl) (fun zq hz => absurd hz List.not_mem_nil) (by decide) (by decide) (hts (.classLink RL 32 exI) (by decide +kernel)) (va_Nw.use rfl hE.2.2.1.1) hce hcv hcl ?_
      refine lv_astore (lv' := [(4, .ref q9), (0, .ref (ad 0)), (1, .int (nI 0)), (2, .int p0), (3, .int p1)]) hx hb dL_does_92 hl (by decide) rfl (fun ls hl => ?_)
      refine lv_ldc (v := (-3000000)) hx hb hown (hts (.constant RL 34 ((-3000000))) (by decide +kernel)) dL_does_94 ?_
      refine vx_ret (mc := 4) (ms := 24) (W.widen (k := 4) (n := 24) (Nat.le_of_ble_eq_true rfl) (Nat.le_of_ble_eq_true rfl) ?_)
      exact W.iret (v := (-3000000)) hx hb hr (fun t ht hW => ⟨⟨(-3000000), ad, rfl, rV_x h00, ⟨⟨by rw [ht]; exact wP_l hP1, va_K.moved hW.alike hK⟩, wD_l hD⟩, fun _ _ => rfl⟩, hS1.F ht⟩) hS1.2.2 dL_does_96
    · have h00 : xq ≠ 0 := by omega
      obtain ⟨e3, e4⟩ := e2 h00
      rw [e3, e4]
      refine vx_catch hown [⟨0, 91, 92, 32⟩] ⟨0, 91, 97, 35⟩ [⟨0, 91, 102, 37⟩] (by rw [htab]; rfl) (fun zq hz => by rw [List.mem_singleton.mp hz]; exact Or.inr ⟨by decide, exI, hts (.classLink RL 32 exI) (by decide +kernel), hN.1⟩) (by decide) (by decide) (hts (.classLink RL 35 exA) (by decide +kernel)) (va_Nw.use rfl hE.2.2.1.2.1) hce hcv hcl ?_
      refine lv_astore (lv' := [(4, .ref q9), (0, .ref (ad 0)), (1, .int (nI 0)), (2, .int p0), (3, .int p1)]) hx hb dL_does_97 hl (by decide) rfl (fun ls hl => ?_)
      refine lv_ldc (v := (-3000000)) hx hb hown (hts (.constant RL 34 ((-3000000))) (by decide +kernel)) dL_does_99 ?_
      refine vx_ret (mc := 4) (ms := 24) (W.widen (k := 4) (n := 24) (Nat.le_of_ble_eq_true rfl) (Nat.le_of_ble_eq_true rfl) ?_)
      exact W.iret (v := (-3000000)) hx hb hr (fun t ht hW => ⟨⟨(-3000000), ad, rfl, rV_x h00, ⟨⟨by rw [ht]; exact wP_l hP1, va_K.moved hW.alike hK⟩, wD_l hD⟩, fun _ _ => rfl⟩, hS1.F ht⟩) hS1.2.2 dL_does_101
    · have h00 : xq ≠ 0 := by omega
      obtain ⟨e3, e4⟩ := e2 h00
      rw [e3, e4]
      have hps : ∀ zq ∈ ([⟨0, 91, 92, 32⟩, ⟨0, 91, 97, 35⟩] : List ExceptionTableEntry), covers zq 7 = false ∨ (zq.catchType ≠ 0 ∧ ∃ nm : String, (Cond.classLink RL zq.catchType nm).before (#[.ref (ad 0), .int (nI 0), .int p0, .int p1] : Array Value) s = true ∧ va_Nc exS nm s) := by
        intro zq hz
        rcases List.mem_cons.mp hz with hz | hz
        · rw [hz]; exact Or.inr ⟨by decide, exI, hts (.classLink RL 32 exI) (by decide +kernel), hN.2.1⟩
        · rw [List.mem_singleton.mp hz]; exact Or.inr ⟨by decide, exA, hts (.classLink RL 35 exA) (by decide +kernel), hN.2.2⟩
      refine vx_catch hown [⟨0, 91, 92, 32⟩, ⟨0, 91, 97, 35⟩] ⟨0, 91, 102, 37⟩ [] (by rw [htab]; rfl) hps (by decide) (by decide) (hts (.classLink RL 37 exS) (by decide +kernel)) (va_Nw.use rfl hE.2.2.1.2.2) hce hcv hcl ?_
      refine lv_astore (lv' := [(4, .ref q9), (0, .ref (ad 0)), (1, .int (nI 0)), (2, .int p0), (3, .int p1)]) hx hb dL_does_102 hl (by decide) rfl (fun ls hl => ?_)
      refine lv_ldc (v := (-3000000)) hx hb hown (hts (.constant RL 34 ((-3000000))) (by decide +kernel)) dL_does_104 ?_
      refine vx_ret (mc := 4) (ms := 24) (W.widen (k := 4) (n := 24) (Nat.le_of_ble_eq_true rfl) (Nat.le_of_ble_eq_true rfl) ?_)
      exact W.iret (v := (-3000000)) hx hb hr (fun t ht hW => ⟨⟨(-3000000), ad, rfl, rV_x h00, ⟨⟨by rw [ht]; exact wP_l hP1, va_K.moved hW.alike hK⟩, wD_l hD⟩, fun _ _ => rfl⟩, hS1.F ht⟩) hS1.2.2 dL_does_106
  · obtain ⟨e3, e4⟩ := e1 h0
    rw [e3, e4]
    refine lv_goto (tgt := 91) hx hb dL_does_10 (by decide) ?_
    refine vx_ret (mc := 4) (ms := 24) (W.widen (k := 4) (n := 24) (Nat.le_of_ble_eq_true rfl) (Nat.le_of_ble_eq_true rfl) ?_)
    exact W.iret (v := rr) hx hb hr (fun t ht hW => ⟨⟨rr, ad1, rfl, rV_0 h0, ⟨⟨by rw [ht]; exact wP_l hP, va_K.moved hW.alike hK⟩, wD_l hD⟩, had⟩, hS.F ht⟩) hS.2.2 dL_does_91
set_option maxRecDepth 100000 in
set_option maxHeartbeats 2000000 in
theorem c_L_does1 (l : Launch) (sa : Nat → Nat) (D : va_G) (k : Nat → ClassId) (ad : Nat → Nat) (M : Nat → Nat → Nat) (O : Nat → Nat → Int32) (sz : Nat) (p0 p1 : Int32) {b1 : Nat} (hb1 : p1 = nI 1 → b1 = 1) (hb0 : p1 ≠ nI 1 → b1 = 0) {M' M1 : Nat → Nat → Nat} {O' O1 : Nat → Nat → Int32} {xq : Nat} {rr : Int32} (hM : vx_Met l yX2_rest wsX2_rest ({ frames := 7, cells := 2, slots := 12, locals := 104 }) (va_Pc [.ref (ad 0), .int p0, .int (nI b1)] (zPre D k ad M O sz sa)) (zQop D k ad M M' O' (va_A (zw (20 + 2 * M 0 1) ad (cX k ad M O)) sz) xq rr) (zX (fun E => exC E xq)) 2 12 (va_A (zw (20 + 2 * M 0 1) ad (cX k ad M O)) sz)) (e1 : xq = 0 → M1 = M' ∧ O1 = O') (e2 : xq ≠ 0 → M1 = M ∧ O1 = O) : vx_Met l yL_does wsL_does ({ frames := 9, cells := 4, slots := 24, locals := 150 }) (va_Pc [.ref (ad 0), .int (nI 1), .int p0, .int p1] (tPre D k ad M O sz sa)) (tQ D k ad M M1 O1 (va_A (zw (20 + 2 * M 0 1) ad (cX k ad M O)) sz) (rV xq (fB rr))) (zX (fun _ => False)) 4 24 (va_A (zw (20 + 2 * M 0 1) ad (cX k ad M O)) sz) := by
  refine vx_ofWH (cc := cL_does) (maxL := 5) (ret := (some .int)) (by decide) rfl ?_
  intro p e s m args below meth c s₁ B hml hv
  obtain ⟨rfl, ⟨⟨hsz, ⟨hP, hK⟩, hD0⟩, hE⟩, hN⟩ := hv
  have hx := B.exec
  have hb := B.bytes
  have hr := B.returns
  have hts := atoms_spec (ws := wsL_does) B.pre
  have hown : s.vm.findClass RL = some m.cls := findClass_of_methodNamed B.named
  have hlocks := B.notSynchronized
  have F : CallFix p m c cL_does 5 s _ wsL_does RL := ⟨hx, hb, hml, hown, hts⟩
  have htab : c.exceptionTable.toList = tableOf [(0, 91, 92, 32), (0, 91, 97, 35), (0, 91, 102, 37)] := vx_table (x := yL_does) B (hts _ List.mem_cons_self)
  subst hsz
  have hD := hD0.self (sz := s.heap.size)
  generalize hAe : va_A (zw (20 + 2 * M 0 1) ad (cX k ad M O)) s.heap.size = A at hD hE ⊢
  have hA : ∀ q : Nat, s.heap.size ≤ q → A q := fun q h => by rw [← hAe]; exact Or.inr h
  have hS : va_S A s.heap s.heap [] := va_S.rf
  have hP := wP_n hP
  have hD := wD_n hD
  have hl := lv_entry ([.ref (ad 0), .int (nI 1), .int p0, .int p1]) (n := 5) (Nat.le_of_ble_eq_true rfl)
  rw [lg_entry_eq]
  generalize (lg_sl ([.ref (ad 0), .int (nI 1), .int p0, .int p1]) ++ List.replicate (5 - (lg_sl ([.ref (ad 0), .int (nI 1), .int p0, .int p1])).length) Slot.unset).toArray = ls at hl ⊢
  have hl : lv_has ls 5 [(0, .ref (ad 0)), (1, .int (nI 1)), (2, .int p0), (3, .int p1)] := hl
  refine lv_iload_n hx hb dL_does_0 rfl (lv_at hl 1 rfl) ?_
  refine z_ifn_neT (tgt := 13) F (by decide) dL_does_1 (by decide) ?_
  refine lv_iload_n hx hb dL_does_13 rfl (lv_at hl 1 rfl) ?_
  refine lv_iconst (v := nI 1) hx hb dL_does_14 (by decide) ?_
  refine z_icmp_ne (tgt := 44) F (by omega) (by omega) dL_does_15 (by decide) (fun zc => absurd zc (by decide)) (fun _ => ?_)
  refine lv_aload_n hx hb dL_does_18 rfl (lv_at hl 0 rfl) ?_
  refine lv_iload_n hx hb dL_does_19 rfl (lv_at hl 2 rfl) ?_
  refine lv_iload_n hx hb dL_does_20 rfl (lv_at hl 3 rfl) ?_
  refine lv_iconst (v := nI 1) hx hb dL_does_21 (by decide) ?_
  refine lv_icmp_ne (tgt := 29) hx hb dL_does_22 (by decide) (fun c10 => ?_) (fun c10 => ?_)
  · refine lv_iconst (v := nI 0) hx hb dL_does_29 (by decide) ?_
    refine z_top (show nI 0 = nI b1 by rw [hb0 c10]) ?_
    refine lx_call (wb := []) (As := [.int p0, .int (nI b1)]) (rest := []) F hM (cwV 2 hts gL_does_X2_rest rfl rfl rfl (by decide +kernel) ⟨Nat.le_of_ble_eq_true rfl, Nat.le_of_ble_eq_true rfl⟩) hK hP hD hS hA hE rfl hl.1 rfl (Nat.le_of_ble_eq_true rfl) dL_does_30 ⟨Nat.le_of_ble_eq_true rfl, Nat.le_of_ble_eq_true rfl⟩ (fun E ce q9 H1 locs1 hEx hP1 hS1 hce hcv hcl => ?_) (fun ad1 H1 locs1 h0 had hP hD hS => ?_)
    · rcases hEx with ⟨h1, rfl⟩ | ⟨h1, rfl⟩ | ⟨h1, rfl⟩
      · have h00 : xq ≠ 0 := by omega
        obtain ⟨e3, e4⟩ := e2 h00
        rw [e3, e4]
        refine vx_catch hown [] ⟨0, 91, 92, 32⟩ [⟨0, 91, 97, 35⟩, ⟨0, 91, 102, 37⟩] (by rw [htab]; rfl) (fun zq hz => absurd hz List.not_mem_nil) (by decide) (by decide) (hts (.classLink RL 32 exI) (by decide +kernel)) (va_Nw.use rfl hE.2.2.1.1) hce hcv hcl ?_
        refine lv_astore (lv' := [(4, .ref q9), (0, .ref (ad 0)), (1, .int (nI 1)), (2, .int p0), (3, .int p1)]) hx hb dL_does_92 hl (by decide) rfl (fun ls hl => ?_)
        refine lv_ldc (v := (-3000000)) hx hb hown (hts (.constant RL 34 ((-3000000))) (by decide +kernel)) dL_does_94 ?_
        refine vx_ret (mc := 4) (ms := 24) (W.widen (k := 4) (n := 24) (Nat.le_of_ble_eq_true rfl) (Nat.le_of_ble_eq_true rfl) ?_)
        exact W.iret (v := (-3000000)) hx hb hr (fun t ht hW => ⟨⟨(-3000000), ad, rfl, rV_x h00, ⟨⟨by rw [ht]; exact wP_l hP1, va_K.moved hW.alike hK⟩, wD_l hD⟩, fun _ _ => rfl⟩, hS1.F ht⟩) hS1.2.2 dL_does_96
      · have h00 : xq ≠ 0 := by omega
        obtain ⟨e3, e4⟩ := e2 h00
        rw [e3, e4]
        refine vx_catch hown [⟨0, 91, 92, 32⟩] ⟨0, 91, 97, 35⟩ [⟨0, 91, 102, 37⟩] (by rw [htab]; rfl) (fun zq hz => by rw [List.mem_singleton.mp hz]; exact Or.inr ⟨by decide, exI, hts (.classLink RL 32 exI) (by decide +kernel), hN.1⟩) (by decide) (by decide) (hts (.classLink RL 35 exA) (by decide +kernel)) (va_Nw.use rfl hE.2.2.1.2.1) hce hcv hcl ?_
        refine lv_astore (lv' := [(4, .ref q9), (0, .ref (ad 0)), (1, .int (nI 1)), (2, .int p0), (3, .int p1)]) hx hb dL_does_97 hl (by decide) rfl (fun ls hl => ?_)
        refine lv_ldc (v := (-3000000)) hx hb hown (hts (.constant RL 34 ((-3000000))) (by decide +kernel)) dL_does_99 ?_
        refine vx_ret (mc := 4) (ms := 24) (W.widen (k := 4) (n := 24) (Nat.le_of_ble_eq_true rfl) (Nat.le_of_ble_eq_true rfl) ?_)
        exact W.iret (v := (-3000000)) hx hb hr (fun t ht hW => ⟨⟨(-3000000), ad, rfl, rV_x h00, ⟨⟨by rw [ht]; exact wP_l hP1, va_K.moved hW.alike hK⟩, wD_l hD⟩, fun _ _ => rfl⟩, hS1.F ht⟩) hS1.2.2 dL_does_101
      · have h00 : xq ≠ 0 := by omega
        obtain ⟨e3, e4⟩ := e2 h00
        rw [e3, e4]
        have hps : ∀ zq ∈ ([⟨0, 91, 92, 32⟩, ⟨0, 91, 97, 35⟩] : List ExceptionTableEntry), covers zq 30 = false ∨ (zq.catchType ≠ 0 ∧ ∃ nm : String, (Cond.classLink RL zq.catchType nm).before (#[.ref (ad 0), .int (nI 1), .int p0, .int p1] : Array Value) s = true ∧ va_Nc exS nm s) := by
          intro zq hz
          rcases List.mem_cons.mp hz with hz | hz
          · rw [hz]; exact Or.inr ⟨by decide, exI, hts (.classLink RL 32 exI) (by decide +kernel), hN.2.1⟩
          · rw [List.mem_singleton.mp hz]; exact Or.inr ⟨by decide, exA, hts (.classLink RL 35 exA) (by decide +kernel), hN.2.2⟩
        refine vx_catch hown [⟨0, 91, 92, 32⟩, ⟨0, 91, 97, 35⟩] ⟨0, 91, 102, 37⟩ [] (by rw [htab]; rfl) hps (by decide) (by decide) (hts (.classLink RL 37 exS) (by decide +kernel)) (va_Nw.use rfl hE.2.2.1.2.2) hce hcv hcl ?_
        refine lv_astore (lv' := [(4, .ref q9), (0, .ref (ad 0)), (1, .int (nI 1)), (2, .int p0), (3, .int p1)]) hx hb dL_does_102 hl (by decide) rfl (fun ls hl => ?_)
        refine lv_ldc (v := (-3000000)) hx hb hown (hts (.constant RL 34 ((-3000000))) (by decide +kernel)) dL_does_104 ?_
        refine vx_ret (mc := 4) (ms := 24) (W.widen (k := 4) (n := 24) (Nat.le_of_ble_eq_true rfl) (Nat.le_of_ble_eq_true rfl) ?_)
        exact W.iret (v := (-3000000)) hx hb hr (fun t ht hW => ⟨⟨(-3000000), ad, rfl, rV_x h00, ⟨⟨by rw [ht]; exact wP_l hP1, va_K.moved hW.alike hK⟩, wD_l hD⟩, fun _ _ => rfl⟩, hS1.F ht⟩) hS1.2.2 dL_does_106
    · obtain ⟨e3, e4⟩ := e1 h0
      rw [e3, e4]
      refine lv_if_eq (tgt := 40) hx hb dL_does_33 (by decide) (fun c11 => ?_) (fun c11 => ?_)
      · refine lv_iconst (v := nI 0) hx hb dL_does_40 (by decide) ?_
        refine lv_goto (tgt := 91) hx hb dL_does_41 (by decide) ?_
        refine vx_ret (mc := 4) (ms := 24) (W.widen (k := 4) (n := 24) (Nat.le_of_ble_eq_true rfl) (Nat.le_of_ble_eq_true rfl) ?_)
        exact W.iret (v := nI 0) hx hb hr (fun t ht hW => ⟨⟨nI 0, ad1, rfl, fB_0 h0 c11, ⟨⟨by rw [ht]; exact wP_l hP, va_K.moved hW.alike hK⟩, wD_l hD⟩, had⟩, hS.F ht⟩) hS.2.2 dL_does_91
      · refine lv_iconst (v := nI 1) hx hb dL_does_36 (by decide) ?_
        refine lv_goto (tgt := 91) hx hb dL_does_37 (by decide) ?_
        refine vx_ret (mc := 4) (ms := 24) (W.widen (k := 4) (n := 24) (Nat.le_of_ble_eq_true rfl) (Nat.le_of_ble_eq_true rfl) ?_)
        exact W.iret (v := nI 1) hx hb hr (fun t ht hW => ⟨⟨nI 1, ad1, rfl, fB_1 h0 c11, ⟨⟨by rw [ht]; exact wP_l hP, va_K.moved hW.alike hK⟩, wD_l hD⟩, had⟩, hS.F ht⟩) hS.2.2 dL_does_91
  · refine lv_iconst (v := nI 1) hx hb dL_does_25 (by decide) ?_
    refine lv_goto (tgt := 30) hx hb dL_does_26 (by decide) ?_
    refine z_top (show nI 1 = nI b1 by rw [hb1 c10]) ?_
    refine lx_call (wb := []) (As := [.int p0, .int (nI b1)]) (rest := []) F hM (cwV 2 hts gL_does_X2_rest rfl rfl rfl (by decide +kernel) ⟨Nat.le_of_ble_eq_true rfl, Nat.le_of_ble_eq_true rfl⟩) hK hP hD hS hA hE rfl hl.1 rfl (Nat.le_of_ble_eq_true rfl) dL_does_30 ⟨Nat.le_of_ble_eq_true rfl, Nat.le_of_ble_eq_true rfl⟩ (fun E ce q9 H1 locs1 hEx hP1 hS1 hce hcv hcl => ?_) (fun ad1 H1 locs1 h0 had hP hD hS => ?_)
    · rcases hEx with ⟨h1, rfl⟩ | ⟨h1, rfl⟩ | ⟨h1, rfl⟩
      · have h00 : xq ≠ 0 := by omega
        obtain ⟨e3, e4⟩ := e2 h00
        rw [e3, e4]
        refine vx_catch hown [] ⟨0, 91, 92, 32⟩ [⟨0, 91, 97, 35⟩, ⟨0, 91, 102, 37⟩] (by rw [htab]; rfl) (fun zq hz => absurd hz List.not_mem_nil) (by decide) (by decide) (hts (.classLink RL 32 exI) (by decide +kernel)) (va_Nw.use rfl hE.2.2.1.1) hce hcv hcl ?_
        refine lv_astore (lv' := [(4, .ref q9), (0, .ref (ad 0)), (1, .int (nI 1)), (2, .int p0), (3, .int p1)]) hx hb dL_does_92 hl (by decide) rfl (fun ls hl => ?_)
        refine lv_ldc (v := (-3000000)) hx hb hown (hts (.constant RL 34 ((-3000000))) (by decide +kernel)) dL_does_94 ?_
        refine vx_ret (mc := 4) (ms := 24) (W.widen (k := 4) (n := 24) (Nat.le_of_ble_eq_true rfl) (Nat.le_of_ble_eq_true rfl) ?_)
        exact W.iret (v := (-3000000)) hx hb hr (fun t ht hW => ⟨⟨(-3000000), ad, rfl, rV_x h00, ⟨⟨by rw [ht]; exact wP_l hP1, va_K.moved hW.alike hK⟩, wD_l hD⟩, fun _ _ => rfl⟩, hS1.F ht⟩) hS1.2.2 dL_does_96
      · have h00 : xq ≠ 0 := by omega
        obtain ⟨e3, e4⟩ := e2 h00
        rw [e3, e4]
        refine vx_catch hown [⟨0, 91, 92, 32⟩] ⟨0, 91, 97, 35⟩ [⟨0, 91, 102, 37⟩] (by rw [htab]; rfl) (fun zq hz => by rw [List.mem_singleton.mp hz]; exact Or.inr ⟨by decide, exI, hts (.classLink RL 32 exI) (by decide +kernel), hN.1⟩) (by decide) (by decide) (hts (.classLink RL 35 exA) (by decide +kernel)) (va_Nw.use rfl hE.2.2.1.2.1) hce hcv hcl ?_
        refine lv_astore (lv' := [(4, .ref q9), (0, .ref (ad 0)), (1, .int (nI 1)), (2, .int p0), (3, .int p1)]) hx hb dL_does_97 hl (by decide) rfl (fun ls hl => ?_)
        refine lv_ldc (v := (-3000000)) hx hb hown (hts (.constant RL 34 ((-3000000))) (by decide +kernel)) dL_does_99 ?_
        refine vx_ret (mc := 4) (ms := 24) (W.widen (k := 4) (n := 24) (Nat.le_of_ble_eq_true rfl) (Nat.le_of_ble_eq_true rfl) ?_)
        exact W.iret (v := (-3000000)) hx hb hr (fun t ht hW => ⟨⟨(-3000000), ad, rfl, rV_x h00, ⟨⟨by rw [ht]; exact wP_l hP1, va_K.moved hW.alike hK⟩, wD_l hD⟩, fun _ _ => rfl⟩, hS1.F ht⟩) hS1.2.2 dL_does_101
      · have h00 : xq ≠ 0 := by omega
        obtain ⟨e3, e4⟩ := e2 h00
        rw [e3, e4]
        have hps : ∀ zq ∈ ([⟨0, 91, 92, 32⟩, ⟨0, 91, 97, 35⟩] : List ExceptionTableEntry), covers zq 30 = false ∨ (zq.catchType ≠ 0 ∧ ∃ nm : String, (Cond.classLink RL zq.catchType nm).before (#[.ref (ad 0), .int (nI 1), .int p0, .int p1] : Array Value) s = true ∧ va_Nc exS nm s) := by
          intro zq hz
          rcases List.mem_cons.mp hz with hz | hz
          · rw [hz]; exact Or.inr ⟨by decide, exI, hts (.classLink RL 32 exI) (by decide +kernel), hN.2.1⟩
          · rw [List.mem_singleton.mp hz]; exact Or.inr ⟨by decide, exA, hts (.classLink RL 35 exA) (by decide +kernel), hN.2.2⟩
        refine vx_catch hown [⟨0, 91, 92, 32⟩, ⟨0, 91, 97, 35⟩] ⟨0, 91, 102, 37⟩ [] (by rw [htab]; rfl) hps (by decide) (by decide) (hts (.classLink RL 37 exS) (by decide +kernel)) (va_Nw.use rfl hE.2.2.1.2.2) hce hcv hcl ?_
        refine lv_astore (lv' := [(4, .ref q9), (0, .ref (ad 0)), (1, .int (nI 1)), (2, .int p0), (3, .int p1)]) hx hb dL_does_102 hl (by decide) rfl (fun ls hl => ?_)
        refine lv_ldc (v := (-3000000)) hx hb hown (hts (.constant RL 34 ((-3000000))) (by decide +kernel)) dL_does_104 ?_
        refine vx_ret (mc := 4) (ms := 24) (W.widen (k := 4) (n := 24) (Nat.le_of_ble_eq_true rfl) (Nat.le_of_ble_eq_true rfl) ?_)
        exact W.iret (v := (-3000000)) hx hb hr (fun t ht hW => ⟨⟨(-3000000), ad, rfl, rV_x h00, ⟨⟨by rw [ht]; exact wP_l hP1, va_K.moved hW.alike hK⟩, wD_l hD⟩, fun _ _ => rfl⟩, hS1.F ht⟩) hS1.2.2 dL_does_106
    · obtain ⟨e3, e4⟩ := e1 h0
      rw [e3, e4]
      refine lv_if_eq (tgt := 40) hx hb dL_does_33 (by decide) (fun c12 => ?_) (fun c12 => ?_)
      · refine lv_iconst (v := nI 0) hx hb dL_does_40 (by decide) ?_
        refine lv_goto (tgt := 91) hx hb dL_does_41 (by decide) ?_
        refine vx_ret (mc := 4) (ms := 24) (W.widen (k := 4) (n := 24) (Nat.le_of_ble_eq_true rfl) (Nat.le_of_ble_eq_true rfl) ?_)
        exact W.iret (v := nI 0) hx hb hr (fun t ht hW => ⟨⟨nI 0, ad1, rfl, fB_0 h0 c12, ⟨⟨by rw [ht]; exact wP_l hP, va_K.moved hW.alike hK⟩, wD_l hD⟩, had⟩, hS.F ht⟩) hS.2.2 dL_does_91
      · refine lv_iconst (v := nI 1) hx hb dL_does_36 (by decide) ?_
        refine lv_goto (tgt := 91) hx hb dL_does_37 (by decide) ?_
        refine vx_ret (mc := 4) (ms := 24) (W.widen (k := 4) (n := 24) (Nat.le_of_ble_eq_true rfl) (Nat.le_of_ble_eq_true rfl) ?_)
        exact W.iret (v := nI 1) hx hb hr (fun t ht hW => ⟨⟨nI 1, ad1, rfl, fB_1 h0 c12, ⟨⟨by rw [ht]; exact wP_l hP, va_K.moved hW.alike hK⟩, wD_l hD⟩, had⟩, hS.F ht⟩) hS.2.2 dL_does_91
set_option maxRecDepth 100000 in
set_option maxHeartbeats 2000000 in
theorem c_L_does2 (l : Launch) (sa : Nat → Nat) (D : va_G) (k : Nat → ClassId) (ad : Nat → Nat) (M : Nat → Nat → Nat) (O : Nat → Nat → Int32) (sz : Nat) (p0 p1 : Int32) {M' M1 : Nat → Nat → Nat} {O' O1 : Nat → Nat → Int32} {xq : Nat} {rr : Int32} (hM : vx_Met l yX2_setGravity wsX2_setGravity ({ frames := 8, cells := 3, slots := 18, locals := 124 }) (va_Pc [.ref (ad 0), .int p0, .int p1] (zPre D k ad M O sz sa)) (zQop D k ad M M' O' (va_A (zw (20 + 2 * M 0 1) ad (cX k ad M O)) sz) xq rr) (zX (fun E => exC E xq)) 3 18 (va_A (zw (20 + 2 * M 0 1) ad (cX k ad M O)) sz)) (e1 : xq = 0 → M1 = M' ∧ O1 = O') (e2 : xq ≠ 0 → M1 = M ∧ O1 = O) : vx_Met l yL_does wsL_does ({ frames := 9, cells := 4, slots := 24, locals := 150 }) (va_Pc [.ref (ad 0), .int (nI 2), .int p0, .int p1] (tPre D k ad M O sz sa)) (tQ D k ad M M1 O1 (va_A (zw (20 + 2 * M 0 1) ad (cX k ad M O)) sz) (rV xq rr)) (zX (fun _ => False)) 4 24 (va_A (zw (20 + 2 * M 0 1) ad (cX k ad M O)) sz) := by
  refine vx_ofWH (cc := cL_does) (maxL := 5) (ret := (some .int)) (by decide) rfl ?_
  intro p e s m args below meth c s₁ B hml hv
  obtain ⟨rfl, ⟨⟨hsz, ⟨hP, hK⟩, hD0⟩, hE⟩, hN⟩ := hv
  have hx := B.exec
  have hb := B.bytes
  have hr := B.returns
  have hts := atoms_spec (ws := wsL_does) B.pre
  have hown : s.vm.findClass RL = some m.cls := findClass_of_methodNamed B.named
  have hlocks := B.notSynchronized
  have F : CallFix p m c cL_does 5 s _ wsL_does RL := ⟨hx, hb, hml, hown, hts⟩
  have htab : c.exceptionTable.toList = tableOf [(0, 91, 92, 32), (0, 91, 97, 35), (0, 91, 102, 37)] := vx_table (x := yL_does) B (hts _ List.mem_cons_self)
  subst hsz
  have hD := hD0.self (sz := s.heap.size)
  generalize hAe : va_A (zw (20 + 2 * M 0 1) ad (cX k ad M O)) s.heap.size = A at hD hE ⊢
  have hA : ∀ q : Nat, s.heap.size ≤ q → A q := fun q h => by rw [← hAe]; exact Or.inr h
  have hS : va_S A s.heap s.heap [] := va_S.rf
  have hP := wP_n hP
  have hD := wD_n hD
  have hl := lv_entry ([.ref (ad 0), .int (nI 2), .int p0, .int p1]) (n := 5) (Nat.le_of_ble_eq_true rfl)
  rw [lg_entry_eq]
  generalize (lg_sl ([.ref (ad 0), .int (nI 2), .int p0, .int p1]) ++ List.replicate (5 - (lg_sl ([.ref (ad 0), .int (nI 2), .int p0, .int p1])).length) Slot.unset).toArray = ls at hl ⊢
  have hl : lv_has ls 5 [(0, .ref (ad 0)), (1, .int (nI 2)), (2, .int p0), (3, .int p1)] := hl
  refine lv_iload_n hx hb dL_does_0 rfl (lv_at hl 1 rfl) ?_
  refine z_ifn_neT (tgt := 13) F (by decide) dL_does_1 (by decide) ?_
  refine lv_iload_n hx hb dL_does_13 rfl (lv_at hl 1 rfl) ?_
  refine lv_iconst (v := nI 1) hx hb dL_does_14 (by decide) ?_
  refine z_icmp_ne (tgt := 44) F (by omega) (by omega) dL_does_15 (by decide) (fun _ => ?_) (fun zc => absurd zc (by decide))
  refine lv_iload_n hx hb dL_does_44 rfl (lv_at hl 1 rfl) ?_
  refine lv_iconst (v := nI 2) hx hb dL_does_45 (by decide) ?_
  refine z_icmp_ne (tgt := 58) F (by omega) (by omega) dL_does_46 (by decide) (fun zc => absurd zc (by decide)) (fun _ => ?_)
  refine lv_aload_n hx hb dL_does_49 rfl (lv_at hl 0 rfl) ?_
  refine lv_iload_n hx hb dL_does_50 rfl (lv_at hl 2 rfl) ?_
  refine lv_iload_n hx hb dL_does_51 rfl (lv_at hl 3 rfl) ?_
  refine lx_call (wb := []) (As := [.int p0, .int p1]) (rest := []) F hM (cwV 2 hts gL_does_X2_setGravity rfl rfl rfl (by decide +kernel) ⟨Nat.le_of_ble_eq_true rfl, Nat.le_of_ble_eq_true rfl⟩) hK hP hD hS hA hE rfl hl.1 rfl (Nat.le_of_ble_eq_true rfl) dL_does_52 ⟨Nat.le_of_ble_eq_true rfl, Nat.le_of_ble_eq_true rfl⟩ (fun E ce q9 H1 locs1 hEx hP1 hS1 hce hcv hcl => ?_) (fun ad1 H1 locs1 h0 had hP hD hS => ?_)
  · rcases hEx with ⟨h1, rfl⟩ | ⟨h1, rfl⟩ | ⟨h1, rfl⟩
    · have h00 : xq ≠ 0 := by omega
      obtain ⟨e3, e4⟩ := e2 h00
      rw [e3, e4]
      refine vx_catch hown [] ⟨0, 91, 92, 32⟩ [⟨0, 91, 97, 35⟩, ⟨0, 91, 102, 37⟩] (by rw [htab]; rfl) (fun zq hz => absurd hz List.not_mem_nil) (by decide) (by decide) (hts (.classLink RL 32 exI) (by decide +kernel)) (va_Nw.use rfl hE.2.2.1.1) hce hcv hcl ?_
      refine lv_astore (lv' := [(4, .ref q9), (0, .ref (ad 0)), (1, .int (nI 2)), (2, .int p0), (3, .int p1)]) hx hb dL_does_92 hl (by decide) rfl (fun ls hl => ?_)
      refine lv_ldc (v := (-3000000)) hx hb hown (hts (.constant RL 34 ((-3000000))) (by decide +kernel)) dL_does_94 ?_
      refine vx_ret (mc := 4) (ms := 24) (W.widen (k := 4) (n := 24) (Nat.le_of_ble_eq_true rfl) (Nat.le_of_ble_eq_true rfl) ?_)
      exact W.iret (v := (-3000000)) hx hb hr (fun t ht hW => ⟨⟨(-3000000), ad, rfl, rV_x h00, ⟨⟨by rw [ht]; exact wP_l hP1, va_K.moved hW.alike hK⟩, wD_l hD⟩, fun _ _ => rfl⟩, hS1.F ht⟩) hS1.2.2 dL_does_96
    · have h00 : xq ≠ 0 := by omega
      obtain ⟨e3, e4⟩ := e2 h00
      rw [e3, e4]
      refine vx_catch hown [⟨0, 91, 92, 32⟩] ⟨0, 91, 97, 35⟩ [⟨0, 91, 102, 37⟩] (by rw [htab]; rfl) (fun zq hz => by rw [List.mem_singleton.mp hz]; exact Or.inr ⟨by decide, exI, hts (.classLink RL 32 exI) (by decide +kernel), hN.1⟩) (by decide) (by decide) (hts (.classLink RL 35 exA) (by decide +kernel)) (va_Nw.use rfl hE.2.2.1.2.1) hce hcv hcl ?_
      refine lv_astore (lv' := [(4, .ref q9), (0, .ref (ad 0)), (1, .int (nI 2)), (2, .int p0), (3, .int p1)]) hx hb dL_does_97 hl (by decide) rfl (fun ls hl => ?_)
      refine lv_ldc (v := (-3000000)) hx hb hown (hts (.constant RL 34 ((-3000000))) (by decide +kernel)) dL_does_99 ?_
      refine vx_ret (mc := 4) (ms := 24) (W.widen (k := 4) (n := 24) (Nat.le_of_ble_eq_true rfl) (Nat.le_of_ble_eq_true rfl) ?_)
      exact W.iret (v := (-3000000)) hx hb hr (fun t ht hW => ⟨⟨(-3000000), ad, rfl, rV_x h00, ⟨⟨by rw [ht]; exact wP_l hP1, va_K.moved hW.alike hK⟩, wD_l hD⟩, fun _ _ => rfl⟩, hS1.F ht⟩) hS1.2.2 dL_does_101
    · have h00 : xq ≠ 0 := by omega
      obtain ⟨e3, e4⟩ := e2 h00
      rw [e3, e4]
      have hps : ∀ zq ∈ ([⟨0, 91, 92, 32⟩, ⟨0, 91, 97, 35⟩] : List ExceptionTableEntry), covers zq 52 = false ∨ (zq.catchType ≠ 0 ∧ ∃ nm : String, (Cond.classLink RL zq.catchType nm).before (#[.ref (ad 0), .int (nI 2), .int p0, .int p1] : Array Value) s = true ∧ va_Nc exS nm s) := by
        intro zq hz
        rcases List.mem_cons.mp hz with hz | hz
        · rw [hz]; exact Or.inr ⟨by decide, exI, hts (.classLink RL 32 exI) (by decide +kernel), hN.2.1⟩
        · rw [List.mem_singleton.mp hz]; exact Or.inr ⟨by decide, exA, hts (.classLink RL 35 exA) (by decide +kernel), hN.2.2⟩
      refine vx_catch hown [⟨0, 91, 92, 32⟩, ⟨0, 91, 97, 35⟩] ⟨0, 91, 102, 37⟩ [] (by rw [htab]; rfl) hps (by decide) (by decide) (hts (.classLink RL 37 exS) (by decide +kernel)) (va_Nw.use rfl hE.2.2.1.2.2) hce hcv hcl ?_
      refine lv_astore (lv' := [(4, .ref q9), (0, .ref (ad 0)), (1, .int (nI 2)), (2, .int p0), (3, .int p1)]) hx hb dL_does_102 hl (by decide) rfl (fun ls hl => ?_)
      refine lv_ldc (v := (-3000000)) hx hb hown (hts (.constant RL 34 ((-3000000))) (by decide +kernel)) dL_does_104 ?_
      refine vx_ret (mc := 4) (ms := 24) (W.widen (k := 4) (n := 24) (Nat.le_of_ble_eq_true rfl) (Nat.le_of_ble_eq_true rfl) ?_)
      exact W.iret (v := (-3000000)) hx hb hr (fun t ht hW => ⟨⟨(-3000000), ad, rfl, rV_x h00, ⟨⟨by rw [ht]; exact wP_l hP1, va_K.moved hW.alike hK⟩, wD_l hD⟩, fun _ _ => rfl⟩, hS1.F ht⟩) hS1.2.2 dL_does_106
  · obtain ⟨e3, e4⟩ := e1 h0
    rw [e3, e4]
    refine lv_goto (tgt := 91) hx hb dL_does_55 (by decide) ?_
    refine vx_ret (mc := 4) (ms := 24) (W.widen (k := 4) (n := 24) (Nat.le_of_ble_eq_true rfl) (Nat.le_of_ble_eq_true rfl) ?_)
    exact W.iret (v := rr) hx hb hr (fun t ht hW => ⟨⟨rr, ad1, rfl, rV_0 h0, ⟨⟨by rw [ht]; exact wP_l hP, va_K.moved hW.alike hK⟩, wD_l hD⟩, had⟩, hS.F ht⟩) hS.2.2 dL_does_91
set_option maxRecDepth 100000 in
set_option maxHeartbeats 2000000 in
theorem c_L_does3 (l : Launch) (sa : Nat → Nat) (D : va_G) (k : Nat → ClassId) (ad : Nat → Nat) (M : Nat → Nat → Nat) (O : Nat → Nat → Int32) (sz : Nat) (p0 p1 : Int32) {M' M1 : Nat → Nat → Nat} {O' O1 : Nat → Nat → Int32} {xq : Nat} {rr : Int32} (hM : vx_Met l yX2_join wsX2_join ({ frames := 7, cells := 4, slots := 24, locals := 104 }) (va_Pc [.ref (ad 0), .int p0, .int p1] (zPre D k ad M O sz sa)) (zQop D k ad M M' O' (va_A (zw (20 + 2 * M 0 1) ad (cX k ad M O)) sz) xq rr) (zX (fun E => exC E xq)) 4 24 (va_A (zw (20 + 2 * M 0 1) ad (cX k ad M O)) sz)) (e1 : xq = 0 → M1 = M' ∧ O1 = O') (e2 : xq ≠ 0 → M1 = M ∧ O1 = O) : vx_Met l yL_does wsL_does ({ frames := 9, cells := 4, slots := 24, locals := 150 }) (va_Pc [.ref (ad 0), .int (nI 3), .int p0, .int p1] (tPre D k ad M O sz sa)) (tQ D k ad M M1 O1 (va_A (zw (20 + 2 * M 0 1) ad (cX k ad M O)) sz) (rV xq rr)) (zX (fun _ => False)) 4 24 (va_A (zw (20 + 2 * M 0 1) ad (cX k ad M O)) sz) := by
  refine vx_ofWH (cc := cL_does) (maxL := 5) (ret := (some .int)) (by decide) rfl ?_
  intro p e s m args below meth c s₁ B hml hv
  obtain ⟨rfl, ⟨⟨hsz, ⟨hP, hK⟩, hD0⟩, hE⟩, hN⟩ := hv
  have hx := B.exec
  have hb := B.bytes
  have hr := B.returns
  have hts := atoms_spec (ws := wsL_does) B.pre
  have hown : s.vm.findClass RL = some m.cls := findClass_of_methodNamed B.named
  have hlocks := B.notSynchronized
  have F : CallFix p m c cL_does 5 s _ wsL_does RL := ⟨hx, hb, hml, hown, hts⟩
  have htab : c.exceptionTable.toList = tableOf [(0, 91, 92, 32), (0, 91, 97, 35), (0, 91, 102, 37)] := vx_table (x := yL_does) B (hts _ List.mem_cons_self)
  subst hsz
  have hD := hD0.self (sz := s.heap.size)
  generalize hAe : va_A (zw (20 + 2 * M 0 1) ad (cX k ad M O)) s.heap.size = A at hD hE ⊢
  have hA : ∀ q : Nat, s.heap.size ≤ q → A q := fun q h => by rw [← hAe]; exact Or.inr h
  have hS : va_S A s.heap s.heap [] := va_S.rf
  have hP := wP_n hP
  have hD := wD_n hD
  have hl := lv_entry ([.ref (ad 0), .int (nI 3), .int p0, .int p1]) (n := 5) (Nat.le_of_ble_eq_true rfl)
  rw [lg_entry_eq]
  generalize (lg_sl ([.ref (ad 0), .int (nI 3), .int p0, .int p1]) ++ List.replicate (5 - (lg_sl ([.ref (ad 0), .int (nI 3), .int p0, .int p1])).length) Slot.unset).toArray = ls at hl ⊢
  have hl : lv_has ls 5 [(0, .ref (ad 0)), (1, .int (nI 3)), (2, .int p0), (3, .int p1)] := hl
  refine lv_iload_n hx hb dL_does_0 rfl (lv_at hl 1 rfl) ?_
  refine z_ifn_neT (tgt := 13) F (by decide) dL_does_1 (by decide) ?_
  refine lv_iload_n hx hb dL_does_13 rfl (lv_at hl 1 rfl) ?_
  refine lv_iconst (v := nI 1) hx hb dL_does_14 (by decide) ?_
  refine z_icmp_ne (tgt := 44) F (by omega) (by omega) dL_does_15 (by decide) (fun _ => ?_) (fun zc => absurd zc (by decide))
  refine lv_iload_n hx hb dL_does_44 rfl (lv_at hl 1 rfl) ?_
  refine lv_iconst (v := nI 2) hx hb dL_does_45 (by decide) ?_
  refine z_icmp_ne (tgt := 58) F (by omega) (by omega) dL_does_46 (by decide) (fun _ => ?_) (fun zc => absurd zc (by decide))
  refine lv_iload_n hx hb dL_does_58 rfl (lv_at hl 1 rfl) ?_
  refine lv_iconst (v := nI 3) hx hb dL_does_59 (by decide) ?_
  refine z_icmp_ne (tgt := 72) F (by omega) (by omega) dL_does_60 (by decide) (fun zc => absurd zc (by decide)) (fun _ => ?_)
  refine lv_aload_n hx hb dL_does_63 rfl (lv_at hl 0 rfl) ?_
  refine lv_iload_n hx hb dL_does_64 rfl (lv_at hl 2 rfl) ?_
  refine lv_iload_n hx hb dL_does_65 rfl (lv_at hl 3 rfl) ?_
  refine lx_call (wb := []) (As := [.int p0, .int p1]) (rest := []) F hM (cwV 2 hts gL_does_X2_join rfl rfl rfl (by decide +kernel) ⟨Nat.le_of_ble_eq_true rfl, Nat.le_of_ble_eq_true rfl⟩) hK hP hD hS hA hE rfl hl.1 rfl (Nat.le_of_ble_eq_true rfl) dL_does_66 ⟨Nat.le_of_ble_eq_true rfl, Nat.le_of_ble_eq_true rfl⟩ (fun E ce q9 H1 locs1 hEx hP1 hS1 hce hcv hcl => ?_) (fun ad1 H1 locs1 h0 had hP hD hS => ?_)
  · rcases hEx with ⟨h1, rfl⟩ | ⟨h1, rfl⟩ | ⟨h1, rfl⟩
    · have h00 : xq ≠ 0 := by omega
      obtain ⟨e3, e4⟩ := e2 h00
      rw [e3, e4]
      refine vx_catch hown [] ⟨0, 91, 92, 32⟩ [⟨0, 91, 97, 35⟩, ⟨0, 91, 102, 37⟩] (by rw [htab]; rfl) (fun zq hz => absurd hz List.not_mem_nil) (by decide) (by decide) (hts (.classLink RL 32 exI) (by decide +kernel)) (va_Nw.use rfl hE.2.2.1.1) hce hcv hcl ?_
      refine lv_astore (lv' := [(4, .ref q9), (0, .ref (ad 0)), (1, .int (nI 3)), (2, .int p0), (3, .int p1)]) hx hb dL_does_92 hl (by decide) rfl (fun ls hl => ?_)
      refine lv_ldc (v := (-3000000)) hx hb hown (hts (.constant RL 34 ((-3000000))) (by decide +kernel)) dL_does_94 ?_
      refine vx_ret (mc := 4) (ms := 24) (W.widen (k := 4) (n := 24) (Nat.le_of_ble_eq_true rfl) (Nat.le_of_ble_eq_true rfl) ?_)
      exact W.iret (v := (-3000000)) hx hb hr (fun t ht hW => ⟨⟨(-3000000), ad, rfl, rV_x h00, ⟨⟨by rw [ht]; exact wP_l hP1, va_K.moved hW.alike hK⟩, wD_l hD⟩, fun _ _ => rfl⟩, hS1.F ht⟩) hS1.2.2 dL_does_96
    · have h00 : xq ≠ 0 := by omega
      obtain ⟨e3, e4⟩ := e2 h00
      rw [e3, e4]
      refine vx_catch hown [⟨0, 91, 92, 32⟩] ⟨0, 91, 97, 35⟩ [⟨0, 91, 102, 37⟩] (by rw [htab]; rfl) (fun zq hz => by rw [List.mem_singleton.mp hz]; exact Or.inr ⟨by decide, exI, hts (.classLink RL 32 exI) (by decide +kernel), hN.1⟩) (by decide) (by decide) (hts (.classLink RL 35 exA) (by decide +kernel)) (va_Nw.use rfl hE.2.2.1.2.1) hce hcv hcl ?_
      refine lv_astore (lv' := [(4, .ref q9), (0, .ref (ad 0)), (1, .int (nI 3)), (2, .int p0), (3, .int p1)]) hx hb dL_does_97 hl (by decide) rfl (fun ls hl => ?_)
      refine lv_ldc (v := (-3000000)) hx hb hown (hts (.constant RL 34 ((-3000000))) (by decide +kernel)) dL_does_99 ?_
      refine vx_ret (mc := 4) (ms := 24) (W.widen (k := 4) (n := 24) (Nat.le_of_ble_eq_true rfl) (Nat.le_of_ble_eq_true rfl) ?_)
      exact W.iret (v := (-3000000)) hx hb hr (fun t ht hW => ⟨⟨(-3000000), ad, rfl, rV_x h00, ⟨⟨by rw [ht]; exact wP_l hP1, va_K.moved hW.alike hK⟩, wD_l hD⟩, fun _ _ => rfl⟩, hS1.F ht⟩) hS1.2.2 dL_does_101
    · have h00 : xq ≠ 0 := by omega
      obtain ⟨e3, e4⟩ := e2 h00
      rw [e3, e4]
      have hps : ∀ zq ∈ ([⟨0, 91, 92, 32⟩, ⟨0, 91, 97, 35⟩] : List ExceptionTableEntry), covers zq 66 = false ∨ (zq.catchType ≠ 0 ∧ ∃ nm : String, (Cond.classLink RL zq.catchType nm).before (#[.ref (ad 0), .int (nI 3), .int p0, .int p1] : Array Value) s = true ∧ va_Nc exS nm s) := by
        intro zq hz
        rcases List.mem_cons.mp hz with hz | hz
        · rw [hz]; exact Or.inr ⟨by decide, exI, hts (.classLink RL 32 exI) (by decide +kernel), hN.2.1⟩
        · rw [List.mem_singleton.mp hz]; exact Or.inr ⟨by decide, exA, hts (.classLink RL 35 exA) (by decide +kernel), hN.2.2⟩
      refine vx_catch hown [⟨0, 91, 92, 32⟩, ⟨0, 91, 97, 35⟩] ⟨0, 91, 102, 37⟩ [] (by rw [htab]; rfl) hps (by decide) (by decide) (hts (.classLink RL 37 exS) (by decide +kernel)) (va_Nw.use rfl hE.2.2.1.2.2) hce hcv hcl ?_
      refine lv_astore (lv' := [(4, .ref q9), (0, .ref (ad 0)), (1, .int (nI 3)), (2, .int p0), (3, .int p1)]) hx hb dL_does_102 hl (by decide) rfl (fun ls hl => ?_)
      refine lv_ldc (v := (-3000000)) hx hb hown (hts (.constant RL 34 ((-3000000))) (by decide +kernel)) dL_does_104 ?_
      refine vx_ret (mc := 4) (ms := 24) (W.widen (k := 4) (n := 24) (Nat.le_of_ble_eq_true rfl) (Nat.le_of_ble_eq_true rfl) ?_)
      exact W.iret (v := (-3000000)) hx hb hr (fun t ht hW => ⟨⟨(-3000000), ad, rfl, rV_x h00, ⟨⟨by rw [ht]; exact wP_l hP1, va_K.moved hW.alike hK⟩, wD_l hD⟩, fun _ _ => rfl⟩, hS1.F ht⟩) hS1.2.2 dL_does_106
  · obtain ⟨e3, e4⟩ := e1 h0
    rw [e3, e4]
    refine lv_goto (tgt := 91) hx hb dL_does_69 (by decide) ?_
    refine vx_ret (mc := 4) (ms := 24) (W.widen (k := 4) (n := 24) (Nat.le_of_ble_eq_true rfl) (Nat.le_of_ble_eq_true rfl) ?_)
    exact W.iret (v := rr) hx hb hr (fun t ht hW => ⟨⟨rr, ad1, rfl, rV_0 h0, ⟨⟨by rw [ht]; exact wP_l hP, va_K.moved hW.alike hK⟩, wD_l hD⟩, had⟩, hS.F ht⟩) hS.2.2 dL_does_91
set_option maxRecDepth 100000 in
set_option maxHeartbeats 2000000 in
theorem c_L_does4 (l : Launch) (sa : Nat → Nat) (D : va_G) (k : Nat → ClassId) (ad : Nat → Nat) (M : Nat → Nat → Nat) (O : Nat → Nat → Int32) (sz : Nat) (p0 p1 : Int32) {M' M1 : Nat → Nat → Nat} {O' O1 : Nat → Nat → Int32} {xq : Nat} {rr : Int32} (hM : vx_Met l yX2_openAnew wsX2_openAnew ({ frames := 7, cells := 2, slots := 12, locals := 104 }) (va_Pc [.ref (ad 0), .int p0] (zPre D k ad M O sz sa)) (zQop D k ad M M' O' (va_A (zw (20 + 2 * M 0 1) ad (cX k ad M O)) sz) xq rr) (zX (fun E => exC E xq)) 2 12 (va_A (zw (20 + 2 * M 0 1) ad (cX k ad M O)) sz)) (e1 : xq = 0 → M1 = M' ∧ O1 = O') (e2 : xq ≠ 0 → M1 = M ∧ O1 = O) : vx_Met l yL_does wsL_does ({ frames := 9, cells := 4, slots := 24, locals := 150 }) (va_Pc [.ref (ad 0), .int (nI 4), .int p0, .int p1] (tPre D k ad M O sz sa)) (tQ D k ad M M1 O1 (va_A (zw (20 + 2 * M 0 1) ad (cX k ad M O)) sz) (rV xq rr)) (zX (fun _ => False)) 4 24 (va_A (zw (20 + 2 * M 0 1) ad (cX k ad M O)) sz) := by
  refine vx_ofWH (cc := cL_does) (maxL := 5) (ret := (some .int)) (by decide) rfl ?_
  intro p e s m args below meth c s₁ B hml hv
  obtain ⟨rfl, ⟨⟨hsz, ⟨hP, hK⟩, hD0⟩, hE⟩, hN⟩ := hv
  have hx := B.exec
  have hb := B.bytes
  have hr := B.returns
  have hts := atoms_spec (ws := wsL_does) B.pre
  have hown : s.vm.findClass RL = some m.cls := findClass_of_methodNamed B.named
  have hlocks := B.notSynchronized
  have F : CallFix p m c cL_does 5 s _ wsL_does RL := ⟨hx, hb, hml, hown, hts⟩
  have htab : c.exceptionTable.toList = tableOf [(0, 91, 92, 32), (0, 91, 97, 35), (0, 91, 102, 37)] := vx_table (x := yL_does) B (hts _ List.mem_cons_self)
  subst hsz
  have hD := hD0.self (sz := s.heap.size)
  generalize hAe : va_A (zw (20 + 2 * M 0 1) ad (cX k ad M O)) s.heap.size = A at hD hE ⊢
  have hA : ∀ q : Nat, s.heap.size ≤ q → A q := fun q h => by rw [← hAe]; exact Or.inr h
  have hS : va_S A s.heap s.heap [] := va_S.rf
  have hP := wP_n hP
  have hD := wD_n hD
  have hl := lv_entry ([.ref (ad 0), .int (nI 4), .int p0, .int p1]) (n := 5) (Nat.le_of_ble_eq_true rfl)
  rw [lg_entry_eq]
  generalize (lg_sl ([.ref (ad 0), .int (nI 4), .int p0, .int p1]) ++ List.replicate (5 - (lg_sl ([.ref (ad 0), .int (nI 4), .int p0, .int p1])).length) Slot.unset).toArray = ls at hl ⊢
  have hl : lv_has ls 5 [(0, .ref (ad 0)), (1, .int (nI 4)), (2, .int p0), (3, .int p1)] := hl
  refine lv_iload_n hx hb dL_does_0 rfl (lv_at hl 1 rfl) ?_
  refine z_ifn_neT (tgt := 13) F (by decide) dL_does_1 (by decide) ?_
  refine lv_iload_n hx hb dL_does_13 rfl (lv_at hl 1 rfl) ?_
  refine lv_iconst (v := nI 1) hx hb dL_does_14 (by decide) ?_
  refine z_icmp_ne (tgt := 44) F (by omega) (by omega) dL_does_15 (by decide) (fun _ => ?_) (fun zc => absurd zc (by decide))
  refine lv_iload_n hx hb dL_does_44 rfl (lv_at hl 1 rfl) ?_
  refine lv_iconst (v := nI 2) hx hb dL_does_45 (by decide) ?_
  refine z_icmp_ne (tgt := 58) F (by omega) (by omega) dL_does_46 (by decide) (fun _ => ?_) (fun zc => absurd zc (by decide))
  refine lv_iload_n hx hb dL_does_58 rfl (lv_at hl 1 rfl) ?_
  refine lv_iconst (v := nI 3) hx hb dL_does_59 (by decide) ?_
  refine z_icmp_ne (tgt := 72) F (by omega) (by omega) dL_does_60 (by decide) (fun _ => ?_) (fun zc => absurd zc (by decide))
  refine lv_iload_n hx hb dL_does_72 rfl (lv_at hl 1 rfl) ?_
  refine lv_iconst (v := nI 4) hx hb dL_does_73 (by decide) ?_
  refine z_icmp_ne (tgt := 85) F (by omega) (by omega) dL_does_74 (by decide) (fun zc => absurd zc (by decide)) (fun _ => ?_)
  refine lv_aload_n hx hb dL_does_77 rfl (lv_at hl 0 rfl) ?_
  refine lv_iload_n hx hb dL_does_78 rfl (lv_at hl 2 rfl) ?_
  refine lx_call (wb := []) (As := [.int p0]) (rest := []) F hM (cwV 1 hts gL_does_X2_openAnew rfl rfl rfl (by decide +kernel) ⟨Nat.le_of_ble_eq_true rfl, Nat.le_of_ble_eq_true rfl⟩) hK hP hD hS hA hE rfl hl.1 rfl (Nat.le_of_ble_eq_true rfl) dL_does_79 ⟨Nat.le_of_ble_eq_true rfl, Nat.le_of_ble_eq_true rfl⟩ (fun E ce q9 H1 locs1 hEx hP1 hS1 hce hcv hcl => ?_) (fun ad1 H1 locs1 h0 had hP hD hS => ?_)
  · rcases hEx with ⟨h1, rfl⟩ | ⟨h1, rfl⟩ | ⟨h1, rfl⟩
    · have h00 : xq ≠ 0 := by omega
      obtain ⟨e3, e4⟩ := e2 h00
      rw [e3, e4]
      refine vx_catch hown [] ⟨0, 91, 92, 32⟩ [⟨0, 91, 97, 35⟩, ⟨0, 91, 102, 37⟩] (by rw [htab]; rfl) (fun zq hz => absurd hz List.not_mem_nil) (by decide) (by decide) (hts (.classLink RL 32 exI) (by decide +kernel)) (va_Nw.use rfl hE.2.2.1.1) hce hcv hcl ?_
      refine lv_astore (lv' := [(4, .ref q9), (0, .ref (ad 0)), (1, .int (nI 4)), (2, .int p0), (3, .int p1)]) hx hb dL_does_92 hl (by decide) rfl (fun ls hl => ?_)
      refine lv_ldc (v := (-3000000)) hx hb hown (hts (.constant RL 34 ((-3000000))) (by decide +kernel)) dL_does_94 ?_
      refine vx_ret (mc := 4) (ms := 24) (W.widen (k := 4) (n := 24) (Nat.le_of_ble_eq_true rfl) (Nat.le_of_ble_eq_true rfl) ?_)
      exact W.iret (v := (-3000000)) hx hb hr (fun t ht hW => ⟨⟨(-3000000), ad, rfl, rV_x h00, ⟨⟨by rw [ht]; exact wP_l hP1, va_K.moved hW.alike hK⟩, wD_l hD⟩, fun _ _ => rfl⟩, hS1.F ht⟩) hS1.2.2 dL_does_96
    · have h00 : xq ≠ 0 := by omega
      obtain ⟨e3, e4⟩ := e2 h00
      rw [e3, e4]
      refine vx_catch hown [⟨0, 91, 92, 32⟩] ⟨0, 91, 97, 35⟩ [⟨0, 91, 102, 37⟩] (by rw [htab]; rfl) (fun zq hz => by rw [List.mem_singleton.mp hz]; exact Or.inr ⟨by decide, exI, hts (.classLink RL 32 exI) (by decide +kernel), hN.1⟩) (by decide) (by decide) (hts (.classLink RL 35 exA) (by decide +kernel)) (va_Nw.use rfl hE.2.2.1.2.1) hce hcv hcl ?_
      refine lv_astore (lv' := [(4, .ref q9), (0, .ref (ad 0)), (1, .int (nI 4)), (2, .int p0), (3, .int p1)]) hx hb dL_does_97 hl (by decide) rfl (fun ls hl => ?_)
      refine lv_ldc (v := (-3000000)) hx hb hown (hts (.constant RL 34 ((-3000000))) (by decide +kernel)) dL_does_99 ?_
      refine vx_ret (mc := 4) (ms := 24) (W.widen (k := 4) (n := 24) (Nat.le_of_ble_eq_true rfl) (Nat.le_of_ble_eq_true rfl) ?_)
      exact W.iret (v := (-3000000)) hx hb hr (fun t ht hW => ⟨⟨(-3000000), ad, rfl, rV_x h00, ⟨⟨by rw [ht]; exact wP_l hP1, va_K.moved hW.alike hK⟩, wD_l hD⟩, fun _ _ => rfl⟩, hS1.F ht⟩) hS1.2.2 dL_does_101
    · have h00 : xq ≠ 0 := by omega
      obtain ⟨e3, e4⟩ := e2 h00
      rw [e3, e4]
      have hps : ∀ zq ∈ ([⟨0, 91, 92, 32⟩, ⟨0, 91, 97, 35⟩] : List ExceptionTableEntry), covers zq 79 = false ∨ (zq.catchType ≠ 0 ∧ ∃ nm : String, (Cond.classLink RL zq.catchType nm).before (#[.ref (ad 0), .int (nI 4), .int p0, .int p1] : Array Value) s = true ∧ va_Nc exS nm s) := by
        intro zq hz
        rcases List.mem_cons.mp hz with hz | hz
        · rw [hz]; exact Or.inr ⟨by decide, exI, hts (.classLink RL 32 exI) (by decide +kernel), hN.2.1⟩
        · rw [List.mem_singleton.mp hz]; exact Or.inr ⟨by decide, exA, hts (.classLink RL 35 exA) (by decide +kernel), hN.2.2⟩
      refine vx_catch hown [⟨0, 91, 92, 32⟩, ⟨0, 91, 97, 35⟩] ⟨0, 91, 102, 37⟩ [] (by rw [htab]; rfl) hps (by decide) (by decide) (hts (.classLink RL 37 exS) (by decide +kernel)) (va_Nw.use rfl hE.2.2.1.2.2) hce hcv hcl ?_
      refine lv_astore (lv' := [(4, .ref q9), (0, .ref (ad 0)), (1, .int (nI 4)), (2, .int p0), (3, .int p1)]) hx hb dL_does_102 hl (by decide) rfl (fun ls hl => ?_)
      refine lv_ldc (v := (-3000000)) hx hb hown (hts (.constant RL 34 ((-3000000))) (by decide +kernel)) dL_does_104 ?_
      refine vx_ret (mc := 4) (ms := 24) (W.widen (k := 4) (n := 24) (Nat.le_of_ble_eq_true rfl) (Nat.le_of_ble_eq_true rfl) ?_)
      exact W.iret (v := (-3000000)) hx hb hr (fun t ht hW => ⟨⟨(-3000000), ad, rfl, rV_x h00, ⟨⟨by rw [ht]; exact wP_l hP1, va_K.moved hW.alike hK⟩, wD_l hD⟩, fun _ _ => rfl⟩, hS1.F ht⟩) hS1.2.2 dL_does_106
  · obtain ⟨e3, e4⟩ := e1 h0
    rw [e3, e4]
    refine lv_goto (tgt := 91) hx hb dL_does_82 (by decide) ?_
    refine vx_ret (mc := 4) (ms := 24) (W.widen (k := 4) (n := 24) (Nat.le_of_ble_eq_true rfl) (Nat.le_of_ble_eq_true rfl) ?_)
    exact W.iret (v := rr) hx hb hr (fun t ht hW => ⟨⟨rr, ad1, rfl, rV_0 h0, ⟨⟨by rw [ht]; exact wP_l hP, va_K.moved hW.alike hK⟩, wD_l hD⟩, had⟩, hS.F ht⟩) hS.2.2 dL_does_91
set_option maxRecDepth 100000 in
set_option maxHeartbeats 2000000 in
theorem c_L_does5 (l : Launch) (sa : Nat → Nat) (D : va_G) (k : Nat → ClassId) (ad : Nat → Nat) (M : Nat → Nat → Nat) (O : Nat → Nat → Int32) (sz : Nat) (p0 p1 : Int32) {M' M1 : Nat → Nat → Nat} {O' O1 : Nat → Nat → Int32} {xq : Nat} {rr : Int32} (hM : vx_Met l yX2_work wsX2_work ({ frames := 8, cells := 3, slots := 18, locals := 124 }) (va_Pc [.ref (ad 0), .int p0, .int p1] (zPre D k ad M O sz sa)) (zQop D k ad M M' O' (va_A (zw (20 + 2 * M 0 1) ad (cX k ad M O)) sz) xq rr) (zX (fun E => exC E xq)) 3 18 (va_A (zw (20 + 2 * M 0 1) ad (cX k ad M O)) sz)) (e1 : xq = 0 → M1 = M' ∧ O1 = O') (e2 : xq ≠ 0 → M1 = M ∧ O1 = O) : vx_Met l yL_does wsL_does ({ frames := 9, cells := 4, slots := 24, locals := 150 }) (va_Pc [.ref (ad 0), .int (nI 5), .int p0, .int p1] (tPre D k ad M O sz sa)) (tQ D k ad M M1 O1 (va_A (zw (20 + 2 * M 0 1) ad (cX k ad M O)) sz) (rV xq rr)) (zX (fun _ => False)) 4 24 (va_A (zw (20 + 2 * M 0 1) ad (cX k ad M O)) sz) := by
  refine vx_ofWH (cc := cL_does) (maxL := 5) (ret := (some .int)) (by decide) rfl ?_
  intro p e s m args below meth c s₁ B hml hv
  obtain ⟨rfl, ⟨⟨hsz, ⟨hP, hK⟩, hD0⟩, hE⟩, hN⟩ := hv
  have hx := B.exec
  have hb := B.bytes
  have hr := B.returns
  have hts := atoms_spec (ws := wsL_does) B.pre
  have hown : s.vm.findClass RL = some m.cls := findClass_of_methodNamed B.named
  have hlocks := B.notSynchronized
  have F : CallFix p m c cL_does 5 s _ wsL_does RL := ⟨hx, hb, hml, hown, hts⟩
  have htab : c.exceptionTable.toList = tableOf [(0, 91, 92, 32), (0, 91, 97, 35), (0, 91, 102, 37)] := vx_table (x := yL_does) B (hts _ List.mem_cons_self)
  subst hsz
  have hD := hD0.self (sz := s.heap.size)
  generalize hAe : va_A (zw (20 + 2 * M 0 1) ad (cX k ad M O)) s.heap.size = A at hD hE ⊢
  have hA : ∀ q : Nat, s.heap.size ≤ q → A q := fun q h => by rw [← hAe]; exact Or.inr h
  have hS : va_S A s.heap s.heap [] := va_S.rf
  have hP := wP_n hP
  have hD := wD_n hD
  have hl := lv_entry ([.ref (ad 0), .int (nI 5), .int p0, .int p1]) (n := 5) (Nat.le_of_ble_eq_true rfl)
  rw [lg_entry_eq]
  generalize (lg_sl ([.ref (ad 0), .int (nI 5), .int p0, .int p1]) ++ List.replicate (5 - (lg_sl ([.ref (ad 0), .int (nI 5), .int p0, .int p1])).length) Slot.unset).toArray = ls at hl ⊢
  have hl : lv_has ls 5 [(0, .ref (ad 0)), (1, .int (nI 5)), (2, .int p0), (3, .int p1)] := hl
  refine lv_iload_n hx hb dL_does_0 rfl (lv_at hl 1 rfl) ?_
  refine z_ifn_neT (tgt := 13) F (by decide) dL_does_1 (by decide) ?_
  refine lv_iload_n hx hb dL_does_13 rfl (lv_at hl 1 rfl) ?_
  refine lv_iconst (v := nI 1) hx hb dL_does_14 (by decide) ?_
  refine z_icmp_ne (tgt := 44) F (by omega) (by omega) dL_does_15 (by decide) (fun _ => ?_) (fun zc => absurd zc (by decide))
  refine lv_iload_n hx hb dL_does_44 rfl (lv_at hl 1 rfl) ?_
  refine lv_iconst (v := nI 2) hx hb dL_does_45 (by decide) ?_
  refine z_icmp_ne (tgt := 58) F (by omega) (by omega) dL_does_46 (by decide) (fun _ => ?_) (fun zc => absurd zc (by decide))
  refine lv_iload_n hx hb dL_does_58 rfl (lv_at hl 1 rfl) ?_
  refine lv_iconst (v := nI 3) hx hb dL_does_59 (by decide) ?_
  refine z_icmp_ne (tgt := 72) F (by omega) (by omega) dL_does_60 (by decide) (fun _ => ?_) (fun zc => absurd zc (by decide))
  refine lv_iload_n hx hb dL_does_72 rfl (lv_at hl 1 rfl) ?_
  refine lv_iconst (v := nI 4) hx hb dL_does_73 (by decide) ?_
  refine z_icmp_ne (tgt := 85) F (by omega) (by omega) dL_does_74 (by decide) (fun _ => ?_) (fun zc => absurd zc (by decide))
  refine lv_aload_n hx hb dL_does_85 rfl (lv_at hl 0 rfl) ?_
  refine lv_iload_n hx hb dL_does_86 rfl (lv_at hl 2 rfl) ?_
  refine lv_iload_n hx hb dL_does_87 rfl (lv_at hl 3 rfl) ?_
  refine lx_call (wb := []) (As := [.int p0, .int p1]) (rest := []) F hM (cwV 2 hts gL_does_X2_work rfl rfl rfl (by decide +kernel) ⟨Nat.le_of_ble_eq_true rfl, Nat.le_of_ble_eq_true rfl⟩) hK hP hD hS hA hE rfl hl.1 rfl (Nat.le_of_ble_eq_true rfl) dL_does_88 ⟨Nat.le_of_ble_eq_true rfl, Nat.le_of_ble_eq_true rfl⟩ (fun E ce q9 H1 locs1 hEx hP1 hS1 hce hcv hcl => ?_) (fun ad1 H1 locs1 h0 had hP hD hS => ?_)
  · rcases hEx with ⟨h1, rfl⟩ | ⟨h1, rfl⟩ | ⟨h1, rfl⟩
    · have h00 : xq ≠ 0 := by omega
      obtain ⟨e3, e4⟩ := e2 h00
      rw [e3, e4]
      refine vx_catch hown [] ⟨0, 91, 92, 32⟩ [⟨0, 91, 97, 35⟩, ⟨0, 91, 102, 37⟩] (by rw [htab]; rfl) (fun zq hz => absurd hz List.not_mem_nil) (by decide) (by decide) (hts (.classLink RL 32 exI) (by decide +kernel)) (va_Nw.use rfl hE.2.2.1.1) hce hcv hcl ?_
      refine lv_astore (lv' := [(4, .ref q9), (0, .ref (ad 0)), (1, .int (nI 5)), (2, .int p0), (3, .int p1)]) hx hb dL_does_92 hl (by decide) rfl (fun ls hl => ?_)
      refine lv_ldc (v := (-3000000)) hx hb hown (hts (.constant RL 34 ((-3000000))) (by decide +kernel)) dL_does_94 ?_
      refine vx_ret (mc := 4) (ms := 24) (W.widen (k := 4) (n := 24) (Nat.le_of_ble_eq_true rfl) (Nat.le_of_ble_eq_true rfl) ?_)
      exact W.iret (v := (-3000000)) hx hb hr (fun t ht hW => ⟨⟨(-3000000), ad, rfl, rV_x h00, ⟨⟨by rw [ht]; exact wP_l hP1, va_K.moved hW.alike hK⟩, wD_l hD⟩, fun _ _ => rfl⟩, hS1.F ht⟩) hS1.2.2 dL_does_96
    · have h00 : xq ≠ 0 := by omega
      obtain ⟨e3, e4⟩ := e2 h00
      rw [e3, e4]
      refine vx_catch hown [⟨0, 91, 92, 32⟩] ⟨0, 91, 97, 35⟩ [⟨0, 91, 102, 37⟩] (by rw [htab]; rfl) (fun zq hz => by rw [List.mem_singleton.mp hz]; exact Or.inr ⟨by decide, exI, hts (.classLink RL 32 exI) (by decide +kernel), hN.1⟩) (by decide) (by decide) (hts (.classLink RL 35 exA) (by decide +kernel)) (va_Nw.use rfl hE.2.2.1.2.1) hce hcv hcl ?_
      refine lv_astore (lv' := [(4, .ref q9), (0, .ref (ad 0)), (1, .int (nI 5)), (2, .int p0), (3, .int p1)]) hx hb dL_does_97 hl (by decide) rfl (fun ls hl => ?_)
      refine lv_ldc (v := (-3000000)) hx hb hown (hts (.constant RL 34 ((-3000000))) (by decide +kernel)) dL_does_99 ?_
      refine vx_ret (mc := 4) (ms := 24) (W.widen (k := 4) (n := 24) (Nat.le_of_ble_eq_true rfl) (Nat.le_of_ble_eq_true rfl) ?_)
      exact W.iret (v := (-3000000)) hx hb hr (fun t ht hW => ⟨⟨(-3000000), ad, rfl, rV_x h00, ⟨⟨by rw [ht]; exact wP_l hP1, va_K.moved hW.alike hK⟩, wD_l hD⟩, fun _ _ => rfl⟩, hS1.F ht⟩) hS1.2.2 dL_does_101
    · have h00 : xq ≠ 0 := by omega
      obtain ⟨e3, e4⟩ := e2 h00
      rw [e3, e4]
      have hps : ∀ zq ∈ ([⟨0, 91, 92, 32⟩, ⟨0, 91, 97, 35⟩] : List ExceptionTableEntry), covers zq 88 = false ∨ (zq.catchType ≠ 0 ∧ ∃ nm : String, (Cond.classLink RL zq.catchType nm).before (#[.ref (ad 0), .int (nI 5), .int p0, .int p1] : Array Value) s = true ∧ va_Nc exS nm s) := by
        intro zq hz
        rcases List.mem_cons.mp hz with hz | hz
        · rw [hz]; exact Or.inr ⟨by decide, exI, hts (.classLink RL 32 exI) (by decide +kernel), hN.2.1⟩
        · rw [List.mem_singleton.mp hz]; exact Or.inr ⟨by decide, exA, hts (.classLink RL 35 exA) (by decide +kernel), hN.2.2⟩
      refine vx_catch hown [⟨0, 91, 92, 32⟩, ⟨0, 91, 97, 35⟩] ⟨0, 91, 102, 37⟩ [] (by rw [htab]; rfl) hps (by decide) (by decide) (hts (.classLink RL 37 exS) (by decide +kernel)) (va_Nw.use rfl hE.2.2.1.2.2) hce hcv hcl ?_
      refine lv_astore (lv' := [(4, .ref q9), (0, .ref (ad 0)), (1, .int (nI 5)), (2, .int p0), (3, .int p1)]) hx hb dL_does_102 hl (by decide) rfl (fun ls hl => ?_)
      refine lv_ldc (v := (-3000000)) hx hb hown (hts (.constant RL 34 ((-3000000))) (by decide +kernel)) dL_does_104 ?_
      refine vx_ret (mc := 4) (ms := 24) (W.widen (k := 4) (n := 24) (Nat.le_of_ble_eq_true rfl) (Nat.le_of_ble_eq_true rfl) ?_)
      exact W.iret (v := (-3000000)) hx hb hr (fun t ht hW => ⟨⟨(-3000000), ad, rfl, rV_x h00, ⟨⟨by rw [ht]; exact wP_l hP1, va_K.moved hW.alike hK⟩, wD_l hD⟩, fun _ _ => rfl⟩, hS1.F ht⟩) hS1.2.2 dL_does_106
  · obtain ⟨e3, e4⟩ := e1 h0
    rw [e3, e4]
    refine vx_ret (mc := 4) (ms := 24) (W.widen (k := 4) (n := 24) (Nat.le_of_ble_eq_true rfl) (Nat.le_of_ble_eq_true rfl) ?_)
    exact W.iret (v := rr) hx hb hr (fun t ht hW => ⟨⟨rr, ad1, rfl, rV_0 h0, ⟨⟨by rw [ht]; exact wP_l hP, va_K.moved hW.alike hK⟩, wD_l hD⟩, had⟩, hS.F ht⟩) hS.2.2 dL_does_91
set_option maxRecDepth 100000 in
set_option maxHeartbeats 2000000 in
theorem c_L_by0 (l : Launch) (sa : Nat → Nat) (D : va_G) (k : Nat → ClassId) (ad : Nat → Nat) (M : Nat → Nat → Nat) (O : Nat → Nat → Int32) (sz : Nat) (p0 p1 p2 : Int32) {M' M1 : Nat → Nat → Nat} {O' O1 : Nat → Nat → Int32} {xq : Nat} {rr : Int32} (hM : vx_Met l yX2_ahead wsX2_ahead ({ frames := 7, cells := 1, slots := 6, locals := 104 }) (va_Pc [.ref (ad 0), .int p0] (zPre D k ad M O sz sa)) (zQop D k ad M M' O' (va_A (zw (20 + 2 * M 0 1) ad (cX k ad M O)) sz) xq rr) (zX (fun E => exC E xq)) 1 6 (va_A (zw (20 + 2 * M 0 1) ad (cX k ad M O)) sz)) (h93 : xq ≠ 3) (e1 : xq = 0 → M1 = M' ∧ O1 = O') (e2 : xq ≠ 0 → M1 = M ∧ O1 = O) : vx_Met l yL_by wsL_by ({ frames := 9, cells := 3, slots := 18, locals := 150 }) (va_Pc [.ref (ad 0), .int (nI 0), .int p0, .int p1, .int p2] (tPre D k ad M O sz sa)) (tQ D k ad M M1 O1 (va_A (zw (20 + 2 * M 0 1) ad (cX k ad M O)) sz) (rV xq rr)) (zX (fun _ => False)) 3 18 (va_A (zw (20 + 2 * M 0 1) ad (cX k ad M O)) sz) := by
  refine vx_ofWH (cc := cL_by) (maxL := 6) (ret := (some .int)) (by decide) rfl ?_
  intro p e s m args below meth c s₁ B hml hv
  obtain ⟨rfl, ⟨⟨hsz, ⟨hP, hK⟩, hD0⟩, hE⟩, hN⟩ := hv
  have hx := B.exec
  have hb := B.bytes
  have hr := B.returns
  have hts := atoms_spec (ws := wsL_by) B.pre
  have hown : s.vm.findClass RL = some m.cls := findClass_of_methodNamed B.named
  have hlocks := B.notSynchronized
  have F : CallFix p m c cL_by 6 s _ wsL_by RL := ⟨hx, hb, hml, hown, hts⟩
  have htab : c.exceptionTable.toList = tableOf [(0, 101, 102, 32), (0, 101, 107, 35)] := vx_table (x := yL_by) B (hts _ List.mem_cons_self)
  subst hsz
  have hD := hD0.self (sz := s.heap.size)
  generalize hAe : va_A (zw (20 + 2 * M 0 1) ad (cX k ad M O)) s.heap.size = A at hD hE ⊢
  have hA : ∀ q : Nat, s.heap.size ≤ q → A q := fun q h => by rw [← hAe]; exact Or.inr h
  have hS : va_S A s.heap s.heap [] := va_S.rf
  have hP := wP_n hP
  have hD := wD_n hD
  have hl := lv_entry ([.ref (ad 0), .int (nI 0), .int p0, .int p1, .int p2]) (n := 6) (Nat.le_of_ble_eq_true rfl)
  rw [lg_entry_eq]
  generalize (lg_sl ([.ref (ad 0), .int (nI 0), .int p0, .int p1, .int p2]) ++ List.replicate (6 - (lg_sl ([.ref (ad 0), .int (nI 0), .int p0, .int p1, .int p2])).length) Slot.unset).toArray = ls at hl ⊢
  have hl : lv_has ls 6 [(0, .ref (ad 0)), (1, .int (nI 0)), (2, .int p0), (3, .int p1), (4, .int p2)] := hl
  refine lv_iload_n hx hb dL_by_0 rfl (lv_at hl 1 rfl) ?_
  refine z_ifn_neF (tgt := 12) F dL_by_1 (by decide) ?_
  refine lv_aload_n hx hb dL_by_4 rfl (lv_at hl 0 rfl) ?_
  refine lv_iload_n hx hb dL_by_5 rfl (lv_at hl 2 rfl) ?_
  refine lx_call (wb := []) (As := [.int p0]) (rest := []) F hM (cwV 1 hts gL_by_X2_ahead rfl rfl rfl (by decide +kernel) ⟨Nat.le_of_ble_eq_true rfl, Nat.le_of_ble_eq_true rfl⟩) hK hP hD hS hA hE rfl hl.1 rfl (Nat.le_of_ble_eq_true rfl) dL_by_6 ⟨Nat.le_of_ble_eq_true rfl, Nat.le_of_ble_eq_true rfl⟩ (fun E ce q9 H1 locs1 hEx hP1 hS1 hce hcv hcl => ?_) (fun ad1 H1 locs1 h0 had hP hD hS => ?_)
  · rcases hEx with ⟨h1, rfl⟩ | ⟨h1, rfl⟩ | ⟨h1, rfl⟩
    · have h00 : xq ≠ 0 := by omega
      obtain ⟨e3, e4⟩ := e2 h00
      rw [e3, e4]
      refine vx_catch hown [] ⟨0, 101, 102, 32⟩ [⟨0, 101, 107, 35⟩] (by rw [htab]; rfl) (fun zq hz => absurd hz List.not_mem_nil) (by decide) (by decide) (hts (.classLink RL 32 exI) (by decide +kernel)) (va_Nw.use rfl hE.2.2.1.1) hce hcv hcl ?_
      refine lv_astore (lv' := [(5, .ref q9), (0, .ref (ad 0)), (1, .int (nI 0)), (2, .int p0), (3, .int p1), (4, .int p2)]) hx hb dL_by_102 hl (by decide) rfl (fun ls hl => ?_)
      refine lv_ldc (v := (-3000000)) hx hb hown (hts (.constant RL 34 ((-3000000))) (by decide +kernel)) dL_by_104 ?_
      refine vx_ret (mc := 3) (ms := 18) (W.widen (k := 3) (n := 18) (Nat.le_of_ble_eq_true rfl) (Nat.le_of_ble_eq_true rfl) ?_)
      exact W.iret (v := (-3000000)) hx hb hr (fun t ht hW => ⟨⟨(-3000000), ad, rfl, rV_x h00, ⟨⟨by rw [ht]; exact wP_l hP1, va_K.moved hW.alike hK⟩, wD_l hD⟩, fun _ _ => rfl⟩, hS1.F ht⟩) hS1.2.2 dL_by_106
    · have h00 : xq ≠ 0 := by omega
      obtain ⟨e3, e4⟩ := e2 h00
      rw [e3, e4]
      refine vx_catch hown [⟨0, 101, 102, 32⟩] ⟨0, 101, 107, 35⟩ [] (by rw [htab]; rfl) (fun zq hz => by rw [List.mem_singleton.mp hz]; exact Or.inr ⟨by decide, exI, hts (.classLink RL 32 exI) (by decide +kernel), hN.1⟩) (by decide) (by decide) (hts (.classLink RL 35 exA) (by decide +kernel)) (va_Nw.use rfl hE.2.2.1.2.1) hce hcv hcl ?_
      refine lv_astore (lv' := [(5, .ref q9), (0, .ref (ad 0)), (1, .int (nI 0)), (2, .int p0), (3, .int p1), (4, .int p2)]) hx hb dL_by_107 hl (by decide) rfl (fun ls hl => ?_)
      refine lv_ldc (v := (-3000000)) hx hb hown (hts (.constant RL 34 ((-3000000))) (by decide +kernel)) dL_by_109 ?_
      refine vx_ret (mc := 3) (ms := 18) (W.widen (k := 3) (n := 18) (Nat.le_of_ble_eq_true rfl) (Nat.le_of_ble_eq_true rfl) ?_)
      exact W.iret (v := (-3000000)) hx hb hr (fun t ht hW => ⟨⟨(-3000000), ad, rfl, rV_x h00, ⟨⟨by rw [ht]; exact wP_l hP1, va_K.moved hW.alike hK⟩, wD_l hD⟩, fun _ _ => rfl⟩, hS1.F ht⟩) hS1.2.2 dL_by_111
    · exact absurd h1 h93
  · obtain ⟨e3, e4⟩ := e1 h0
    rw [e3, e4]
    refine lv_goto (tgt := 101) hx hb dL_by_9 (by decide) ?_
    refine vx_ret (mc := 3) (ms := 18) (W.widen (k := 3) (n := 18) (Nat.le_of_ble_eq_true rfl) (Nat.le_of_ble_eq_true rfl) ?_)
    exact W.iret (v := rr) hx hb hr (fun t ht hW => ⟨⟨rr, ad1, rfl, rV_0 h0, ⟨⟨by rw [ht]; exact wP_l hP, va_K.moved hW.alike hK⟩, wD_l hD⟩, had⟩, hS.F ht⟩) hS.2.2 dL_by_101
set_option maxRecDepth 100000 in
set_option maxHeartbeats 2000000 in
theorem c_L_by1 (l : Launch) (sa : Nat → Nat) (D : va_G) (k : Nat → ClassId) (ad : Nat → Nat) (M : Nat → Nat → Nat) (O : Nat → Nat → Int32) (sz : Nat) (p0 p1 p2 : Int32) {M' M1 : Nat → Nat → Nat} {O' O1 : Nat → Nat → Int32} {xq : Nat} {rr : Int32} (hM : vx_Met l yX2_owes wsX2_owes ({ frames := 7, cells := 1, slots := 6, locals := 104 }) (va_Pc [.ref (ad 0), .int p0] (zPre D k ad M O sz sa)) (zQop D k ad M M' O' (va_A (zw (20 + 2 * M 0 1) ad (cX k ad M O)) sz) xq rr) (zX (fun E => exC E xq)) 1 6 (va_A (zw (20 + 2 * M 0 1) ad (cX k ad M O)) sz)) (h93 : xq ≠ 3) (e1 : xq = 0 → M1 = M' ∧ O1 = O') (e2 : xq ≠ 0 → M1 = M ∧ O1 = O) : vx_Met l yL_by wsL_by ({ frames := 9, cells := 3, slots := 18, locals := 150 }) (va_Pc [.ref (ad 0), .int (nI 1), .int p0, .int p1, .int p2] (tPre D k ad M O sz sa)) (tQ D k ad M M1 O1 (va_A (zw (20 + 2 * M 0 1) ad (cX k ad M O)) sz) (rV xq rr)) (zX (fun _ => False)) 3 18 (va_A (zw (20 + 2 * M 0 1) ad (cX k ad M O)) sz) := by
  refine vx_ofWH (cc := cL_by) (maxL := 6) (ret := (some .int)) (by decide) rfl ?_
  intro p e s m args below meth c s₁ B hml hv
  obtain ⟨rfl, ⟨⟨hsz, ⟨hP, hK⟩, hD0⟩, hE⟩, hN⟩ := hv
  have hx := B.exec
  have hb := B.bytes
  have hr := B.returns
  have hts := atoms_spec (ws := wsL_by) B.pre
  have hown : s.vm.findClass RL = some m.cls := findClass_of_methodNamed B.named
  have hlocks := B.notSynchronized
  have F : CallFix p m c cL_by 6 s _ wsL_by RL := ⟨hx, hb, hml, hown, hts⟩
  have htab : c.exceptionTable.toList = tableOf [(0, 101, 102, 32), (0, 101, 107, 35)] := vx_table (x := yL_by) B (hts _ List.mem_cons_self)
  subst hsz
  have hD := hD0.self (sz := s.heap.size)
  generalize hAe : va_A (zw (20 + 2 * M 0 1) ad (cX k ad M O)) s.heap.size = A at hD hE ⊢
  have hA : ∀ q : Nat, s.heap.size ≤ q → A q := fun q h => by rw [← hAe]; exact Or.inr h
  have hS : va_S A s.heap s.heap [] := va_S.rf
  have hP := wP_n hP
  have hD := wD_n hD
  have hl := lv_entry ([.ref (ad 0), .int (nI 1), .int p0, .int p1, .int p2]) (n := 6) (Nat.le_of_ble_eq_true rfl)
  rw [lg_entry_eq]
  generalize (lg_sl ([.ref (ad 0), .int (nI 1), .int p0, .int p1, .int p2]) ++ List.replicate (6 - (lg_sl ([.ref (ad 0), .int (nI 1), .int p0, .int p1, .int p2])).length) Slot.unset).toArray = ls at hl ⊢
  have hl : lv_has ls 6 [(0, .ref (ad 0)), (1, .int (nI 1)), (2, .int p0), (3, .int p1), (4, .int p2)] := hl
  refine lv_iload_n hx hb dL_by_0 rfl (lv_at hl 1 rfl) ?_
  refine z_ifn_neT (tgt := 12) F (by decide) dL_by_1 (by decide) ?_
  refine lv_iload_n hx hb dL_by_12 rfl (lv_at hl 1 rfl) ?_
  refine lv_iconst (v := nI 1) hx hb dL_by_13 (by decide) ?_
  refine z_icmp_ne (tgt := 25) F (by omega) (by omega) dL_by_14 (by decide) (fun zc => absurd zc (by decide)) (fun _ => ?_)
  refine lv_aload_n hx hb dL_by_17 rfl (lv_at hl 0 rfl) ?_
  refine lv_iload_n hx hb dL_by_18 rfl (lv_at hl 2 rfl) ?_
  refine lx_call (wb := []) (As := [.int p0]) (rest := []) F hM (cwV 1 hts gL_by_X2_owes rfl rfl rfl (by decide +kernel) ⟨Nat.le_of_ble_eq_true rfl, Nat.le_of_ble_eq_true rfl⟩) hK hP hD hS hA hE rfl hl.1 rfl (Nat.le_of_ble_eq_true rfl) dL_by_19 ⟨Nat.le_of_ble_eq_true rfl, Nat.le_of_ble_eq_true rfl⟩ (fun E ce q9 H1 locs1 hEx hP1 hS1 hce hcv hcl => ?_) (fun ad1 H1 locs1 h0 had hP hD hS => ?_)
  · rcases hEx with ⟨h1, rfl⟩ | ⟨h1, rfl⟩ | ⟨h1, rfl⟩
    · have h00 : xq ≠ 0 := by omega
      obtain ⟨e3, e4⟩ := e2 h00
      rw [e3, e4]
      refine vx_catch hown [] ⟨0, 101, 102, 32⟩ [⟨0, 101, 107, 35⟩] (by rw [htab]; rfl) (fun zq hz => absurd hz List.not_mem_nil) (by decide) (by decide) (hts (.classLink RL 32 exI) (by decide +kernel)) (va_Nw.use rfl hE.2.2.1.1) hce hcv hcl ?_
      refine lv_astore (lv' := [(5, .ref q9), (0, .ref (ad 0)), (1, .int (nI 1)), (2, .int p0), (3, .int p1), (4, .int p2)]) hx hb dL_by_102 hl (by decide) rfl (fun ls hl => ?_)
      refine lv_ldc (v := (-3000000)) hx hb hown (hts (.constant RL 34 ((-3000000))) (by decide +kernel)) dL_by_104 ?_
      refine vx_ret (mc := 3) (ms := 18) (W.widen (k := 3) (n := 18) (Nat.le_of_ble_eq_true rfl) (Nat.le_of_ble_eq_true rfl) ?_)
      exact W.iret (v := (-3000000)) hx hb hr (fun t ht hW => ⟨⟨(-3000000), ad, rfl, rV_x h00, ⟨⟨by rw [ht]; exact wP_l hP1, va_K.moved hW.alike hK⟩, wD_l hD⟩, fun _ _ => rfl⟩, hS1.F ht⟩) hS1.2.2 dL_by_106
    · have h00 : xq ≠ 0 := by omega
      obtain ⟨e3, e4⟩ := e2 h00
      rw [e3, e4]
      refine vx_catch hown [⟨0, 101, 102, 32⟩] ⟨0, 101, 107, 35⟩ [] (by rw [htab]; rfl) (fun zq hz => by rw [List.mem_singleton.mp hz]; exact Or.inr ⟨by decide, exI, hts (.classLink RL 32 exI) (by decide +kernel), hN.1⟩) (by decide) (by decide) (hts (.classLink RL 35 exA) (by decide +kernel)) (va_Nw.use rfl hE.2.2.1.2.1) hce hcv hcl ?_
      refine lv_astore (lv' := [(5, .ref q9), (0, .ref (ad 0)), (1, .int (nI 1)), (2, .int p0), (3, .int p1), (4, .int p2)]) hx hb dL_by_107 hl (by decide) rfl (fun ls hl => ?_)
      refine lv_ldc (v := (-3000000)) hx hb hown (hts (.constant RL 34 ((-3000000))) (by decide +kernel)) dL_by_109 ?_
      refine vx_ret (mc := 3) (ms := 18) (W.widen (k := 3) (n := 18) (Nat.le_of_ble_eq_true rfl) (Nat.le_of_ble_eq_true rfl) ?_)
      exact W.iret (v := (-3000000)) hx hb hr (fun t ht hW => ⟨⟨(-3000000), ad, rfl, rV_x h00, ⟨⟨by rw [ht]; exact wP_l hP1, va_K.moved hW.alike hK⟩, wD_l hD⟩, fun _ _ => rfl⟩, hS1.F ht⟩) hS1.2.2 dL_by_111
    · exact absurd h1 h93
  · obtain ⟨e3, e4⟩ := e1 h0
    rw [e3, e4]
    refine lv_goto (tgt := 101) hx hb dL_by_22 (by decide) ?_
    refine vx_ret (mc := 3) (ms := 18) (W.widen (k := 3) (n := 18) (Nat.le_of_ble_eq_true rfl) (Nat.le_of_ble_eq_true rfl) ?_)
    exact W.iret (v := rr) hx hb hr (fun t ht hW => ⟨⟨rr, ad1, rfl, rV_0 h0, ⟨⟨by rw [ht]; exact wP_l hP, va_K.moved hW.alike hK⟩, wD_l hD⟩, had⟩, hS.F ht⟩) hS.2.2 dL_by_101
set_option maxRecDepth 100000 in
set_option maxHeartbeats 2000000 in
theorem c_L_by2 (l : Launch) (sa : Nat → Nat) (D : va_G) (k : Nat → ClassId) (ad : Nat → Nat) (M : Nat → Nat → Nat) (O : Nat → Nat → Int32) (sz : Nat) (p0 p1 p2 : Int32) {M' M1 : Nat → Nat → Nat} {O' O1 : Nat → Nat → Int32} {xq : Nat} {rr : Int32} (hM : vx_Met l yX2_hours wsX2_hours ({ frames := 8, cells := 3, slots := 18, locals := 124 }) (va_Pc [.ref (ad 0), .int p0, .int p1, .int p2] (zPre D k ad M O sz sa)) (zQop D k ad M M' O' (va_A (zw (20 + 2 * M 0 1) ad (cX k ad M O)) sz) xq rr) (zX (fun E => exC E xq)) 3 18 (va_A (zw (20 + 2 * M 0 1) ad (cX k ad M O)) sz)) (h93 : xq ≠ 3) (e1 : xq = 0 → M1 = M' ∧ O1 = O') (e2 : xq ≠ 0 → M1 = M ∧ O1 = O) : vx_Met l yL_by wsL_by ({ frames := 9, cells := 3, slots := 18, locals := 150 }) (va_Pc [.ref (ad 0), .int (nI 2), .int p0, .int p1, .int p2] (tPre D k ad M O sz sa)) (tQ D k ad M M1 O1 (va_A (zw (20 + 2 * M 0 1) ad (cX k ad M O)) sz) (rV xq rr)) (zX (fun _ => False)) 3 18 (va_A (zw (20 + 2 * M 0 1) ad (cX k ad M O)) sz) := by
  refine vx_ofWH (cc := cL_by) (maxL := 6) (ret := (some .int)) (by decide) rfl ?_
  intro p e s m args below meth c s₁ B hml hv
  obtain ⟨rfl, ⟨⟨hsz, ⟨hP, hK⟩, hD0⟩, hE⟩, hN⟩ := hv
  have hx := B.exec
  have hb := B.bytes
  have hr := B.returns
  have hts := atoms_spec (ws := wsL_by) B.pre
  have hown : s.vm.findClass RL = some m.cls := findClass_of_methodNamed B.named
  have hlocks := B.notSynchronized
  have F : CallFix p m c cL_by 6 s _ wsL_by RL := ⟨hx, hb, hml, hown, hts⟩
  have htab : c.exceptionTable.toList = tableOf [(0, 101, 102, 32), (0, 101, 107, 35)] := vx_table (x := yL_by) B (hts _ List.mem_cons_self)
  subst hsz
  have hD := hD0.self (sz := s.heap.size)
  generalize hAe : va_A (zw (20 + 2 * M 0 1) ad (cX k ad M O)) s.heap.size = A at hD hE ⊢
  have hA : ∀ q : Nat, s.heap.size ≤ q → A q := fun q h => by rw [← hAe]; exact Or.inr h
  have hS : va_S A s.heap s.heap [] := va_S.rf
  have hP := wP_n hP
  have hD := wD_n hD
  have hl := lv_entry ([.ref (ad 0), .int (nI 2), .int p0, .int p1, .int p2]) (n := 6) (Nat.le_of_ble_eq_true rfl)
  rw [lg_entry_eq]
  generalize (lg_sl ([.ref (ad 0), .int (nI 2), .int p0, .int p1, .int p2]) ++ List.replicate (6 - (lg_sl ([.ref (ad 0), .int (nI 2), .int p0, .int p1, .int p2])).length) Slot.unset).toArray = ls at hl ⊢
  have hl : lv_has ls 6 [(0, .ref (ad 0)), (1, .int (nI 2)), (2, .int p0), (3, .int p1), (4, .int p2)] := hl
  refine lv_iload_n hx hb dL_by_0 rfl (lv_at hl 1 rfl) ?_
  refine z_ifn_neT (tgt := 12) F (by decide) dL_by_1 (by decide) ?_
  refine lv_iload_n hx hb dL_by_12 rfl (lv_at hl 1 rfl) ?_
  refine lv_iconst (v := nI 1) hx hb dL_by_13 (by decide) ?_
  refine z_icmp_ne (tgt := 25) F (by omega) (by omega) dL_by_14 (by decide) (fun _ => ?_) (fun zc => absurd zc (by decide))
  refine lv_iload_n hx hb dL_by_25 rfl (lv_at hl 1 rfl) ?_
  refine lv_iconst (v := nI 2) hx hb dL_by_26 (by decide) ?_
  refine z_icmp_ne (tgt := 41) F (by omega) (by omega) dL_by_27 (by decide) (fun zc => absurd zc (by decide)) (fun _ => ?_)
  refine lv_aload_n hx hb dL_by_30 rfl (lv_at hl 0 rfl) ?_
  refine lv_iload_n hx hb dL_by_31 rfl (lv_at hl 2 rfl) ?_
  refine lv_iload_n hx hb dL_by_32 rfl (lv_at hl 3 rfl) ?_
  refine lv_iload hx hb dL_by_33 (lv_at hl 4 rfl) ?_
  refine lx_call (wb := []) (As := [.int p0, .int p1, .int p2]) (rest := []) F hM (cwV 3 hts gL_by_X2_hours rfl rfl rfl (by decide +kernel) ⟨Nat.le_of_ble_eq_true rfl, Nat.le_of_ble_eq_true rfl⟩) hK hP hD hS hA hE rfl hl.1 rfl (Nat.le_of_ble_eq_true rfl) dL_by_35 ⟨Nat.le_of_ble_eq_true rfl, Nat.le_of_ble_eq_true rfl⟩ (fun E ce q9 H1 locs1 hEx hP1 hS1 hce hcv hcl => ?_) (fun ad1 H1 locs1 h0 had hP hD hS => ?_)
  · rcases hEx with ⟨h1, rfl⟩ | ⟨h1, rfl⟩ | ⟨h1, rfl⟩
    · have h00 : xq ≠ 0 := by omega
      obtain ⟨e3, e4⟩ := e2 h00
      rw [e3, e4]
      refine vx_catch hown [] ⟨0, 101, 102, 32⟩ [⟨0, 101, 107, 35⟩] (by rw [htab]; rfl) (fun zq hz => absurd hz List.not_mem_nil) (by decide) (by decide) (hts (.classLink RL 32 exI) (by decide +kernel)) (va_Nw.use rfl hE.2.2.1.1) hce hcv hcl ?_
      refine lv_astore (lv' := [(5, .ref q9), (0, .ref (ad 0)), (1, .int (nI 2)), (2, .int p0), (3, .int p1), (4, .int p2)]) hx hb dL_by_102 hl (by decide) rfl (fun ls hl => ?_)
      refine lv_ldc (v := (-3000000)) hx hb hown (hts (.constant RL 34 ((-3000000))) (by decide +kernel)) dL_by_104 ?_
      refine vx_ret (mc := 3) (ms := 18) (W.widen (k := 3) (n := 18) (Nat.le_of_ble_eq_true rfl) (Nat.le_of_ble_eq_true rfl) ?_)
      exact W.iret (v := (-3000000)) hx hb hr (fun t ht hW => ⟨⟨(-3000000), ad, rfl, rV_x h00, ⟨⟨by rw [ht]; exact wP_l hP1, va_K.moved hW.alike hK⟩, wD_l hD⟩, fun _ _ => rfl⟩, hS1.F ht⟩) hS1.2.2 dL_by_106
    · have h00 : xq ≠ 0 := by omega
      obtain ⟨e3, e4⟩ := e2 h00
      rw [e3, e4]
      refine vx_catch hown [⟨0, 101, 102, 32⟩] ⟨0, 101, 107, 35⟩ [] (by rw [htab]; rfl) (fun zq hz => by rw [List.mem_singleton.mp hz]; exact Or.inr ⟨by decide, exI, hts (.classLink RL 32 exI) (by decide +kernel), hN.1⟩) (by decide) (by decide) (hts (.classLink RL 35 exA) (by decide +kernel)) (va_Nw.use rfl hE.2.2.1.2.1) hce hcv hcl ?_
      refine lv_astore (lv' := [(5, .ref q9), (0, .ref (ad 0)), (1, .int (nI 2)), (2, .int p0), (3, .int p1), (4, .int p2)]) hx hb dL_by_107 hl (by decide) rfl (fun ls hl => ?_)
      refine lv_ldc (v := (-3000000)) hx hb hown (hts (.constant RL 34 ((-3000000))) (by decide +kernel)) dL_by_109 ?_
      refine vx_ret (mc := 3) (ms := 18) (W.widen (k := 3) (n := 18) (Nat.le_of_ble_eq_true rfl) (Nat.le_of_ble_eq_true rfl) ?_)
      exact W.iret (v := (-3000000)) hx hb hr (fun t ht hW => ⟨⟨(-3000000), ad, rfl, rV_x h00, ⟨⟨by rw [ht]; exact wP_l hP1, va_K.moved hW.alike hK⟩, wD_l hD⟩, fun _ _ => rfl⟩, hS1.F ht⟩) hS1.2.2 dL_by_111
    · exact absurd h1 h93
  · obtain ⟨e3, e4⟩ := e1 h0
    rw [e3, e4]
    refine lv_goto (tgt := 101) hx hb dL_by_38 (by decide) ?_
    refine vx_ret (mc := 3) (ms := 18) (W.widen (k := 3) (n := 18) (Nat.le_of_ble_eq_true rfl) (Nat.le_of_ble_eq_true rfl) ?_)
    exact W.iret (v := rr) hx hb hr (fun t ht hW => ⟨⟨rr, ad1, rfl, rV_0 h0, ⟨⟨by rw [ht]; exact wP_l hP, va_K.moved hW.alike hK⟩, wD_l hD⟩, had⟩, hS.F ht⟩) hS.2.2 dL_by_101
set_option maxRecDepth 100000 in
set_option maxHeartbeats 2000000 in
theorem c_L_by3 (l : Launch) (sa : Nat → Nat) (D : va_G) (k : Nat → ClassId) (ad : Nat → Nat) (M : Nat → Nat → Nat) (O : Nat → Nat → Int32) (sz : Nat) (p0 p1 p2 : Int32) {M' M1 : Nat → Nat → Nat} {O' O1 : Nat → Nat → Int32} {xq : Nat} {rr : Int32} (hM : vx_Met l yX2_hoursOneByOne wsX2_hoursOneByOne ({ frames := 8, cells := 3, slots := 18, locals := 124 }) (va_Pc [.ref (ad 0), .int p0, .int p1, .int p2] (zPre D k ad M O sz sa)) (zQop D k ad M M' O' (va_A (zw (20 + 2 * M 0 1) ad (cX k ad M O)) sz) xq rr) (zX (fun E => exC E xq)) 3 18 (va_A (zw (20 + 2 * M 0 1) ad (cX k ad M O)) sz)) (h93 : xq ≠ 3) (e1 : xq = 0 → M1 = M' ∧ O1 = O') (e2 : xq ≠ 0 → M1 = M ∧ O1 = O) : vx_Met l yL_by wsL_by ({ frames := 9, cells := 3, slots := 18, locals := 150 }) (va_Pc [.ref (ad 0), .int (nI 3), .int p0, .int p1, .int p2] (tPre D k ad M O sz sa)) (tQ D k ad M M1 O1 (va_A (zw (20 + 2 * M 0 1) ad (cX k ad M O)) sz) (rV xq rr)) (zX (fun _ => False)) 3 18 (va_A (zw (20 + 2 * M 0 1) ad (cX k ad M O)) sz) := by
  refine vx_ofWH (cc := cL_by) (maxL := 6) (ret := (some .int)) (by decide) rfl ?_
  intro p e s m args below meth c s₁ B hml hv
  obtain ⟨rfl, ⟨⟨hsz, ⟨hP, hK⟩, hD0⟩, hE⟩, hN⟩ := hv
  have hx := B.exec
  have hb := B.bytes
  have hr := B.returns
  have hts := atoms_spec (ws := wsL_by) B.pre
  have hown : s.vm.findClass RL = some m.cls := findClass_of_methodNamed B.named
  have hlocks := B.notSynchronized
  have F : CallFix p m c cL_by 6 s _ wsL_by RL := ⟨hx, hb, hml, hown, hts⟩
  have htab : c.exceptionTable.toList = tableOf [(0, 101, 102, 32), (0, 101, 107, 35)] := vx_table (x := yL_by) B (hts _ List.mem_cons_self)
  subst hsz
  have hD := hD0.self (sz := s.heap.size)
  generalize hAe : va_A (zw (20 + 2 * M 0 1) ad (cX k ad M O)) s.heap.size = A at hD hE ⊢
  have hA : ∀ q : Nat, s.heap.size ≤ q → A q := fun q h => by rw [← hAe]; exact Or.inr h
  have hS : va_S A s.heap s.heap [] := va_S.rf
  have hP := wP_n hP
  have hD := wD_n hD
  have hl := lv_entry ([.ref (ad 0), .int (nI 3), .int p0, .int p1, .int p2]) (n := 6) (Nat.le_of_ble_eq_true rfl)
  rw [lg_entry_eq]
  generalize (lg_sl ([.ref (ad 0), .int (nI 3), .int p0, .int p1, .int p2]) ++ List.replicate (6 - (lg_sl ([.ref (ad 0), .int (nI 3), .int p0, .int p1, .int p2])).length) Slot.unset).toArray = ls at hl ⊢
  have hl : lv_has ls 6 [(0, .ref (ad 0)), (1, .int (nI 3)), (2, .int p0), (3, .int p1), (4, .int p2)] := hl
  refine lv_iload_n hx hb dL_by_0 rfl (lv_at hl 1 rfl) ?_
  refine z_ifn_neT (tgt := 12) F (by decide) dL_by_1 (by decide) ?_
  refine lv_iload_n hx hb dL_by_12 rfl (lv_at hl 1 rfl) ?_
  refine lv_iconst (v := nI 1) hx hb dL_by_13 (by decide) ?_
  refine z_icmp_ne (tgt := 25) F (by omega) (by omega) dL_by_14 (by decide) (fun _ => ?_) (fun zc => absurd zc (by decide))
  refine lv_iload_n hx hb dL_by_25 rfl (lv_at hl 1 rfl) ?_
  refine lv_iconst (v := nI 2) hx hb dL_by_26 (by decide) ?_
  refine z_icmp_ne (tgt := 41) F (by omega) (by omega) dL_by_27 (by decide) (fun _ => ?_) (fun zc => absurd zc (by decide))
  refine lv_iload_n hx hb dL_by_41 rfl (lv_at hl 1 rfl) ?_
  refine lv_iconst (v := nI 3) hx hb dL_by_42 (by decide) ?_
  refine z_icmp_ne (tgt := 57) F (by omega) (by omega) dL_by_43 (by decide) (fun zc => absurd zc (by decide)) (fun _ => ?_)
  refine lv_aload_n hx hb dL_by_46 rfl (lv_at hl 0 rfl) ?_
  refine lv_iload_n hx hb dL_by_47 rfl (lv_at hl 2 rfl) ?_
  refine lv_iload_n hx hb dL_by_48 rfl (lv_at hl 3 rfl) ?_
  refine lv_iload hx hb dL_by_49 (lv_at hl 4 rfl) ?_
  refine lx_call (wb := []) (As := [.int p0, .int p1, .int p2]) (rest := []) F hM (cwV 3 hts gL_by_X2_hoursOneByOne rfl rfl rfl (by decide +kernel) ⟨Nat.le_of_ble_eq_true rfl, Nat.le_of_ble_eq_true rfl⟩) hK hP hD hS hA hE rfl hl.1 rfl (Nat.le_of_ble_eq_true rfl) dL_by_51 ⟨Nat.le_of_ble_eq_true rfl, Nat.le_of_ble_eq_true rfl⟩ (fun E ce q9 H1 locs1 hEx hP1 hS1 hce hcv hcl => ?_) (fun ad1 H1 locs1 h0 had hP hD hS => ?_)
  · rcases hEx with ⟨h1, rfl⟩ | ⟨h1, rfl⟩ | ⟨h1, rfl⟩
    · have h00 : xq ≠ 0 := by omega
      obtain ⟨e3, e4⟩ := e2 h00
      rw [e3, e4]
      refine vx_catch hown [] ⟨0, 101, 102, 32⟩ [⟨0, 101, 107, 35⟩] (by rw [htab]; rfl) (fun zq hz => absurd hz List.not_mem_nil) (by decide) (by decide) (hts (.classLink RL 32 exI) (by decide +kernel)) (va_Nw.use rfl hE.2.2.1.1) hce hcv hcl ?_
      refine lv_astore (lv' := [(5, .ref q9), (0, .ref (ad 0)), (1, .int (nI 3)), (2, .int p0), (3, .int p1), (4, .int p2)]) hx hb dL_by_102 hl (by decide) rfl (fun ls hl => ?_)
      refine lv_ldc (v := (-3000000)) hx hb hown (hts (.constant RL 34 ((-3000000))) (by decide +kernel)) dL_by_104 ?_
      refine vx_ret (mc := 3) (ms := 18) (W.widen (k := 3) (n := 18) (Nat.le_of_ble_eq_true rfl) (Nat.le_of_ble_eq_true rfl) ?_)
      exact W.iret (v := (-3000000)) hx hb hr (fun t ht hW => ⟨⟨(-3000000), ad, rfl, rV_x h00, ⟨⟨by rw [ht]; exact wP_l hP1, va_K.moved hW.alike hK⟩, wD_l hD⟩, fun _ _ => rfl⟩, hS1.F ht⟩) hS1.2.2 dL_by_106
    · have h00 : xq ≠ 0 := by omega
      obtain ⟨e3, e4⟩ := e2 h00
      rw [e3, e4]
      refine vx_catch hown [⟨0, 101, 102, 32⟩] ⟨0, 101, 107, 35⟩ [] (by rw [htab]; rfl) (fun zq hz => by rw [List.mem_singleton.mp hz]; exact Or.inr ⟨by decide, exI, hts (.classLink RL 32 exI) (by decide +kernel), hN.1⟩) (by decide) (by decide) (hts (.classLink RL 35 exA) (by decide +kernel)) (va_Nw.use rfl hE.2.2.1.2.1) hce hcv hcl ?_
      refine lv_astore (lv' := [(5, .ref q9), (0, .ref (ad 0)), (1, .int (nI 3)), (2, .int p0), (3, .int p1), (4, .int p2)]) hx hb dL_by_107 hl (by decide) rfl (fun ls hl => ?_)
      refine lv_ldc (v := (-3000000)) hx hb hown (hts (.constant RL 34 ((-3000000))) (by decide +kernel)) dL_by_109 ?_
      refine vx_ret (mc := 3) (ms := 18) (W.widen (k := 3) (n := 18) (Nat.le_of_ble_eq_true rfl) (Nat.le_of_ble_eq_true rfl) ?_)
      exact W.iret (v := (-3000000)) hx hb hr (fun t ht hW => ⟨⟨(-3000000), ad, rfl, rV_x h00, ⟨⟨by rw [ht]; exact wP_l hP1, va_K.moved hW.alike hK⟩, wD_l hD⟩, fun _ _ => rfl⟩, hS1.F ht⟩) hS1.2.2 dL_by_111
    · exact absurd h1 h93
  · obtain ⟨e3, e4⟩ := e1 h0
    rw [e3, e4]
    refine lv_goto (tgt := 101) hx hb dL_by_54 (by decide) ?_
    refine vx_ret (mc := 3) (ms := 18) (W.widen (k := 3) (n := 18) (Nat.le_of_ble_eq_true rfl) (Nat.le_of_ble_eq_true rfl) ?_)
    exact W.iret (v := rr) hx hb hr (fun t ht hW => ⟨⟨rr, ad1, rfl, rV_0 h0, ⟨⟨by rw [ht]; exact wP_l hP, va_K.moved hW.alike hK⟩, wD_l hD⟩, had⟩, hS.F ht⟩) hS.2.2 dL_by_101
set_option maxRecDepth 100000 in
set_option maxHeartbeats 2000000 in
theorem c_L_by4 (l : Launch) (sa : Nat → Nat) (D : va_G) (k : Nat → ClassId) (ad : Nat → Nat) (M : Nat → Nat → Nat) (O : Nat → Nat → Int32) (sz : Nat) (p0 p1 p2 : Int32) {M' M1 : Nat → Nat → Nat} {O' O1 : Nat → Nat → Int32} {xq : Nat} {rr : Int32} (hM : vx_Met l yX2_nextGap wsX2_nextGap ({ frames := 8, cells := 3, slots := 18, locals := 124 }) (va_Pc [.ref (ad 0), .int p0, .int (p1 - p1 / (nI 4) * (nI 4)), .int (p2 - p2 / (nI 1000) * (nI 1000))] (zPre D k ad M O sz sa)) (zQop D k ad M M' O' (va_A (zw (20 + 2 * M 0 1) ad (cX k ad M O)) sz) xq rr) (zX (fun E => exC E xq)) 3 18 (va_A (zw (20 + 2 * M 0 1) ad (cX k ad M O)) sz)) (h93 : xq ≠ 3) (e1 : xq = 0 → M1 = M' ∧ O1 = O') (e2 : xq ≠ 0 → M1 = M ∧ O1 = O) : vx_Met l yL_by wsL_by ({ frames := 9, cells := 3, slots := 18, locals := 150 }) (va_Pc [.ref (ad 0), .int (nI 4), .int p0, .int p1, .int p2] (tPre D k ad M O sz sa)) (tQ D k ad M M1 O1 (va_A (zw (20 + 2 * M 0 1) ad (cX k ad M O)) sz) (rV xq rr)) (zX (fun _ => False)) 3 18 (va_A (zw (20 + 2 * M 0 1) ad (cX k ad M O)) sz) := by
  refine vx_ofWH (cc := cL_by) (maxL := 6) (ret := (some .int)) (by decide) rfl ?_
  intro p e s m args below meth c s₁ B hml hv
  obtain ⟨rfl, ⟨⟨hsz, ⟨hP, hK⟩, hD0⟩, hE⟩, hN⟩ := hv
  have hx := B.exec
  have hb := B.bytes
  have hr := B.returns
  have hts := atoms_spec (ws := wsL_by) B.pre
  have hown : s.vm.findClass RL = some m.cls := findClass_of_methodNamed B.named
  have hlocks := B.notSynchronized
  have F : CallFix p m c cL_by 6 s _ wsL_by RL := ⟨hx, hb, hml, hown, hts⟩
  have htab : c.exceptionTable.toList = tableOf [(0, 101, 102, 32), (0, 101, 107, 35)] := vx_table (x := yL_by) B (hts _ List.mem_cons_self)
  subst hsz
  have hD := hD0.self (sz := s.heap.size)
  generalize hAe : va_A (zw (20 + 2 * M 0 1) ad (cX k ad M O)) s.heap.size = A at hD hE ⊢
  have hA : ∀ q : Nat, s.heap.size ≤ q → A q := fun q h => by rw [← hAe]; exact Or.inr h
  have hS : va_S A s.heap s.heap [] := va_S.rf
  have hP := wP_n hP
  have hD := wD_n hD
  have hl := lv_entry ([.ref (ad 0), .int (nI 4), .int p0, .int p1, .int p2]) (n := 6) (Nat.le_of_ble_eq_true rfl)
  rw [lg_entry_eq]
  generalize (lg_sl ([.ref (ad 0), .int (nI 4), .int p0, .int p1, .int p2]) ++ List.replicate (6 - (lg_sl ([.ref (ad 0), .int (nI 4), .int p0, .int p1, .int p2])).length) Slot.unset).toArray = ls at hl ⊢
  have hl : lv_has ls 6 [(0, .ref (ad 0)), (1, .int (nI 4)), (2, .int p0), (3, .int p1), (4, .int p2)] := hl
  refine lv_iload_n hx hb dL_by_0 rfl (lv_at hl 1 rfl) ?_
  refine z_ifn_neT (tgt := 12) F (by decide) dL_by_1 (by decide) ?_
  refine lv_iload_n hx hb dL_by_12 rfl (lv_at hl 1 rfl) ?_
  refine lv_iconst (v := nI 1) hx hb dL_by_13 (by decide) ?_
  refine z_icmp_ne (tgt := 25) F (by omega) (by omega) dL_by_14 (by decide) (fun _ => ?_) (fun zc => absurd zc (by decide))
  refine lv_iload_n hx hb dL_by_25 rfl (lv_at hl 1 rfl) ?_
  refine lv_iconst (v := nI 2) hx hb dL_by_26 (by decide) ?_
  refine z_icmp_ne (tgt := 41) F (by omega) (by omega) dL_by_27 (by decide) (fun _ => ?_) (fun zc => absurd zc (by decide))
  refine lv_iload_n hx hb dL_by_41 rfl (lv_at hl 1 rfl) ?_
  refine lv_iconst (v := nI 3) hx hb dL_by_42 (by decide) ?_
  refine z_icmp_ne (tgt := 57) F (by omega) (by omega) dL_by_43 (by decide) (fun _ => ?_) (fun zc => absurd zc (by decide))
  refine lv_iload_n hx hb dL_by_57 rfl (lv_at hl 1 rfl) ?_
  refine lv_iconst (v := nI 4) hx hb dL_by_58 (by decide) ?_
  refine z_icmp_ne (tgt := 79) F (by omega) (by omega) dL_by_59 (by decide) (fun zc => absurd zc (by decide)) (fun _ => ?_)
  refine lv_aload_n hx hb dL_by_62 rfl (lv_at hl 0 rfl) ?_
  refine lv_iload_n hx hb dL_by_63 rfl (lv_at hl 2 rfl) ?_
  refine lv_iload_n hx hb dL_by_64 rfl (lv_at hl 3 rfl) ?_
  refine lv_iconst (v := nI 4) hx hb dL_by_65 (by decide) ?_
  refine lv_irem hx hb dL_by_66 (by decide) ?_
  refine lv_iload hx hb dL_by_67 (lv_at hl 4 rfl) ?_
  refine lv_sipush (v := nI 1000) hx hb dL_by_69 (by decide) ?_
  refine lv_irem hx hb dL_by_72 (by decide) ?_
  refine lx_call (wb := []) (As := [.int p0, .int (p1 - p1 / (nI 4) * (nI 4)), .int (p2 - p2 / (nI 1000) * (nI 1000))]) (rest := []) F hM (cwV 3 hts gL_by_X2_nextGap rfl rfl rfl (by decide +kernel) ⟨Nat.le_of_ble_eq_true rfl, Nat.le_of_ble_eq_true rfl⟩) hK hP hD hS hA hE rfl hl.1 rfl (Nat.le_of_ble_eq_true rfl) dL_by_73 ⟨Nat.le_of_ble_eq_true rfl, Nat.le_of_ble_eq_true rfl⟩ (fun E ce q9 H1 locs1 hEx hP1 hS1 hce hcv hcl => ?_) (fun ad1 H1 locs1 h0 had hP hD hS => ?_)
  · rcases hEx with ⟨h1, rfl⟩ | ⟨h1, rfl⟩ | ⟨h1, rfl⟩
    · have h00 : xq ≠ 0 := by omega
      obtain ⟨e3, e4⟩ := e2 h00
      rw [e3, e4]
      refine vx_catch hown [] ⟨0, 101, 102, 32⟩ [⟨0, 101, 107, 35⟩] (by rw [htab]; rfl) (fun zq hz => absurd hz List.not_mem_nil) (by decide) (by decide) (hts (.classLink RL 32 exI) (by decide +kernel)) (va_Nw.use rfl hE.2.2.1.1) hce hcv hcl ?_
      refine lv_astore (lv' := [(5, .ref q9), (0, .ref (ad 0)), (1, .int (nI 4)), (2, .int p0), (3, .int p1), (4, .int p2)]) hx hb dL_by_102 hl (by decide) rfl (fun ls hl => ?_)
      refine lv_ldc (v := (-3000000)) hx hb hown (hts (.constant RL 34 ((-3000000))) (by decide +kernel)) dL_by_104 ?_
      refine vx_ret (mc := 3) (ms := 18) (W.widen (k := 3) (n := 18) (Nat.le_of_ble_eq_true rfl) (Nat.le_of_ble_eq_true rfl) ?_)
      exact W.iret (v := (-3000000)) hx hb hr (fun t ht hW => ⟨⟨(-3000000), ad, rfl, rV_x h00, ⟨⟨by rw [ht]; exact wP_l hP1, va_K.moved hW.alike hK⟩, wD_l hD⟩, fun _ _ => rfl⟩, hS1.F ht⟩) hS1.2.2 dL_by_106
    · have h00 : xq ≠ 0 := by omega
      obtain ⟨e3, e4⟩ := e2 h00
      rw [e3, e4]
      refine vx_catch hown [⟨0, 101, 102, 32⟩] ⟨0, 101, 107, 35⟩ [] (by rw [htab]; rfl) (fun zq hz => by rw [List.mem_singleton.mp hz]; exact Or.inr ⟨by decide, exI, hts (.classLink RL 32 exI) (by decide +kernel), hN.1⟩) (by decide) (by decide) (hts (.classLink RL 35 exA) (by decide +kernel)) (va_Nw.use rfl hE.2.2.1.2.1) hce hcv hcl ?_
      refine lv_astore (lv' := [(5, .ref q9), (0, .ref (ad 0)), (1, .int (nI 4)), (2, .int p0), (3, .int p1), (4, .int p2)]) hx hb dL_by_107 hl (by decide) rfl (fun ls hl => ?_)
      refine lv_ldc (v := (-3000000)) hx hb hown (hts (.constant RL 34 ((-3000000))) (by decide +kernel)) dL_by_109 ?_
      refine vx_ret (mc := 3) (ms := 18) (W.widen (k := 3) (n := 18) (Nat.le_of_ble_eq_true rfl) (Nat.le_of_ble_eq_true rfl) ?_)
      exact W.iret (v := (-3000000)) hx hb hr (fun t ht hW => ⟨⟨(-3000000), ad, rfl, rV_x h00, ⟨⟨by rw [ht]; exact wP_l hP1, va_K.moved hW.alike hK⟩, wD_l hD⟩, fun _ _ => rfl⟩, hS1.F ht⟩) hS1.2.2 dL_by_111
    · exact absurd h1 h93
  · obtain ⟨e3, e4⟩ := e1 h0
    rw [e3, e4]
    refine lv_goto (tgt := 101) hx hb dL_by_76 (by decide) ?_
    refine vx_ret (mc := 3) (ms := 18) (W.widen (k := 3) (n := 18) (Nat.le_of_ble_eq_true rfl) (Nat.le_of_ble_eq_true rfl) ?_)
    exact W.iret (v := rr) hx hb hr (fun t ht hW => ⟨⟨rr, ad1, rfl, rV_0 h0, ⟨⟨by rw [ht]; exact wP_l hP, va_K.moved hW.alike hK⟩, wD_l hD⟩, had⟩, hS.F ht⟩) hS.2.2 dL_by_101
set_option maxRecDepth 100000 in
set_option maxHeartbeats 2000000 in
theorem c_L_by5 (l : Launch) (sa : Nat → Nat) (D : va_G) (k : Nat → ClassId) (ad : Nat → Nat) (M : Nat → Nat → Nat) (O : Nat → Nat → Int32) (sz : Nat) (p0 p1 p2 : Int32) {M' M1 : Nat → Nat → Nat} {O' O1 : Nat → Nat → Int32} {xq : Nat} {rr : Int32} (hM : vx_Met l yX2_isCovered wsX2_isCovered ({ frames := 8, cells := 3, slots := 18, locals := 124 }) (va_Pc [.ref (ad 0), .int p0, .int (p1 - p1 / (nI 4) * (nI 4)), .int (p2 - p2 / (nI 1000) * (nI 1000))] (zPre D k ad M O sz sa)) (zQop D k ad M M' O' (va_A (zw (20 + 2 * M 0 1) ad (cX k ad M O)) sz) xq rr) (zX (fun E => exC E xq)) 3 18 (va_A (zw (20 + 2 * M 0 1) ad (cX k ad M O)) sz)) (h93 : xq ≠ 3) (e1 : xq = 0 → M1 = M' ∧ O1 = O') (e2 : xq ≠ 0 → M1 = M ∧ O1 = O) : vx_Met l yL_by wsL_by ({ frames := 9, cells := 3, slots := 18, locals := 150 }) (va_Pc [.ref (ad 0), .int (nI 5), .int p0, .int p1, .int p2] (tPre D k ad M O sz sa)) (tQ D k ad M M1 O1 (va_A (zw (20 + 2 * M 0 1) ad (cX k ad M O)) sz) (rV xq (fB rr))) (zX (fun _ => False)) 3 18 (va_A (zw (20 + 2 * M 0 1) ad (cX k ad M O)) sz) := by
  refine vx_ofWH (cc := cL_by) (maxL := 6) (ret := (some .int)) (by decide) rfl ?_
  intro p e s m args below meth c s₁ B hml hv
  obtain ⟨rfl, ⟨⟨hsz, ⟨hP, hK⟩, hD0⟩, hE⟩, hN⟩ := hv
  have hx := B.exec
  have hb := B.bytes
  have hr := B.returns
  have hts := atoms_spec (ws := wsL_by) B.pre
  have hown : s.vm.findClass RL = some m.cls := findClass_of_methodNamed B.named
  have hlocks := B.notSynchronized
  have F : CallFix p m c cL_by 6 s _ wsL_by RL := ⟨hx, hb, hml, hown, hts⟩
  have htab : c.exceptionTable.toList = tableOf [(0, 101, 102, 32), (0, 101, 107, 35)] := vx_table (x := yL_by) B (hts _ List.mem_cons_self)
  subst hsz
  have hD := hD0.self (sz := s.heap.size)
  generalize hAe : va_A (zw (20 + 2 * M 0 1) ad (cX k ad M O)) s.heap.size = A at hD hE ⊢
  have hA : ∀ q : Nat, s.heap.size ≤ q → A q := fun q h => by rw [← hAe]; exact Or.inr h
  have hS : va_S A s.heap s.heap [] := va_S.rf
  have hP := wP_n hP
  have hD := wD_n hD
  have hl := lv_entry ([.ref (ad 0), .int (nI 5), .int p0, .int p1, .int p2]) (n := 6) (Nat.le_of_ble_eq_true rfl)
  rw [lg_entry_eq]
  generalize (lg_sl ([.ref (ad 0), .int (nI 5), .int p0, .int p1, .int p2]) ++ List.replicate (6 - (lg_sl ([.ref (ad 0), .int (nI 5), .int p0, .int p1, .int p2])).length) Slot.unset).toArray = ls at hl ⊢
  have hl : lv_has ls 6 [(0, .ref (ad 0)), (1, .int (nI 5)), (2, .int p0), (3, .int p1), (4, .int p2)] := hl
  refine lv_iload_n hx hb dL_by_0 rfl (lv_at hl 1 rfl) ?_
  refine z_ifn_neT (tgt := 12) F (by decide) dL_by_1 (by decide) ?_
  refine lv_iload_n hx hb dL_by_12 rfl (lv_at hl 1 rfl) ?_
  refine lv_iconst (v := nI 1) hx hb dL_by_13 (by decide) ?_
  refine z_icmp_ne (tgt := 25) F (by omega) (by omega) dL_by_14 (by decide) (fun _ => ?_) (fun zc => absurd zc (by decide))
  refine lv_iload_n hx hb dL_by_25 rfl (lv_at hl 1 rfl) ?_
  refine lv_iconst (v := nI 2) hx hb dL_by_26 (by decide) ?_
  refine z_icmp_ne (tgt := 41) F (by omega) (by omega) dL_by_27 (by decide) (fun _ => ?_) (fun zc => absurd zc (by decide))
  refine lv_iload_n hx hb dL_by_41 rfl (lv_at hl 1 rfl) ?_
  refine lv_iconst (v := nI 3) hx hb dL_by_42 (by decide) ?_
  refine z_icmp_ne (tgt := 57) F (by omega) (by omega) dL_by_43 (by decide) (fun _ => ?_) (fun zc => absurd zc (by decide))
  refine lv_iload_n hx hb dL_by_57 rfl (lv_at hl 1 rfl) ?_
  refine lv_iconst (v := nI 4) hx hb dL_by_58 (by decide) ?_
  refine z_icmp_ne (tgt := 79) F (by omega) (by omega) dL_by_59 (by decide) (fun _ => ?_) (fun zc => absurd zc (by decide))
  refine lv_aload_n hx hb dL_by_79 rfl (lv_at hl 0 rfl) ?_
  refine lv_iload_n hx hb dL_by_80 rfl (lv_at hl 2 rfl) ?_
  refine lv_iload_n hx hb dL_by_81 rfl (lv_at hl 3 rfl) ?_
  refine lv_iconst (v := nI 4) hx hb dL_by_82 (by decide) ?_
  refine lv_irem hx hb dL_by_83 (by decide) ?_
  refine lv_iload hx hb dL_by_84 (lv_at hl 4 rfl) ?_
  refine lv_sipush (v := nI 1000) hx hb dL_by_86 (by decide) ?_
  refine lv_irem hx hb dL_by_89 (by decide) ?_
  refine lx_call (wb := []) (As := [.int p0, .int (p1 - p1 / (nI 4) * (nI 4)), .int (p2 - p2 / (nI 1000) * (nI 1000))]) (rest := []) F hM (cwV 3 hts gL_by_X2_isCovered rfl rfl rfl (by decide +kernel) ⟨Nat.le_of_ble_eq_true rfl, Nat.le_of_ble_eq_true rfl⟩) hK hP hD hS hA hE rfl hl.1 rfl (Nat.le_of_ble_eq_true rfl) dL_by_90 ⟨Nat.le_of_ble_eq_true rfl, Nat.le_of_ble_eq_true rfl⟩ (fun E ce q9 H1 locs1 hEx hP1 hS1 hce hcv hcl => ?_) (fun ad1 H1 locs1 h0 had hP hD hS => ?_)
  · rcases hEx with ⟨h1, rfl⟩ | ⟨h1, rfl⟩ | ⟨h1, rfl⟩
    · have h00 : xq ≠ 0 := by omega
      obtain ⟨e3, e4⟩ := e2 h00
      rw [e3, e4]
      refine vx_catch hown [] ⟨0, 101, 102, 32⟩ [⟨0, 101, 107, 35⟩] (by rw [htab]; rfl) (fun zq hz => absurd hz List.not_mem_nil) (by decide) (by decide) (hts (.classLink RL 32 exI) (by decide +kernel)) (va_Nw.use rfl hE.2.2.1.1) hce hcv hcl ?_
      refine lv_astore (lv' := [(5, .ref q9), (0, .ref (ad 0)), (1, .int (nI 5)), (2, .int p0), (3, .int p1), (4, .int p2)]) hx hb dL_by_102 hl (by decide) rfl (fun ls hl => ?_)
      refine lv_ldc (v := (-3000000)) hx hb hown (hts (.constant RL 34 ((-3000000))) (by decide +kernel)) dL_by_104 ?_
      refine vx_ret (mc := 3) (ms := 18) (W.widen (k := 3) (n := 18) (Nat.le_of_ble_eq_true rfl) (Nat.le_of_ble_eq_true rfl) ?_)
      exact W.iret (v := (-3000000)) hx hb hr (fun t ht hW => ⟨⟨(-3000000), ad, rfl, rV_x h00, ⟨⟨by rw [ht]; exact wP_l hP1, va_K.moved hW.alike hK⟩, wD_l hD⟩, fun _ _ => rfl⟩, hS1.F ht⟩) hS1.2.2 dL_by_106
    · have h00 : xq ≠ 0 := by omega
      obtain ⟨e3, e4⟩ := e2 h00
      rw [e3, e4]
      refine vx_catch hown [⟨0, 101, 102, 32⟩] ⟨0, 101, 107, 35⟩ [] (by rw [htab]; rfl) (fun zq hz => by rw [List.mem_singleton.mp hz]; exact Or.inr ⟨by decide, exI, hts (.classLink RL 32 exI) (by decide +kernel), hN.1⟩) (by decide) (by decide) (hts (.classLink RL 35 exA) (by decide +kernel)) (va_Nw.use rfl hE.2.2.1.2.1) hce hcv hcl ?_
      refine lv_astore (lv' := [(5, .ref q9), (0, .ref (ad 0)), (1, .int (nI 5)), (2, .int p0), (3, .int p1), (4, .int p2)]) hx hb dL_by_107 hl (by decide) rfl (fun ls hl => ?_)
      refine lv_ldc (v := (-3000000)) hx hb hown (hts (.constant RL 34 ((-3000000))) (by decide +kernel)) dL_by_109 ?_
      refine vx_ret (mc := 3) (ms := 18) (W.widen (k := 3) (n := 18) (Nat.le_of_ble_eq_true rfl) (Nat.le_of_ble_eq_true rfl) ?_)
      exact W.iret (v := (-3000000)) hx hb hr (fun t ht hW => ⟨⟨(-3000000), ad, rfl, rV_x h00, ⟨⟨by rw [ht]; exact wP_l hP1, va_K.moved hW.alike hK⟩, wD_l hD⟩, fun _ _ => rfl⟩, hS1.F ht⟩) hS1.2.2 dL_by_111
    · exact absurd h1 h93
  · obtain ⟨e3, e4⟩ := e1 h0
    rw [e3, e4]
    refine lv_if_eq (tgt := 100) hx hb dL_by_93 (by decide) (fun c23 => ?_) (fun c23 => ?_)
    · refine lv_iconst (v := nI 0) hx hb dL_by_100 (by decide) ?_
      refine vx_ret (mc := 3) (ms := 18) (W.widen (k := 3) (n := 18) (Nat.le_of_ble_eq_true rfl) (Nat.le_of_ble_eq_true rfl) ?_)
      exact W.iret (v := nI 0) hx hb hr (fun t ht hW => ⟨⟨nI 0, ad1, rfl, fB_0 h0 c23, ⟨⟨by rw [ht]; exact wP_l hP, va_K.moved hW.alike hK⟩, wD_l hD⟩, had⟩, hS.F ht⟩) hS.2.2 dL_by_101
    · refine lv_iconst (v := nI 1) hx hb dL_by_96 (by decide) ?_
      refine lv_goto (tgt := 101) hx hb dL_by_97 (by decide) ?_
      refine vx_ret (mc := 3) (ms := 18) (W.widen (k := 3) (n := 18) (Nat.le_of_ble_eq_true rfl) (Nat.le_of_ble_eq_true rfl) ?_)
      exact W.iret (v := nI 1) hx hb hr (fun t ht hW => ⟨⟨nI 1, ad1, rfl, fB_1 h0 c23, ⟨⟨by rw [ht]; exact wP_l hP, va_K.moved hW.alike hK⟩, wD_l hD⟩, had⟩, hS.F ht⟩) hS.2.2 dL_by_101
set_option maxRecDepth 100000 in
set_option maxHeartbeats 2000000 in
theorem c_L_of0 (l : Launch) (sa : Nat → Nat) (D : va_G) (k : Nat → ClassId) (ad : Nat → Nat) (M : Nat → Nat → Nat) (O : Nat → Nat → Int32) (sz : Nat) (p0 : Int32) {M' M1 : Nat → Nat → Nat} {O' O1 : Nat → Nat → Int32} {xq : Nat} {rr : Int32} (hM : vx_Met l yX2_clock wsX2_clock ({ frames := 8, cells := 2, slots := 12, locals := 124 }) (va_Pc [.ref (ad 0), .int p0, .int (nI 0)] (zPre D k ad M O sz sa)) (zQop D k ad M M' O' (va_A (zw (20 + 2 * M 0 1) ad (cX k ad M O)) sz) xq rr) (zX (fun E => exC E xq)) 2 12 (va_A (zw (20 + 2 * M 0 1) ad (cX k ad M O)) sz)) (h93 : xq ≠ 3) (e1 : xq = 0 → M1 = M' ∧ O1 = O') (e2 : xq ≠ 0 → M1 = M ∧ O1 = O) : vx_Met l yL_of wsL_of ({ frames := 9, cells := 2, slots := 12, locals := 147 }) (va_Pc [.ref (ad 0), .int (nI 0), .int p0] (tPre D k ad M O sz sa)) (tQ D k ad M M1 O1 (va_A (zw (20 + 2 * M 0 1) ad (cX k ad M O)) sz) (rV xq rr)) (zX (fun _ => False)) 2 12 (va_A (zw (20 + 2 * M 0 1) ad (cX k ad M O)) sz) := by
  refine vx_ofWH (cc := cL_of) (maxL := 4) (ret := (some .int)) (by decide) rfl ?_
  intro p e s m args below meth c s₁ B hml hv
  obtain ⟨rfl, ⟨⟨hsz, ⟨hP, hK⟩, hD0⟩, hE⟩, hN⟩ := hv
  have hx := B.exec
  have hb := B.bytes
  have hr := B.returns
  have hts := atoms_spec (ws := wsL_of) B.pre
  have hown : s.vm.findClass RL = some m.cls := findClass_of_methodNamed B.named
  have hlocks := B.notSynchronized
  have F : CallFix p m c cL_of 4 s _ wsL_of RL := ⟨hx, hb, hml, hown, hts⟩
  have htab : c.exceptionTable.toList = tableOf [(0, 58, 59, 32), (0, 58, 63, 35)] := vx_table (x := yL_of) B (hts _ List.mem_cons_self)
  subst hsz
  have hD := hD0.self (sz := s.heap.size)
  generalize hAe : va_A (zw (20 + 2 * M 0 1) ad (cX k ad M O)) s.heap.size = A at hD hE ⊢
  have hA : ∀ q : Nat, s.heap.size ≤ q → A q := fun q h => by rw [← hAe]; exact Or.inr h
  have hS : va_S A s.heap s.heap [] := va_S.rf
  have hP := wP_n hP
  have hD := wD_n hD
  have hl := lv_entry ([.ref (ad 0), .int (nI 0), .int p0]) (n := 4) (Nat.le_of_ble_eq_true rfl)
  rw [lg_entry_eq]
  generalize (lg_sl ([.ref (ad 0), .int (nI 0), .int p0]) ++ List.replicate (4 - (lg_sl ([.ref (ad 0), .int (nI 0), .int p0])).length) Slot.unset).toArray = ls at hl ⊢
  have hl : lv_has ls 4 [(0, .ref (ad 0)), (1, .int (nI 0)), (2, .int p0)] := hl
  refine lv_iload_n hx hb dL_of_0 rfl (lv_at hl 1 rfl) ?_
  refine lv_iconst (v := nI 3) hx hb dL_of_1 (by decide) ?_
  refine z_icmp_ge (tgt := 14) F (by omega) (by omega) dL_of_2 (by decide) (fun zc => absurd zc (by decide)) (fun _ => ?_)
  refine lv_aload_n hx hb dL_of_5 rfl (lv_at hl 0 rfl) ?_
  refine lv_iload_n hx hb dL_of_6 rfl (lv_at hl 2 rfl) ?_
  refine lv_iload_n hx hb dL_of_7 rfl (lv_at hl 1 rfl) ?_
  refine lx_call (wb := []) (As := [.int p0, .int (nI 0)]) (rest := []) F hM (cwV 2 hts gL_of_X2_clock rfl rfl rfl (by decide +kernel) ⟨Nat.le_of_ble_eq_true rfl, Nat.le_of_ble_eq_true rfl⟩) hK hP hD hS hA hE rfl hl.1 rfl (Nat.le_of_ble_eq_true rfl) dL_of_8 ⟨Nat.le_of_ble_eq_true rfl, Nat.le_of_ble_eq_true rfl⟩ (fun E ce q9 H1 locs1 hEx hP1 hS1 hce hcv hcl => ?_) (fun ad1 H1 locs1 h0 had hP hD hS => ?_)
  · rcases hEx with ⟨h1, rfl⟩ | ⟨h1, rfl⟩ | ⟨h1, rfl⟩
    · have h00 : xq ≠ 0 := by omega
      obtain ⟨e3, e4⟩ := e2 h00
      rw [e3, e4]
      refine vx_catch hown [] ⟨0, 58, 59, 32⟩ [⟨0, 58, 63, 35⟩] (by rw [htab]; rfl) (fun zq hz => absurd hz List.not_mem_nil) (by decide) (by decide) (hts (.classLink RL 32 exI) (by decide +kernel)) (va_Nw.use rfl hE.2.2.1.1) hce hcv hcl ?_
      refine lv_astore_n (lv' := [(3, .ref q9), (0, .ref (ad 0)), (1, .int (nI 0)), (2, .int p0)]) hx hb dL_of_59 rfl hl (by decide) rfl (fun ls hl => ?_)
      refine lv_ldc (v := (-3000000)) hx hb hown (hts (.constant RL 34 ((-3000000))) (by decide +kernel)) dL_of_60 ?_
      refine vx_ret (mc := 2) (ms := 12) (W.widen (k := 2) (n := 12) (Nat.le_of_ble_eq_true rfl) (Nat.le_of_ble_eq_true rfl) ?_)
      exact W.iret (v := (-3000000)) hx hb hr (fun t ht hW => ⟨⟨(-3000000), ad, rfl, rV_x h00, ⟨⟨by rw [ht]; exact wP_l hP1, va_K.moved hW.alike hK⟩, wD_l hD⟩, fun _ _ => rfl⟩, hS1.F ht⟩) hS1.2.2 dL_of_62
    · have h00 : xq ≠ 0 := by omega
      obtain ⟨e3, e4⟩ := e2 h00
      rw [e3, e4]
      refine vx_catch hown [⟨0, 58, 59, 32⟩] ⟨0, 58, 63, 35⟩ [] (by rw [htab]; rfl) (fun zq hz => by rw [List.mem_singleton.mp hz]; exact Or.inr ⟨by decide, exI, hts (.classLink RL 32 exI) (by decide +kernel), hN.1⟩) (by decide) (by decide) (hts (.classLink RL 35 exA) (by decide +kernel)) (va_Nw.use rfl hE.2.2.1.2.1) hce hcv hcl ?_
      refine lv_astore_n (lv' := [(3, .ref q9), (0, .ref (ad 0)), (1, .int (nI 0)), (2, .int p0)]) hx hb dL_of_63 rfl hl (by decide) rfl (fun ls hl => ?_)
      refine lv_ldc (v := (-3000000)) hx hb hown (hts (.constant RL 34 ((-3000000))) (by decide +kernel)) dL_of_64 ?_
      refine vx_ret (mc := 2) (ms := 12) (W.widen (k := 2) (n := 12) (Nat.le_of_ble_eq_true rfl) (Nat.le_of_ble_eq_true rfl) ?_)
      exact W.iret (v := (-3000000)) hx hb hr (fun t ht hW => ⟨⟨(-3000000), ad, rfl, rV_x h00, ⟨⟨by rw [ht]; exact wP_l hP1, va_K.moved hW.alike hK⟩, wD_l hD⟩, fun _ _ => rfl⟩, hS1.F ht⟩) hS1.2.2 dL_of_66
    · exact absurd h1 h93
  · obtain ⟨e3, e4⟩ := e1 h0
    rw [e3, e4]
    refine lv_goto (tgt := 58) hx hb dL_of_11 (by decide) ?_
    refine vx_ret (mc := 2) (ms := 12) (W.widen (k := 2) (n := 12) (Nat.le_of_ble_eq_true rfl) (Nat.le_of_ble_eq_true rfl) ?_)
    exact W.iret (v := rr) hx hb hr (fun t ht hW => ⟨⟨rr, ad1, rfl, rV_0 h0, ⟨⟨by rw [ht]; exact wP_l hP, va_K.moved hW.alike hK⟩, wD_l hD⟩, had⟩, hS.F ht⟩) hS.2.2 dL_of_58
set_option maxRecDepth 100000 in
set_option maxHeartbeats 2000000 in
theorem c_L_of1 (l : Launch) (sa : Nat → Nat) (D : va_G) (k : Nat → ClassId) (ad : Nat → Nat) (M : Nat → Nat → Nat) (O : Nat → Nat → Int32) (sz : Nat) (p0 : Int32) {M' M1 : Nat → Nat → Nat} {O' O1 : Nat → Nat → Int32} {xq : Nat} {rr : Int32} (hM : vx_Met l yX2_clock wsX2_clock ({ frames := 8, cells := 2, slots := 12, locals := 124 }) (va_Pc [.ref (ad 0), .int p0, .int (nI 1)] (zPre D k ad M O sz sa)) (zQop D k ad M M' O' (va_A (zw (20 + 2 * M 0 1) ad (cX k ad M O)) sz) xq rr) (zX (fun E => exC E xq)) 2 12 (va_A (zw (20 + 2 * M 0 1) ad (cX k ad M O)) sz)) (h93 : xq ≠ 3) (e1 : xq = 0 → M1 = M' ∧ O1 = O') (e2 : xq ≠ 0 → M1 = M ∧ O1 = O) : vx_Met l yL_of wsL_of ({ frames := 9, cells := 2, slots := 12, locals := 147 }) (va_Pc [.ref (ad 0), .int (nI 1), .int p0] (tPre D k ad M O sz sa)) (tQ D k ad M M1 O1 (va_A (zw (20 + 2 * M 0 1) ad (cX k ad M O)) sz) (rV xq rr)) (zX (fun _ => False)) 2 12 (va_A (zw (20 + 2 * M 0 1) ad (cX k ad M O)) sz) := by
  refine vx_ofWH (cc := cL_of) (maxL := 4) (ret := (some .int)) (by decide) rfl ?_
  intro p e s m args below meth c s₁ B hml hv
  obtain ⟨rfl, ⟨⟨hsz, ⟨hP, hK⟩, hD0⟩, hE⟩, hN⟩ := hv
  have hx := B.exec
  have hb := B.bytes
  have hr := B.returns
  have hts := atoms_spec (ws := wsL_of) B.pre
  have hown : s.vm.findClass RL = some m.cls := findClass_of_methodNamed B.named
  have hlocks := B.notSynchronized
  have F : CallFix p m c cL_of 4 s _ wsL_of RL := ⟨hx, hb, hml, hown, hts⟩
  have htab : c.exceptionTable.toList = tableOf [(0, 58, 59, 32), (0, 58, 63, 35)] := vx_table (x := yL_of) B (hts _ List.mem_cons_self)
  subst hsz
  have hD := hD0.self (sz := s.heap.size)
  generalize hAe : va_A (zw (20 + 2 * M 0 1) ad (cX k ad M O)) s.heap.size = A at hD hE ⊢
  have hA : ∀ q : Nat, s.heap.size ≤ q → A q := fun q h => by rw [← hAe]; exact Or.inr h
  have hS : va_S A s.heap s.heap [] := va_S.rf
  have hP := wP_n hP
  have hD := wD_n hD
  have hl := lv_entry ([.ref (ad 0), .int (nI 1), .int p0]) (n := 4) (Nat.le_of_ble_eq_true rfl)
  rw [lg_entry_eq]
  generalize (lg_sl ([.ref (ad 0), .int (nI 1), .int p0]) ++ List.replicate (4 - (lg_sl ([.ref (ad 0), .int (nI 1), .int p0])).length) Slot.unset).toArray = ls at hl ⊢
  have hl : lv_has ls 4 [(0, .ref (ad 0)), (1, .int (nI 1)), (2, .int p0)] := hl
  refine lv_iload_n hx hb dL_of_0 rfl (lv_at hl 1 rfl) ?_
  refine lv_iconst (v := nI 3) hx hb dL_of_1 (by decide) ?_
  refine z_icmp_ge (tgt := 14) F (by omega) (by omega) dL_of_2 (by decide) (fun zc => absurd zc (by decide)) (fun _ => ?_)
  refine lv_aload_n hx hb dL_of_5 rfl (lv_at hl 0 rfl) ?_
  refine lv_iload_n hx hb dL_of_6 rfl (lv_at hl 2 rfl) ?_
  refine lv_iload_n hx hb dL_of_7 rfl (lv_at hl 1 rfl) ?_
  refine lx_call (wb := []) (As := [.int p0, .int (nI 1)]) (rest := []) F hM (cwV 2 hts gL_of_X2_clock rfl rfl rfl (by decide +kernel) ⟨Nat.le_of_ble_eq_true rfl, Nat.le_of_ble_eq_true rfl⟩) hK hP hD hS hA hE rfl hl.1 rfl (Nat.le_of_ble_eq_true rfl) dL_of_8 ⟨Nat.le_of_ble_eq_true rfl, Nat.le_of_ble_eq_true rfl⟩ (fun E ce q9 H1 locs1 hEx hP1 hS1 hce hcv hcl => ?_) (fun ad1 H1 locs1 h0 had hP hD hS => ?_)
  · rcases hEx with ⟨h1, rfl⟩ | ⟨h1, rfl⟩ | ⟨h1, rfl⟩
    · have h00 : xq ≠ 0 := by omega
      obtain ⟨e3, e4⟩ := e2 h00
      rw [e3, e4]
      refine vx_catch hown [] ⟨0, 58, 59, 32⟩ [⟨0, 58, 63, 35⟩] (by rw [htab]; rfl) (fun zq hz => absurd hz List.not_mem_nil) (by decide) (by decide) (hts (.classLink RL 32 exI) (by decide +kernel)) (va_Nw.use rfl hE.2.2.1.1) hce hcv hcl ?_
      refine lv_astore_n (lv' := [(3, .ref q9), (0, .ref (ad 0)), (1, .int (nI 1)), (2, .int p0)]) hx hb dL_of_59 rfl hl (by decide) rfl (fun ls hl => ?_)
      refine lv_ldc (v := (-3000000)) hx hb hown (hts (.constant RL 34 ((-3000000))) (by decide +kernel)) dL_of_60 ?_
      refine vx_ret (mc := 2) (ms := 12) (W.widen (k := 2) (n := 12) (Nat.le_of_ble_eq_true rfl) (Nat.le_of_ble_eq_true rfl) ?_)
      exact W.iret (v := (-3000000)) hx hb hr (fun t ht hW => ⟨⟨(-3000000), ad, rfl, rV_x h00, ⟨⟨by rw [ht]; exact wP_l hP1, va_K.moved hW.alike hK⟩, wD_l hD⟩, fun _ _ => rfl⟩, hS1.F ht⟩) hS1.2.2 dL_of_62
    · have h00 : xq ≠ 0 := by omega
      obtain ⟨e3, e4⟩ := e2 h00
      rw [e3, e4]
      refine vx_catch hown [⟨0, 58, 59, 32⟩] ⟨0, 58, 63, 35⟩ [] (by rw [htab]; rfl) (fun zq hz => by rw [List.mem_singleton.mp hz]; exact Or.inr ⟨by decide, exI, hts (.classLink RL 32 exI) (by decide +kernel), hN.1⟩) (by decide) (by decide) (hts (.classLink RL 35 exA) (by decide +kernel)) (va_Nw.use rfl hE.2.2.1.2.1) hce hcv hcl ?_
      refine lv_astore_n (lv' := [(3, .ref q9), (0, .ref (ad 0)), (1, .int (nI 1)), (2, .int p0)]) hx hb dL_of_63 rfl hl (by decide) rfl (fun ls hl => ?_)
      refine lv_ldc (v := (-3000000)) hx hb hown (hts (.constant RL 34 ((-3000000))) (by decide +kernel)) dL_of_64 ?_
      refine vx_ret (mc := 2) (ms := 12) (W.widen (k := 2) (n := 12) (Nat.le_of_ble_eq_true rfl) (Nat.le_of_ble_eq_true rfl) ?_)
      exact W.iret (v := (-3000000)) hx hb hr (fun t ht hW => ⟨⟨(-3000000), ad, rfl, rV_x h00, ⟨⟨by rw [ht]; exact wP_l hP1, va_K.moved hW.alike hK⟩, wD_l hD⟩, fun _ _ => rfl⟩, hS1.F ht⟩) hS1.2.2 dL_of_66
    · exact absurd h1 h93
  · obtain ⟨e3, e4⟩ := e1 h0
    rw [e3, e4]
    refine lv_goto (tgt := 58) hx hb dL_of_11 (by decide) ?_
    refine vx_ret (mc := 2) (ms := 12) (W.widen (k := 2) (n := 12) (Nat.le_of_ble_eq_true rfl) (Nat.le_of_ble_eq_true rfl) ?_)
    exact W.iret (v := rr) hx hb hr (fun t ht hW => ⟨⟨rr, ad1, rfl, rV_0 h0, ⟨⟨by rw [ht]; exact wP_l hP, va_K.moved hW.alike hK⟩, wD_l hD⟩, had⟩, hS.F ht⟩) hS.2.2 dL_of_58
set_option maxRecDepth 100000 in
set_option maxHeartbeats 2000000 in
theorem c_L_of2 (l : Launch) (sa : Nat → Nat) (D : va_G) (k : Nat → ClassId) (ad : Nat → Nat) (M : Nat → Nat → Nat) (O : Nat → Nat → Int32) (sz : Nat) (p0 : Int32) {M' M1 : Nat → Nat → Nat} {O' O1 : Nat → Nat → Int32} {xq : Nat} {rr : Int32} (hM : vx_Met l yX2_clock wsX2_clock ({ frames := 8, cells := 2, slots := 12, locals := 124 }) (va_Pc [.ref (ad 0), .int p0, .int (nI 2)] (zPre D k ad M O sz sa)) (zQop D k ad M M' O' (va_A (zw (20 + 2 * M 0 1) ad (cX k ad M O)) sz) xq rr) (zX (fun E => exC E xq)) 2 12 (va_A (zw (20 + 2 * M 0 1) ad (cX k ad M O)) sz)) (h93 : xq ≠ 3) (e1 : xq = 0 → M1 = M' ∧ O1 = O') (e2 : xq ≠ 0 → M1 = M ∧ O1 = O) : vx_Met l yL_of wsL_of ({ frames := 9, cells := 2, slots := 12, locals := 147 }) (va_Pc [.ref (ad 0), .int (nI 2), .int p0] (tPre D k ad M O sz sa)) (tQ D k ad M M1 O1 (va_A (zw (20 + 2 * M 0 1) ad (cX k ad M O)) sz) (rV xq rr)) (zX (fun _ => False)) 2 12 (va_A (zw (20 + 2 * M 0 1) ad (cX k ad M O)) sz) := by
  refine vx_ofWH (cc := cL_of) (maxL := 4) (ret := (some .int)) (by decide) rfl ?_
  intro p e s m args below meth c s₁ B hml hv
  obtain ⟨rfl, ⟨⟨hsz, ⟨hP, hK⟩, hD0⟩, hE⟩, hN⟩ := hv
  have hx := B.exec
  have hb := B.bytes
  have hr := B.returns
  have hts := atoms_spec (ws := wsL_of) B.pre
  have hown : s.vm.findClass RL = some m.cls := findClass_of_methodNamed B.named
  have hlocks := B.notSynchronized
  have F : CallFix p m c cL_of 4 s _ wsL_of RL := ⟨hx, hb, hml, hown, hts⟩
  have htab : c.exceptionTable.toList = tableOf [(0, 58, 59, 32), (0, 58, 63, 35)] := vx_table (x := yL_of) B (hts _ List.mem_cons_self)
  subst hsz
  have hD := hD0.self (sz := s.heap.size)
  generalize hAe : va_A (zw (20 + 2 * M 0 1) ad (cX k ad M O)) s.heap.size = A at hD hE ⊢
  have hA : ∀ q : Nat, s.heap.size ≤ q → A q := fun q h => by rw [← hAe]; exact Or.inr h
  have hS : va_S A s.heap s.heap [] := va_S.rf
  have hP := wP_n hP
  have hD := wD_n hD
  have hl := lv_entry ([.ref (ad 0), .int (nI 2), .int p0]) (n := 4) (Nat.le_of_ble_eq_true rfl)
  rw [lg_entry_eq]
  generalize (lg_sl ([.ref (ad 0), .int (nI 2), .int p0]) ++ List.replicate (4 - (lg_sl ([.ref (ad 0), .int (nI 2), .int p0])).length) Slot.unset).toArray = ls at hl ⊢
  have hl : lv_has ls 4 [(0, .ref (ad 0)), (1, .int (nI 2)), (2, .int p0)] := hl
  refine lv_iload_n hx hb dL_of_0 rfl (lv_at hl 1 rfl) ?_
  refine lv_iconst (v := nI 3) hx hb dL_of_1 (by decide) ?_
  refine z_icmp_ge (tgt := 14) F (by omega) (by omega) dL_of_2 (by decide) (fun zc => absurd zc (by decide)) (fun _ => ?_)
  refine lv_aload_n hx hb dL_of_5 rfl (lv_at hl 0 rfl) ?_
  refine lv_iload_n hx hb dL_of_6 rfl (lv_at hl 2 rfl) ?_
  refine lv_iload_n hx hb dL_of_7 rfl (lv_at hl 1 rfl) ?_
  refine lx_call (wb := []) (As := [.int p0, .int (nI 2)]) (rest := []) F hM (cwV 2 hts gL_of_X2_clock rfl rfl rfl (by decide +kernel) ⟨Nat.le_of_ble_eq_true rfl, Nat.le_of_ble_eq_true rfl⟩) hK hP hD hS hA hE rfl hl.1 rfl (Nat.le_of_ble_eq_true rfl) dL_of_8 ⟨Nat.le_of_ble_eq_true rfl, Nat.le_of_ble_eq_true rfl⟩ (fun E ce q9 H1 locs1 hEx hP1 hS1 hce hcv hcl => ?_) (fun ad1 H1 locs1 h0 had hP hD hS => ?_)
  · rcases hEx with ⟨h1, rfl⟩ | ⟨h1, rfl⟩ | ⟨h1, rfl⟩
    · have h00 : xq ≠ 0 := by omega
      obtain ⟨e3, e4⟩ := e2 h00
      rw [e3, e4]
      refine vx_catch hown [] ⟨0, 58, 59, 32⟩ [⟨0, 58, 63, 35⟩] (by rw [htab]; rfl) (fun zq hz => absurd hz List.not_mem_nil) (by decide) (by decide) (hts (.classLink RL 32 exI) (by decide +kernel)) (va_Nw.use rfl hE.2.2.1.1) hce hcv hcl ?_
      refine lv_astore_n (lv' := [(3, .ref q9), (0, .ref (ad 0)), (1, .int (nI 2)), (2, .int p0)]) hx hb dL_of_59 rfl hl (by decide) rfl (fun ls hl => ?_)
      refine lv_ldc (v := (-3000000)) hx hb hown (hts (.constant RL 34 ((-3000000))) (by decide +kernel)) dL_of_60 ?_
      refine vx_ret (mc := 2) (ms := 12) (W.widen (k := 2) (n := 12) (Nat.le_of_ble_eq_true rfl) (Nat.le_of_ble_eq_true rfl) ?_)
      exact W.iret (v := (-3000000)) hx hb hr (fun t ht hW => ⟨⟨(-3000000), ad, rfl, rV_x h00, ⟨⟨by rw [ht]; exact wP_l hP1, va_K.moved hW.alike hK⟩, wD_l hD⟩, fun _ _ => rfl⟩, hS1.F ht⟩) hS1.2.2 dL_of_62
    · have h00 : xq ≠ 0 := by omega
      obtain ⟨e3, e4⟩ := e2 h00
      rw [e3, e4]
      refine vx_catch hown [⟨0, 58, 59, 32⟩] ⟨0, 58, 63, 35⟩ [] (by rw [htab]; rfl) (fun zq hz => by rw [List.mem_singleton.mp hz]; exact Or.inr ⟨by decide, exI, hts (.classLink RL 32 exI) (by decide +kernel), hN.1⟩) (by decide) (by decide) (hts (.classLink RL 35 exA) (by decide +kernel)) (va_Nw.use rfl hE.2.2.1.2.1) hce hcv hcl ?_
      refine lv_astore_n (lv' := [(3, .ref q9), (0, .ref (ad 0)), (1, .int (nI 2)), (2, .int p0)]) hx hb dL_of_63 rfl hl (by decide) rfl (fun ls hl => ?_)
      refine lv_ldc (v := (-3000000)) hx hb hown (hts (.constant RL 34 ((-3000000))) (by decide +kernel)) dL_of_64 ?_
      refine vx_ret (mc := 2) (ms := 12) (W.widen (k := 2) (n := 12) (Nat.le_of_ble_eq_true rfl) (Nat.le_of_ble_eq_true rfl) ?_)
      exact W.iret (v := (-3000000)) hx hb hr (fun t ht hW => ⟨⟨(-3000000), ad, rfl, rV_x h00, ⟨⟨by rw [ht]; exact wP_l hP1, va_K.moved hW.alike hK⟩, wD_l hD⟩, fun _ _ => rfl⟩, hS1.F ht⟩) hS1.2.2 dL_of_66
    · exact absurd h1 h93
  · obtain ⟨e3, e4⟩ := e1 h0
    rw [e3, e4]
    refine lv_goto (tgt := 58) hx hb dL_of_11 (by decide) ?_
    refine vx_ret (mc := 2) (ms := 12) (W.widen (k := 2) (n := 12) (Nat.le_of_ble_eq_true rfl) (Nat.le_of_ble_eq_true rfl) ?_)
    exact W.iret (v := rr) hx hb hr (fun t ht hW => ⟨⟨rr, ad1, rfl, rV_0 h0, ⟨⟨by rw [ht]; exact wP_l hP, va_K.moved hW.alike hK⟩, wD_l hD⟩, had⟩, hS.F ht⟩) hS.2.2 dL_of_58
set_option maxRecDepth 100000 in
set_option maxHeartbeats 2000000 in
theorem c_L_of3 (l : Launch) (sa : Nat → Nat) (D : va_G) (k : Nat → ClassId) (ad : Nat → Nat) (M : Nat → Nat → Nat) (O : Nat → Nat → Int32) (sz : Nat) (p0 : Int32) {M' M1 : Nat → Nat → Nat} {O' O1 : Nat → Nat → Int32} {xq : Nat} {rr : Int32} (hM : vx_Met l yX2_isMissed wsX2_isMissed ({ frames := 8, cells := 2, slots := 12, locals := 124 }) (va_Pc [.ref (ad 0), .int p0, .int (nI (3 - 3))] (zPre D k ad M O sz sa)) (zQop D k ad M M' O' (va_A (zw (20 + 2 * M 0 1) ad (cX k ad M O)) sz) xq rr) (zX (fun E => exC E xq)) 2 12 (va_A (zw (20 + 2 * M 0 1) ad (cX k ad M O)) sz)) (h93 : xq ≠ 3) (e1 : xq = 0 → M1 = M' ∧ O1 = O') (e2 : xq ≠ 0 → M1 = M ∧ O1 = O) : vx_Met l yL_of wsL_of ({ frames := 9, cells := 2, slots := 12, locals := 147 }) (va_Pc [.ref (ad 0), .int (nI 3), .int p0] (tPre D k ad M O sz sa)) (tQ D k ad M M1 O1 (va_A (zw (20 + 2 * M 0 1) ad (cX k ad M O)) sz) (rV xq (fB rr))) (zX (fun _ => False)) 2 12 (va_A (zw (20 + 2 * M 0 1) ad (cX k ad M O)) sz) := by
  refine vx_ofWH (cc := cL_of) (maxL := 4) (ret := (some .int)) (by decide) rfl ?_
  intro p e s m args below meth c s₁ B hml hv
  obtain ⟨rfl, ⟨⟨hsz, ⟨hP, hK⟩, hD0⟩, hE⟩, hN⟩ := hv
  have hx := B.exec
  have hb := B.bytes
  have hr := B.returns
  have hts := atoms_spec (ws := wsL_of) B.pre
  have hown : s.vm.findClass RL = some m.cls := findClass_of_methodNamed B.named
  have hlocks := B.notSynchronized
  have F : CallFix p m c cL_of 4 s _ wsL_of RL := ⟨hx, hb, hml, hown, hts⟩
  have htab : c.exceptionTable.toList = tableOf [(0, 58, 59, 32), (0, 58, 63, 35)] := vx_table (x := yL_of) B (hts _ List.mem_cons_self)
  subst hsz
  have hD := hD0.self (sz := s.heap.size)
  generalize hAe : va_A (zw (20 + 2 * M 0 1) ad (cX k ad M O)) s.heap.size = A at hD hE ⊢
  have hA : ∀ q : Nat, s.heap.size ≤ q → A q := fun q h => by rw [← hAe]; exact Or.inr h
  have hS : va_S A s.heap s.heap [] := va_S.rf
  have hP := wP_n hP
  have hD := wD_n hD
  have hl := lv_entry ([.ref (ad 0), .int (nI 3), .int p0]) (n := 4) (Nat.le_of_ble_eq_true rfl)
  rw [lg_entry_eq]
  generalize (lg_sl ([.ref (ad 0), .int (nI 3), .int p0]) ++ List.replicate (4 - (lg_sl ([.ref (ad 0), .int (nI 3), .int p0])).length) Slot.unset).toArray = ls at hl ⊢
  have hl : lv_has ls 4 [(0, .ref (ad 0)), (1, .int (nI 3)), (2, .int p0)] := hl
  refine lv_iload_n hx hb dL_of_0 rfl (lv_at hl 1 rfl) ?_
  refine lv_iconst (v := nI 3) hx hb dL_of_1 (by decide) ?_
  refine z_icmp_ge (tgt := 14) F (by omega) (by omega) dL_of_2 (by decide) (fun _ => ?_) (fun zc => absurd zc (by decide))
  refine lv_iload_n hx hb dL_of_14 rfl (lv_at hl 1 rfl) ?_
  refine lv_bipush (v := nI 6) hx hb dL_of_15 (by decide) ?_
  refine z_icmp_ge (tgt := 39) F (by omega) (by omega) dL_of_17 (by decide) (fun zc => absurd zc (by decide)) (fun _ => ?_)
  refine lv_aload_n hx hb dL_of_20 rfl (lv_at hl 0 rfl) ?_
  refine lv_iload_n hx hb dL_of_21 rfl (lv_at hl 2 rfl) ?_
  refine lv_iload_n hx hb dL_of_22 rfl (lv_at hl 1 rfl) ?_
  refine lv_iconst (v := nI 3) hx hb dL_of_23 (by decide) ?_
  refine z_sub F (by omega) dL_of_24 ?_
  refine lx_call (wb := []) (As := [.int p0, .int (nI (3 - 3))]) (rest := []) F hM (cwV 2 hts gL_of_X2_isMissed rfl rfl rfl (by decide +kernel) ⟨Nat.le_of_ble_eq_true rfl, Nat.le_of_ble_eq_true rfl⟩) hK hP hD hS hA hE rfl hl.1 rfl (Nat.le_of_ble_eq_true rfl) dL_of_25 ⟨Nat.le_of_ble_eq_true rfl, Nat.le_of_ble_eq_true rfl⟩ (fun E ce q9 H1 locs1 hEx hP1 hS1 hce hcv hcl => ?_) (fun ad1 H1 locs1 h0 had hP hD hS => ?_)
  · rcases hEx with ⟨h1, rfl⟩ | ⟨h1, rfl⟩ | ⟨h1, rfl⟩
    · have h00 : xq ≠ 0 := by omega
      obtain ⟨e3, e4⟩ := e2 h00
      rw [e3, e4]
      refine vx_catch hown [] ⟨0, 58, 59, 32⟩ [⟨0, 58, 63, 35⟩] (by rw [htab]; rfl) (fun zq hz => absurd hz List.not_mem_nil) (by decide) (by decide) (hts (.classLink RL 32 exI) (by decide +kernel)) (va_Nw.use rfl hE.2.2.1.1) hce hcv hcl ?_
      refine lv_astore_n (lv' := [(3, .ref q9), (0, .ref (ad 0)), (1, .int (nI 3)), (2, .int p0)]) hx hb dL_of_59 rfl hl (by decide) rfl (fun ls hl => ?_)
      refine lv_ldc (v := (-3000000)) hx hb hown (hts (.constant RL 34 ((-3000000))) (by decide +kernel)) dL_of_60 ?_
      refine vx_ret (mc := 2) (ms := 12) (W.widen (k := 2) (n := 12) (Nat.le_of_ble_eq_true rfl) (Nat.le_of_ble_eq_true rfl) ?_)
      exact W.iret (v := (-3000000)) hx hb hr (fun t ht hW => ⟨⟨(-3000000), ad, rfl, rV_x h00, ⟨⟨by rw [ht]; exact wP_l hP1, va_K.moved hW.alike hK⟩, wD_l hD⟩, fun _ _ => rfl⟩, hS1.F ht⟩) hS1.2.2 dL_of_62
    · have h00 : xq ≠ 0 := by omega
      obtain ⟨e3, e4⟩ := e2 h00
      rw [e3, e4]
      refine vx_catch hown [⟨0, 58, 59, 32⟩] ⟨0, 58, 63, 35⟩ [] (by rw [htab]; rfl) (fun zq hz => by rw [List.mem_singleton.mp hz]; exact Or.inr ⟨by decide, exI, hts (.classLink RL 32 exI) (by decide +kernel), hN.1⟩) (by decide) (by decide) (hts (.classLink RL 35 exA) (by decide +kernel)) (va_Nw.use rfl hE.2.2.1.2.1) hce hcv hcl ?_
      refine lv_astore_n (lv' := [(3, .ref q9), (0, .ref (ad 0)), (1, .int (nI 3)), (2, .int p0)]) hx hb dL_of_63 rfl hl (by decide) rfl (fun ls hl => ?_)
      refine lv_ldc (v := (-3000000)) hx hb hown (hts (.constant RL 34 ((-3000000))) (by decide +kernel)) dL_of_64 ?_
      refine vx_ret (mc := 2) (ms := 12) (W.widen (k := 2) (n := 12) (Nat.le_of_ble_eq_true rfl) (Nat.le_of_ble_eq_true rfl) ?_)
      exact W.iret (v := (-3000000)) hx hb hr (fun t ht hW => ⟨⟨(-3000000), ad, rfl, rV_x h00, ⟨⟨by rw [ht]; exact wP_l hP1, va_K.moved hW.alike hK⟩, wD_l hD⟩, fun _ _ => rfl⟩, hS1.F ht⟩) hS1.2.2 dL_of_66
    · exact absurd h1 h93
  · obtain ⟨e3, e4⟩ := e1 h0
    rw [e3, e4]
    refine lv_if_eq (tgt := 35) hx hb dL_of_28 (by decide) (fun c24 => ?_) (fun c24 => ?_)
    · refine lv_iconst (v := nI 0) hx hb dL_of_35 (by decide) ?_
      refine lv_goto (tgt := 58) hx hb dL_of_36 (by decide) ?_
      refine vx_ret (mc := 2) (ms := 12) (W.widen (k := 2) (n := 12) (Nat.le_of_ble_eq_true rfl) (Nat.le_of_ble_eq_true rfl) ?_)
      exact W.iret (v := nI 0) hx hb hr (fun t ht hW => ⟨⟨nI 0, ad1, rfl, fB_0 h0 c24, ⟨⟨by rw [ht]; exact wP_l hP, va_K.moved hW.alike hK⟩, wD_l hD⟩, had⟩, hS.F ht⟩) hS.2.2 dL_of_58
    · refine lv_iconst (v := nI 1) hx hb dL_of_31 (by decide) ?_
      refine lv_goto (tgt := 58) hx hb dL_of_32 (by decide) ?_
      refine vx_ret (mc := 2) (ms := 12) (W.widen (k := 2) (n := 12) (Nat.le_of_ble_eq_true rfl) (Nat.le_of_ble_eq_true rfl) ?_)
      exact W.iret (v := nI 1) hx hb hr (fun t ht hW => ⟨⟨nI 1, ad1, rfl, fB_1 h0 c24, ⟨⟨by rw [ht]; exact wP_l hP, va_K.moved hW.alike hK⟩, wD_l hD⟩, had⟩, hS.F ht⟩) hS.2.2 dL_of_58
set_option maxRecDepth 100000 in
set_option maxHeartbeats 2000000 in
theorem c_L_of4 (l : Launch) (sa : Nat → Nat) (D : va_G) (k : Nat → ClassId) (ad : Nat → Nat) (M : Nat → Nat → Nat) (O : Nat → Nat → Int32) (sz : Nat) (p0 : Int32) {M' M1 : Nat → Nat → Nat} {O' O1 : Nat → Nat → Int32} {xq : Nat} {rr : Int32} (hM : vx_Met l yX2_isMissed wsX2_isMissed ({ frames := 8, cells := 2, slots := 12, locals := 124 }) (va_Pc [.ref (ad 0), .int p0, .int (nI (4 - 3))] (zPre D k ad M O sz sa)) (zQop D k ad M M' O' (va_A (zw (20 + 2 * M 0 1) ad (cX k ad M O)) sz) xq rr) (zX (fun E => exC E xq)) 2 12 (va_A (zw (20 + 2 * M 0 1) ad (cX k ad M O)) sz)) (h93 : xq ≠ 3) (e1 : xq = 0 → M1 = M' ∧ O1 = O') (e2 : xq ≠ 0 → M1 = M ∧ O1 = O) : vx_Met l yL_of wsL_of ({ frames := 9, cells := 2, slots := 12, locals := 147 }) (va_Pc [.ref (ad 0), .int (nI 4), .int p0] (tPre D k ad M O sz sa)) (tQ D k ad M M1 O1 (va_A (zw (20 + 2 * M 0 1) ad (cX k ad M O)) sz) (rV xq (fB rr))) (zX (fun _ => False)) 2 12 (va_A (zw (20 + 2 * M 0 1) ad (cX k ad M O)) sz) := by
  refine vx_ofWH (cc := cL_of) (maxL := 4) (ret := (some .int)) (by decide) rfl ?_
  intro p e s m args below meth c s₁ B hml hv
  obtain ⟨rfl, ⟨⟨hsz, ⟨hP, hK⟩, hD0⟩, hE⟩, hN⟩ := hv
  have hx := B.exec
  have hb := B.bytes
  have hr := B.returns
  have hts := atoms_spec (ws := wsL_of) B.pre
  have hown : s.vm.findClass RL = some m.cls := findClass_of_methodNamed B.named
  have hlocks := B.notSynchronized
  have F : CallFix p m c cL_of 4 s _ wsL_of RL := ⟨hx, hb, hml, hown, hts⟩
  have htab : c.exceptionTable.toList = tableOf [(0, 58, 59, 32), (0, 58, 63, 35)] := vx_table (x := yL_of) B (hts _ List.mem_cons_self)
  subst hsz
  have hD := hD0.self (sz := s.heap.size)
  generalize hAe : va_A (zw (20 + 2 * M 0 1) ad (cX k ad M O)) s.heap.size = A at hD hE ⊢
  have hA : ∀ q : Nat, s.heap.size ≤ q → A q := fun q h => by rw [← hAe]; exact Or.inr h
  have hS : va_S A s.heap s.heap [] := va_S.rf
  have hP := wP_n hP
  have hD := wD_n hD
  have hl := lv_entry ([.ref (ad 0), .int (nI 4), .int p0]) (n := 4) (Nat.le_of_ble_eq_true rfl)
  rw [lg_entry_eq]
  generalize (lg_sl ([.ref (ad 0), .int (nI 4), .int p0]) ++ List.replicate (4 - (lg_sl ([.ref (ad 0), .int (nI 4), .int p0])).length) Slot.unset).toArray = ls at hl ⊢
  have hl : lv_has ls 4 [(0, .ref (ad 0)), (1, .int (nI 4)), (2, .int p0)] := hl
  refine lv_iload_n hx hb dL_of_0 rfl (lv_at hl 1 rfl) ?_
  refine lv_iconst (v := nI 3) hx hb dL_of_1 (by decide) ?_
  refine z_icmp_ge (tgt := 14) F (by omega) (by omega) dL_of_2 (by decide) (fun _ => ?_) (fun zc => absurd zc (by decide))
  refine lv_iload_n hx hb dL_of_14 rfl (lv_at hl 1 rfl) ?_
  refine lv_bipush (v := nI 6) hx hb dL_of_15 (by decide) ?_
  refine z_icmp_ge (tgt := 39) F (by omega) (by omega) dL_of_17 (by decide) (fun zc => absurd zc (by decide)) (fun _ => ?_)
  refine lv_aload_n hx hb dL_of_20 rfl (lv_at hl 0 rfl) ?_
  refine lv_iload_n hx hb dL_of_21 rfl (lv_at hl 2 rfl) ?_
  refine lv_iload_n hx hb dL_of_22 rfl (lv_at hl 1 rfl) ?_
  refine lv_iconst (v := nI 3) hx hb dL_of_23 (by decide) ?_
  refine z_sub F (by omega) dL_of_24 ?_
  refine lx_call (wb := []) (As := [.int p0, .int (nI (4 - 3))]) (rest := []) F hM (cwV 2 hts gL_of_X2_isMissed rfl rfl rfl (by decide +kernel) ⟨Nat.le_of_ble_eq_true rfl, Nat.le_of_ble_eq_true rfl⟩) hK hP hD hS hA hE rfl hl.1 rfl (Nat.le_of_ble_eq_true rfl) dL_of_25 ⟨Nat.le_of_ble_eq_true rfl, Nat.le_of_ble_eq_true rfl⟩ (fun E ce q9 H1 locs1 hEx hP1 hS1 hce hcv hcl => ?_) (fun ad1 H1 locs1 h0 had hP hD hS => ?_)
  · rcases hEx with ⟨h1, rfl⟩ | ⟨h1, rfl⟩ | ⟨h1, rfl⟩
    · have h00 : xq ≠ 0 := by omega
      obtain ⟨e3, e4⟩ := e2 h00
      rw [e3, e4]
      refine vx_catch hown [] ⟨0, 58, 59, 32⟩ [⟨0, 58, 63, 35⟩] (by rw [htab]; rfl) (fun zq hz => absurd hz List.not_mem_nil) (by decide) (by decide) (hts (.classLink RL 32 exI) (by decide +kernel)) (va_Nw.use rfl hE.2.2.1.1) hce hcv hcl ?_
      refine lv_astore_n (lv' := [(3, .ref q9), (0, .ref (ad 0)), (1, .int (nI 4)), (2, .int p0)]) hx hb dL_of_59 rfl hl (by decide) rfl (fun ls hl => ?_)
      refine lv_ldc (v := (-3000000)) hx hb hown (hts (.constant RL 34 ((-3000000))) (by decide +kernel)) dL_of_60 ?_
      refine vx_ret (mc := 2) (ms := 12) (W.widen (k := 2) (n := 12) (Nat.le_of_ble_eq_true rfl) (Nat.le_of_ble_eq_true rfl) ?_)
      exact W.iret (v := (-3000000)) hx hb hr (fun t ht hW => ⟨⟨(-3000000), ad, rfl, rV_x h00, ⟨⟨by rw [ht]; exact wP_l hP1, va_K.moved hW.alike hK⟩, wD_l hD⟩, fun _ _ => rfl⟩, hS1.F ht⟩) hS1.2.2 dL_of_62
    · have h00 : xq ≠ 0 := by omega
      obtain ⟨e3, e4⟩ := e2 h00
      rw [e3, e4]
      refine vx_catch hown [⟨0, 58, 59, 32⟩] ⟨0, 58, 63, 35⟩ [] (by rw [htab]; rfl) (fun zq hz => by rw [List.mem_singleton.mp hz]; exact Or.inr ⟨by decide, exI, hts (.classLink RL 32 exI) (by decide +kernel), hN.1⟩) (by decide) (by decide) (hts (.classLink RL 35 exA) (by decide +kernel)) (va_Nw.use rfl hE.2.2.1.2.1) hce hcv hcl ?_
      refine lv_astore_n (lv' := [(3, .ref q9), (0, .ref (ad 0)), (1, .int (nI 4)), (2, .int p0)]) hx hb dL_of_63 rfl hl (by decide) rfl (fun ls hl => ?_)
      refine lv_ldc (v := (-3000000)) hx hb hown (hts (.constant RL 34 ((-3000000))) (by decide +kernel)) dL_of_64 ?_
      refine vx_ret (mc := 2) (ms := 12) (W.widen (k := 2) (n := 12) (Nat.le_of_ble_eq_true rfl) (Nat.le_of_ble_eq_true rfl) ?_)
      exact W.iret (v := (-3000000)) hx hb hr (fun t ht hW => ⟨⟨(-3000000), ad, rfl, rV_x h00, ⟨⟨by rw [ht]; exact wP_l hP1, va_K.moved hW.alike hK⟩, wD_l hD⟩, fun _ _ => rfl⟩, hS1.F ht⟩) hS1.2.2 dL_of_66
    · exact absurd h1 h93
  · obtain ⟨e3, e4⟩ := e1 h0
    rw [e3, e4]
    refine lv_if_eq (tgt := 35) hx hb dL_of_28 (by decide) (fun c25 => ?_) (fun c25 => ?_)
    · refine lv_iconst (v := nI 0) hx hb dL_of_35 (by decide) ?_
      refine lv_goto (tgt := 58) hx hb dL_of_36 (by decide) ?_
      refine vx_ret (mc := 2) (ms := 12) (W.widen (k := 2) (n := 12) (Nat.le_of_ble_eq_true rfl) (Nat.le_of_ble_eq_true rfl) ?_)
      exact W.iret (v := nI 0) hx hb hr (fun t ht hW => ⟨⟨nI 0, ad1, rfl, fB_0 h0 c25, ⟨⟨by rw [ht]; exact wP_l hP, va_K.moved hW.alike hK⟩, wD_l hD⟩, had⟩, hS.F ht⟩) hS.2.2 dL_of_58
    · refine lv_iconst (v := nI 1) hx hb dL_of_31 (by decide) ?_
      refine lv_goto (tgt := 58) hx hb dL_of_32 (by decide) ?_
      refine vx_ret (mc := 2) (ms := 12) (W.widen (k := 2) (n := 12) (Nat.le_of_ble_eq_true rfl) (Nat.le_of_ble_eq_true rfl) ?_)
      exact W.iret (v := nI 1) hx hb hr (fun t ht hW => ⟨⟨nI 1, ad1, rfl, fB_1 h0 c25, ⟨⟨by rw [ht]; exact wP_l hP, va_K.moved hW.alike hK⟩, wD_l hD⟩, had⟩, hS.F ht⟩) hS.2.2 dL_of_58
set_option maxRecDepth 100000 in
set_option maxHeartbeats 2000000 in
theorem c_L_of5 (l : Launch) (sa : Nat → Nat) (D : va_G) (k : Nat → ClassId) (ad : Nat → Nat) (M : Nat → Nat → Nat) (O : Nat → Nat → Int32) (sz : Nat) (p0 : Int32) {M' M1 : Nat → Nat → Nat} {O' O1 : Nat → Nat → Int32} {xq : Nat} {rr : Int32} (hM : vx_Met l yX2_isMissed wsX2_isMissed ({ frames := 8, cells := 2, slots := 12, locals := 124 }) (va_Pc [.ref (ad 0), .int p0, .int (nI (5 - 3))] (zPre D k ad M O sz sa)) (zQop D k ad M M' O' (va_A (zw (20 + 2 * M 0 1) ad (cX k ad M O)) sz) xq rr) (zX (fun E => exC E xq)) 2 12 (va_A (zw (20 + 2 * M 0 1) ad (cX k ad M O)) sz)) (h93 : xq ≠ 3) (e1 : xq = 0 → M1 = M' ∧ O1 = O') (e2 : xq ≠ 0 → M1 = M ∧ O1 = O) : vx_Met l yL_of wsL_of ({ frames := 9, cells := 2, slots := 12, locals := 147 }) (va_Pc [.ref (ad 0), .int (nI 5), .int p0] (tPre D k ad M O sz sa)) (tQ D k ad M M1 O1 (va_A (zw (20 + 2 * M 0 1) ad (cX k ad M O)) sz) (rV xq (fB rr))) (zX (fun _ => False)) 2 12 (va_A (zw (20 + 2 * M 0 1) ad (cX k ad M O)) sz) := by
  refine vx_ofWH (cc := cL_of) (maxL := 4) (ret := (some .int)) (by decide) rfl ?_
  intro p e s m args below meth c s₁ B hml hv
  obtain ⟨rfl, ⟨⟨hsz, ⟨hP, hK⟩, hD0⟩, hE⟩, hN⟩ := hv
  have hx := B.exec
  have hb := B.bytes
  have hr := B.returns
  have hts := atoms_spec (ws := wsL_of) B.pre
  have hown : s.vm.findClass RL = some m.cls := findClass_of_methodNamed B.named
  have hlocks := B.notSynchronized
  have F : CallFix p m c cL_of 4 s _ wsL_of RL := ⟨hx, hb, hml, hown, hts⟩
  have htab : c.exceptionTable.toList = tableOf [(0, 58, 59, 32), (0, 58, 63, 35)] := vx_table (x := yL_of) B (hts _ List.mem_cons_self)
  subst hsz
  have hD := hD0.self (sz := s.heap.size)
  generalize hAe : va_A (zw (20 + 2 * M 0 1) ad (cX k ad M O)) s.heap.size = A at hD hE ⊢
  have hA : ∀ q : Nat, s.heap.size ≤ q → A q := fun q h => by rw [← hAe]; exact Or.inr h
  have hS : va_S A s.heap s.heap [] := va_S.rf
  have hP := wP_n hP
  have hD := wD_n hD
  have hl := lv_entry ([.ref (ad 0), .int (nI 5), .int p0]) (n := 4) (Nat.le_of_ble_eq_true rfl)
  rw [lg_entry_eq]
  generalize (lg_sl ([.ref (ad 0), .int (nI 5), .int p0]) ++ List.replicate (4 - (lg_sl ([.ref (ad 0), .int (nI 5), .int p0])).length) Slot.unset).toArray = ls at hl ⊢
  have hl : lv_has ls 4 [(0, .ref (ad 0)), (1, .int (nI 5)), (2, .int p0)] := hl
  refine lv_iload_n hx hb dL_of_0 rfl (lv_at hl 1 rfl) ?_
  refine lv_iconst (v := nI 3) hx hb dL_of_1 (by decide) ?_
  refine z_icmp_ge (tgt := 14) F (by omega) (by omega) dL_of_2 (by decide) (fun _ => ?_) (fun zc => absurd zc (by decide))
  refine lv_iload_n hx hb dL_of_14 rfl (lv_at hl 1 rfl) ?_
  refine lv_bipush (v := nI 6) hx hb dL_of_15 (by decide) ?_
  refine z_icmp_ge (tgt := 39) F (by omega) (by omega) dL_of_17 (by decide) (fun zc => absurd zc (by decide)) (fun _ => ?_)
  refine lv_aload_n hx hb dL_of_20 rfl (lv_at hl 0 rfl) ?_
  refine lv_iload_n hx hb dL_of_21 rfl (lv_at hl 2 rfl) ?_
  refine lv_iload_n hx hb dL_of_22 rfl (lv_at hl 1 rfl) ?_
  refine lv_iconst (v := nI 3) hx hb dL_of_23 (by decide) ?_
  refine z_sub F (by omega) dL_of_24 ?_
  refine lx_call (wb := []) (As := [.int p0, .int (nI (5 - 3))]) (rest := []) F hM (cwV 2 hts gL_of_X2_isMissed rfl rfl rfl (by decide +kernel) ⟨Nat.le_of_ble_eq_true rfl, Nat.le_of_ble_eq_true rfl⟩) hK hP hD hS hA hE rfl hl.1 rfl (Nat.le_of_ble_eq_true rfl) dL_of_25 ⟨Nat.le_of_ble_eq_true rfl, Nat.le_of_ble_eq_true rfl⟩ (fun E ce q9 H1 locs1 hEx hP1 hS1 hce hcv hcl => ?_) (fun ad1 H1 locs1 h0 had hP hD hS => ?_)
  · rcases hEx with ⟨h1, rfl⟩ | ⟨h1, rfl⟩ | ⟨h1, rfl⟩
    · have h00 : xq ≠ 0 := by omega
      obtain ⟨e3, e4⟩ := e2 h00
      rw [e3, e4]
      refine vx_catch hown [] ⟨0, 58, 59, 32⟩ [⟨0, 58, 63, 35⟩] (by rw [htab]; rfl) (fun zq hz => absurd hz List.not_mem_nil) (by decide) (by decide) (hts (.classLink RL 32 exI) (by decide +kernel)) (va_Nw.use rfl hE.2.2.1.1) hce hcv hcl ?_
      refine lv_astore_n (lv' := [(3, .ref q9), (0, .ref (ad 0)), (1, .int (nI 5)), (2, .int p0)]) hx hb dL_of_59 rfl hl (by decide) rfl (fun ls hl => ?_)
      refine lv_ldc (v := (-3000000)) hx hb hown (hts (.constant RL 34 ((-3000000))) (by decide +kernel)) dL_of_60 ?_
      refine vx_ret (mc := 2) (ms := 12) (W.widen (k := 2) (n := 12) (Nat.le_of_ble_eq_true rfl) (Nat.le_of_ble_eq_true rfl) ?_)
      exact W.iret (v := (-3000000)) hx hb hr (fun t ht hW => ⟨⟨(-3000000), ad, rfl, rV_x h00, ⟨⟨by rw [ht]; exact wP_l hP1, va_K.moved hW.alike hK⟩, wD_l hD⟩, fun _ _ => rfl⟩, hS1.F ht⟩) hS1.2.2 dL_of_62
    · have h00 : xq ≠ 0 := by omega
      obtain ⟨e3, e4⟩ := e2 h00
      rw [e3, e4]
      refine vx_catch hown [⟨0, 58, 59, 32⟩] ⟨0, 58, 63, 35⟩ [] (by rw [htab]; rfl) (fun zq hz => by rw [List.mem_singleton.mp hz]; exact Or.inr ⟨by decide, exI, hts (.classLink RL 32 exI) (by decide +kernel), hN.1⟩) (by decide) (by decide) (hts (.classLink RL 35 exA) (by decide +kernel)) (va_Nw.use rfl hE.2.2.1.2.1) hce hcv hcl ?_
      refine lv_astore_n (lv' := [(3, .ref q9), (0, .ref (ad 0)), (1, .int (nI 5)), (2, .int p0)]) hx hb dL_of_63 rfl hl (by decide) rfl (fun ls hl => ?_)
      refine lv_ldc (v := (-3000000)) hx hb hown (hts (.constant RL 34 ((-3000000))) (by decide +kernel)) dL_of_64 ?_
      refine vx_ret (mc := 2) (ms := 12) (W.widen (k := 2) (n := 12) (Nat.le_of_ble_eq_true rfl) (Nat.le_of_ble_eq_true rfl) ?_)
      exact W.iret (v := (-3000000)) hx hb hr (fun t ht hW => ⟨⟨(-3000000), ad, rfl, rV_x h00, ⟨⟨by rw [ht]; exact wP_l hP1, va_K.moved hW.alike hK⟩, wD_l hD⟩, fun _ _ => rfl⟩, hS1.F ht⟩) hS1.2.2 dL_of_66
    · exact absurd h1 h93
  · obtain ⟨e3, e4⟩ := e1 h0
    rw [e3, e4]
    refine lv_if_eq (tgt := 35) hx hb dL_of_28 (by decide) (fun c26 => ?_) (fun c26 => ?_)
    · refine lv_iconst (v := nI 0) hx hb dL_of_35 (by decide) ?_
      refine lv_goto (tgt := 58) hx hb dL_of_36 (by decide) ?_
      refine vx_ret (mc := 2) (ms := 12) (W.widen (k := 2) (n := 12) (Nat.le_of_ble_eq_true rfl) (Nat.le_of_ble_eq_true rfl) ?_)
      exact W.iret (v := nI 0) hx hb hr (fun t ht hW => ⟨⟨nI 0, ad1, rfl, fB_0 h0 c26, ⟨⟨by rw [ht]; exact wP_l hP, va_K.moved hW.alike hK⟩, wD_l hD⟩, had⟩, hS.F ht⟩) hS.2.2 dL_of_58
    · refine lv_iconst (v := nI 1) hx hb dL_of_31 (by decide) ?_
      refine lv_goto (tgt := 58) hx hb dL_of_32 (by decide) ?_
      refine vx_ret (mc := 2) (ms := 12) (W.widen (k := 2) (n := 12) (Nat.le_of_ble_eq_true rfl) (Nat.le_of_ble_eq_true rfl) ?_)
      exact W.iret (v := nI 1) hx hb hr (fun t ht hW => ⟨⟨nI 1, ad1, rfl, fB_1 h0 c26, ⟨⟨by rw [ht]; exact wP_l hP, va_K.moved hW.alike hK⟩, wD_l hD⟩, had⟩, hS.F ht⟩) hS.2.2 dL_of_58
set_option maxRecDepth 100000 in
set_option maxHeartbeats 2000000 in
theorem c_L_of6 (l : Launch) (sa : Nat → Nat) (D : va_G) (k : Nat → ClassId) (ad : Nat → Nat) (M : Nat → Nat → Nat) (O : Nat → Nat → Int32) (sz : Nat) (p0 : Int32) {M' M1 : Nat → Nat → Nat} {O' O1 : Nat → Nat → Int32} {xq : Nat} {rr : Int32} (hM : vx_Met l yX2_stateOf wsX2_stateOf ({ frames := 7, cells := 1, slots := 6, locals := 104 }) (va_Pc [.ref (ad 0), .int p0] (zPre D k ad M O sz sa)) (zQop D k ad M M' O' (va_A (zw (20 + 2 * M 0 1) ad (cX k ad M O)) sz) xq rr) (zX (fun E => exC E xq)) 1 6 (va_A (zw (20 + 2 * M 0 1) ad (cX k ad M O)) sz)) (h93 : xq ≠ 3) (e1 : xq = 0 → M1 = M' ∧ O1 = O') (e2 : xq ≠ 0 → M1 = M ∧ O1 = O) : vx_Met l yL_of wsL_of ({ frames := 9, cells := 2, slots := 12, locals := 147 }) (va_Pc [.ref (ad 0), .int (nI 6), .int p0] (tPre D k ad M O sz sa)) (tQ D k ad M M1 O1 (va_A (zw (20 + 2 * M 0 1) ad (cX k ad M O)) sz) (rV xq rr)) (zX (fun _ => False)) 2 12 (va_A (zw (20 + 2 * M 0 1) ad (cX k ad M O)) sz) := by
  refine vx_ofWH (cc := cL_of) (maxL := 4) (ret := (some .int)) (by decide) rfl ?_
  intro p e s m args below meth c s₁ B hml hv
  obtain ⟨rfl, ⟨⟨hsz, ⟨hP, hK⟩, hD0⟩, hE⟩, hN⟩ := hv
  have hx := B.exec
  have hb := B.bytes
  have hr := B.returns
  have hts := atoms_spec (ws := wsL_of) B.pre
  have hown : s.vm.findClass RL = some m.cls := findClass_of_methodNamed B.named
  have hlocks := B.notSynchronized
  have F : CallFix p m c cL_of 4 s _ wsL_of RL := ⟨hx, hb, hml, hown, hts⟩
  have htab : c.exceptionTable.toList = tableOf [(0, 58, 59, 32), (0, 58, 63, 35)] := vx_table (x := yL_of) B (hts _ List.mem_cons_self)
  subst hsz
  have hD := hD0.self (sz := s.heap.size)
  generalize hAe : va_A (zw (20 + 2 * M 0 1) ad (cX k ad M O)) s.heap.size = A at hD hE ⊢
  have hA : ∀ q : Nat, s.heap.size ≤ q → A q := fun q h => by rw [← hAe]; exact Or.inr h
  have hS : va_S A s.heap s.heap [] := va_S.rf
  have hP := wP_n hP
  have hD := wD_n hD
  have hl := lv_entry ([.ref (ad 0), .int (nI 6), .int p0]) (n := 4) (Nat.le_of_ble_eq_true rfl)
  rw [lg_entry_eq]
  generalize (lg_sl ([.ref (ad 0), .int (nI 6), .int p0]) ++ List.replicate (4 - (lg_sl ([.ref (ad 0), .int (nI 6), .int p0])).length) Slot.unset).toArray = ls at hl ⊢
  have hl : lv_has ls 4 [(0, .ref (ad 0)), (1, .int (nI 6)), (2, .int p0)] := hl
  refine lv_iload_n hx hb dL_of_0 rfl (lv_at hl 1 rfl) ?_
  refine lv_iconst (v := nI 3) hx hb dL_of_1 (by decide) ?_
  refine z_icmp_ge (tgt := 14) F (by omega) (by omega) dL_of_2 (by decide) (fun _ => ?_) (fun zc => absurd zc (by decide))
  refine lv_iload_n hx hb dL_of_14 rfl (lv_at hl 1 rfl) ?_
  refine lv_bipush (v := nI 6) hx hb dL_of_15 (by decide) ?_
  refine z_icmp_ge (tgt := 39) F (by omega) (by omega) dL_of_17 (by decide) (fun _ => ?_) (fun zc => absurd zc (by decide))
  refine lv_iload_n hx hb dL_of_39 rfl (lv_at hl 1 rfl) ?_
  refine lv_bipush (v := nI 6) hx hb dL_of_40 (by decide) ?_
  refine z_icmp_ne (tgt := 53) F (by omega) (by omega) dL_of_42 (by decide) (fun zc => absurd zc (by decide)) (fun _ => ?_)
  refine lv_aload_n hx hb dL_of_45 rfl (lv_at hl 0 rfl) ?_
  refine lv_iload_n hx hb dL_of_46 rfl (lv_at hl 2 rfl) ?_
  refine lx_call (wb := []) (As := [.int p0]) (rest := []) F hM (cwV 1 hts gL_of_X2_stateOf rfl rfl rfl (by decide +kernel) ⟨Nat.le_of_ble_eq_true rfl, Nat.le_of_ble_eq_true rfl⟩) hK hP hD hS hA hE rfl hl.1 rfl (Nat.le_of_ble_eq_true rfl) dL_of_47 ⟨Nat.le_of_ble_eq_true rfl, Nat.le_of_ble_eq_true rfl⟩ (fun E ce q9 H1 locs1 hEx hP1 hS1 hce hcv hcl => ?_) (fun ad1 H1 locs1 h0 had hP hD hS => ?_)
  · rcases hEx with ⟨h1, rfl⟩ | ⟨h1, rfl⟩ | ⟨h1, rfl⟩
    · have h00 : xq ≠ 0 := by omega
      obtain ⟨e3, e4⟩ := e2 h00
      rw [e3, e4]
      refine vx_catch hown [] ⟨0, 58, 59, 32⟩ [⟨0, 58, 63, 35⟩] (by rw [htab]; rfl) (fun zq hz => absurd hz List.not_mem_nil) (by decide) (by decide) (hts (.classLink RL 32 exI) (by decide +kernel)) (va_Nw.use rfl hE.2.2.1.1) hce hcv hcl ?_
      refine lv_astore_n (lv' := [(3, .ref q9), (0, .ref (ad 0)), (1, .int (nI 6)), (2, .int p0)]) hx hb dL_of_59 rfl hl (by decide) rfl (fun ls hl => ?_)
      refine lv_ldc (v := (-3000000)) hx hb hown (hts (.constant RL 34 ((-3000000))) (by decide +kernel)) dL_of_60 ?_
      refine vx_ret (mc := 2) (ms := 12) (W.widen (k := 2) (n := 12) (Nat.le_of_ble_eq_true rfl) (Nat.le_of_ble_eq_true rfl) ?_)
      exact W.iret (v := (-3000000)) hx hb hr (fun t ht hW => ⟨⟨(-3000000), ad, rfl, rV_x h00, ⟨⟨by rw [ht]; exact wP_l hP1, va_K.moved hW.alike hK⟩, wD_l hD⟩, fun _ _ => rfl⟩, hS1.F ht⟩) hS1.2.2 dL_of_62
    · have h00 : xq ≠ 0 := by omega
      obtain ⟨e3, e4⟩ := e2 h00
      rw [e3, e4]
      refine vx_catch hown [⟨0, 58, 59, 32⟩] ⟨0, 58, 63, 35⟩ [] (by rw [htab]; rfl) (fun zq hz => by rw [List.mem_singleton.mp hz]; exact Or.inr ⟨by decide, exI, hts (.classLink RL 32 exI) (by decide +kernel), hN.1⟩) (by decide) (by decide) (hts (.classLink RL 35 exA) (by decide +kernel)) (va_Nw.use rfl hE.2.2.1.2.1) hce hcv hcl ?_
      refine lv_astore_n (lv' := [(3, .ref q9), (0, .ref (ad 0)), (1, .int (nI 6)), (2, .int p0)]) hx hb dL_of_63 rfl hl (by decide) rfl (fun ls hl => ?_)
      refine lv_ldc (v := (-3000000)) hx hb hown (hts (.constant RL 34 ((-3000000))) (by decide +kernel)) dL_of_64 ?_
      refine vx_ret (mc := 2) (ms := 12) (W.widen (k := 2) (n := 12) (Nat.le_of_ble_eq_true rfl) (Nat.le_of_ble_eq_true rfl) ?_)
      exact W.iret (v := (-3000000)) hx hb hr (fun t ht hW => ⟨⟨(-3000000), ad, rfl, rV_x h00, ⟨⟨by rw [ht]; exact wP_l hP1, va_K.moved hW.alike hK⟩, wD_l hD⟩, fun _ _ => rfl⟩, hS1.F ht⟩) hS1.2.2 dL_of_66
    · exact absurd h1 h93
  · obtain ⟨e3, e4⟩ := e1 h0
    rw [e3, e4]
    refine lv_goto (tgt := 58) hx hb dL_of_50 (by decide) ?_
    refine vx_ret (mc := 2) (ms := 12) (W.widen (k := 2) (n := 12) (Nat.le_of_ble_eq_true rfl) (Nat.le_of_ble_eq_true rfl) ?_)
    exact W.iret (v := rr) hx hb hr (fun t ht hW => ⟨⟨rr, ad1, rfl, rV_0 h0, ⟨⟨by rw [ht]; exact wP_l hP, va_K.moved hW.alike hK⟩, wD_l hD⟩, had⟩, hS.F ht⟩) hS.2.2 dL_of_58
set_option maxRecDepth 100000 in
set_option maxHeartbeats 2000000 in
theorem c_L_of7 (l : Launch) (sa : Nat → Nat) (D : va_G) (k : Nat → ClassId) (ad : Nat → Nat) (M : Nat → Nat → Nat) (O : Nat → Nat → Int32) (sz : Nat) (p0 : Int32) {M' M1 : Nat → Nat → Nat} {O' O1 : Nat → Nat → Int32} {xq : Nat} {rr : Int32} (hM : vx_Met l yX2_step wsX2_step ({ frames := 7, cells := 1, slots := 6, locals := 104 }) (va_Pc [.ref (ad 0), .int p0] (zPre D k ad M O sz sa)) (zQop D k ad M M' O' (va_A (zw (20 + 2 * M 0 1) ad (cX k ad M O)) sz) xq rr) (zX (fun E => exC E xq)) 1 6 (va_A (zw (20 + 2 * M 0 1) ad (cX k ad M O)) sz)) (h93 : xq ≠ 3) (e1 : xq = 0 → M1 = M' ∧ O1 = O') (e2 : xq ≠ 0 → M1 = M ∧ O1 = O) : vx_Met l yL_of wsL_of ({ frames := 9, cells := 2, slots := 12, locals := 147 }) (va_Pc [.ref (ad 0), .int (nI 7), .int p0] (tPre D k ad M O sz sa)) (tQ D k ad M M1 O1 (va_A (zw (20 + 2 * M 0 1) ad (cX k ad M O)) sz) (rV xq rr)) (zX (fun _ => False)) 2 12 (va_A (zw (20 + 2 * M 0 1) ad (cX k ad M O)) sz) := by
  refine vx_ofWH (cc := cL_of) (maxL := 4) (ret := (some .int)) (by decide) rfl ?_
  intro p e s m args below meth c s₁ B hml hv
  obtain ⟨rfl, ⟨⟨hsz, ⟨hP, hK⟩, hD0⟩, hE⟩, hN⟩ := hv
  have hx := B.exec
  have hb := B.bytes
  have hr := B.returns
  have hts := atoms_spec (ws := wsL_of) B.pre
  have hown : s.vm.findClass RL = some m.cls := findClass_of_methodNamed B.named
  have hlocks := B.notSynchronized
  have F : CallFix p m c cL_of 4 s _ wsL_of RL := ⟨hx, hb, hml, hown, hts⟩
  have htab : c.exceptionTable.toList = tableOf [(0, 58, 59, 32), (0, 58, 63, 35)] := vx_table (x := yL_of) B (hts _ List.mem_cons_self)
  subst hsz
  have hD := hD0.self (sz := s.heap.size)
  generalize hAe : va_A (zw (20 + 2 * M 0 1) ad (cX k ad M O)) s.heap.size = A at hD hE ⊢
  have hA : ∀ q : Nat, s.heap.size ≤ q → A q := fun q h => by rw [← hAe]; exact Or.inr h
  have hS : va_S A s.heap s.heap [] := va_S.rf
  have hP := wP_n hP
  have hD := wD_n hD
  have hl := lv_entry ([.ref (ad 0), .int (nI 7), .int p0]) (n := 4) (Nat.le_of_ble_eq_true rfl)
  rw [lg_entry_eq]
  generalize (lg_sl ([.ref (ad 0), .int (nI 7), .int p0]) ++ List.replicate (4 - (lg_sl ([.ref (ad 0), .int (nI 7), .int p0])).length) Slot.unset).toArray = ls at hl ⊢
  have hl : lv_has ls 4 [(0, .ref (ad 0)), (1, .int (nI 7)), (2, .int p0)] := hl
  refine lv_iload_n hx hb dL_of_0 rfl (lv_at hl 1 rfl) ?_
  refine lv_iconst (v := nI 3) hx hb dL_of_1 (by decide) ?_
  refine z_icmp_ge (tgt := 14) F (by omega) (by omega) dL_of_2 (by decide) (fun _ => ?_) (fun zc => absurd zc (by decide))
  refine lv_iload_n hx hb dL_of_14 rfl (lv_at hl 1 rfl) ?_
  refine lv_bipush (v := nI 6) hx hb dL_of_15 (by decide) ?_
  refine z_icmp_ge (tgt := 39) F (by omega) (by omega) dL_of_17 (by decide) (fun _ => ?_) (fun zc => absurd zc (by decide))
  refine lv_iload_n hx hb dL_of_39 rfl (lv_at hl 1 rfl) ?_
  refine lv_bipush (v := nI 6) hx hb dL_of_40 (by decide) ?_
  refine z_icmp_ne (tgt := 53) F (by omega) (by omega) dL_of_42 (by decide) (fun _ => ?_) (fun zc => absurd zc (by decide))
  refine lv_aload_n hx hb dL_of_53 rfl (lv_at hl 0 rfl) ?_
  refine lv_iload_n hx hb dL_of_54 rfl (lv_at hl 2 rfl) ?_
  refine lx_call (wb := []) (As := [.int p0]) (rest := []) F hM (cwV 1 hts gL_of_X2_step rfl rfl rfl (by decide +kernel) ⟨Nat.le_of_ble_eq_true rfl, Nat.le_of_ble_eq_true rfl⟩) hK hP hD hS hA hE rfl hl.1 rfl (Nat.le_of_ble_eq_true rfl) dL_of_55 ⟨Nat.le_of_ble_eq_true rfl, Nat.le_of_ble_eq_true rfl⟩ (fun E ce q9 H1 locs1 hEx hP1 hS1 hce hcv hcl => ?_) (fun ad1 H1 locs1 h0 had hP hD hS => ?_)
  · rcases hEx with ⟨h1, rfl⟩ | ⟨h1, rfl⟩ | ⟨h1, rfl⟩
    · have h00 : xq ≠ 0 := by omega
      obtain ⟨e3, e4⟩ := e2 h00
      rw [e3, e4]
      refine vx_catch hown [] ⟨0, 58, 59, 32⟩ [⟨0, 58, 63, 35⟩] (by rw [htab]; rfl) (fun zq hz => absurd hz List.not_mem_nil) (by decide) (by decide) (hts (.classLink RL 32 exI) (by decide +kernel)) (va_Nw.use rfl hE.2.2.1.1) hce hcv hcl ?_
      refine lv_astore_n (lv' := [(3, .ref q9), (0, .ref (ad 0)), (1, .int (nI 7)), (2, .int p0)]) hx hb dL_of_59 rfl hl (by decide) rfl (fun ls hl => ?_)
      refine lv_ldc (v := (-3000000)) hx hb hown (hts (.constant RL 34 ((-3000000))) (by decide +kernel)) dL_of_60 ?_
      refine vx_ret (mc := 2) (ms := 12) (W.widen (k := 2) (n := 12) (Nat.le_of_ble_eq_true rfl) (Nat.le_of_ble_eq_true rfl) ?_)
      exact W.iret (v := (-3000000)) hx hb hr (fun t ht hW => ⟨⟨(-3000000), ad, rfl, rV_x h00, ⟨⟨by rw [ht]; exact wP_l hP1, va_K.moved hW.alike hK⟩, wD_l hD⟩, fun _ _ => rfl⟩, hS1.F ht⟩) hS1.2.2 dL_of_62
    · have h00 : xq ≠ 0 := by omega
      obtain ⟨e3, e4⟩ := e2 h00
      rw [e3, e4]
      refine vx_catch hown [⟨0, 58, 59, 32⟩] ⟨0, 58, 63, 35⟩ [] (by rw [htab]; rfl) (fun zq hz => by rw [List.mem_singleton.mp hz]; exact Or.inr ⟨by decide, exI, hts (.classLink RL 32 exI) (by decide +kernel), hN.1⟩) (by decide) (by decide) (hts (.classLink RL 35 exA) (by decide +kernel)) (va_Nw.use rfl hE.2.2.1.2.1) hce hcv hcl ?_
      refine lv_astore_n (lv' := [(3, .ref q9), (0, .ref (ad 0)), (1, .int (nI 7)), (2, .int p0)]) hx hb dL_of_63 rfl hl (by decide) rfl (fun ls hl => ?_)
      refine lv_ldc (v := (-3000000)) hx hb hown (hts (.constant RL 34 ((-3000000))) (by decide +kernel)) dL_of_64 ?_
      refine vx_ret (mc := 2) (ms := 12) (W.widen (k := 2) (n := 12) (Nat.le_of_ble_eq_true rfl) (Nat.le_of_ble_eq_true rfl) ?_)
      exact W.iret (v := (-3000000)) hx hb hr (fun t ht hW => ⟨⟨(-3000000), ad, rfl, rV_x h00, ⟨⟨by rw [ht]; exact wP_l hP1, va_K.moved hW.alike hK⟩, wD_l hD⟩, fun _ _ => rfl⟩, hS1.F ht⟩) hS1.2.2 dL_of_66
    · exact absurd h1 h93
  · obtain ⟨e3, e4⟩ := e1 h0
    rw [e3, e4]
    refine vx_ret (mc := 2) (ms := 12) (W.widen (k := 2) (n := 12) (Nat.le_of_ble_eq_true rfl) (Nat.le_of_ble_eq_true rfl) ?_)
    exact W.iret (v := rr) hx hb hr (fun t ht hW => ⟨⟨rr, ad1, rfl, rV_0 h0, ⟨⟨by rw [ht]; exact wP_l hP, va_K.moved hW.alike hK⟩, wD_l hD⟩, had⟩, hS.F ht⟩) hS.2.2 dL_of_58
