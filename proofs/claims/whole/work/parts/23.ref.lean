/-! THE REFERENCE: its calls, more. -/
set_option maxRecDepth 100000 in
set_option maxHeartbeats 1000000 in
theorem c_X3_buy (l : Launch) (D : va_G) (k : Nat → ClassId) (bd : Nat → Nat) (M : Nat → Nat → Nat) (O : Nat → Nat → Int32) (th : Int32) (sz : Nat) (hI : zInv M) (p0 p1 : Int32) : Met l yX3_buy wsX3_buy ({ frames := 2, cells := 0, slots := 0, locals := 42 }) (va_Pc [.ref (bd 0), .int p0, .int p1] (zG D k 19 bd (cM k bd M O th) sz)) (zQw D k 19 bd (cM k bd M (if (x3 (zI 4 p0) (nI 1 ≤ p1 ∧ p1 ≤ nI 100) (True)) = 0 then (zo (zo O 0 (ix p0) (O 0 (ix p0) + nI (ix p1))) 1 (ix p0) (O 1 (ix p0) + nI (ix p1 * 7000))) else O) (nI ((x3 (zI 4 p0) (nI 1 ≤ p1 ∧ p1 ≤ nI 100) (True))))) (va_A (zw 19 bd (cM k bd M O th)) sz) (fun r => (x3 (zI 4 p0) (nI 1 ≤ p1 ∧ p1 ≤ nI 100) (True)) = 0 → r = (O 0 (ix p0) + nI (ix p1)))) 0 0 (va_A (zw 19 bd (cM k bd M O th)) sz) := by
  refine Met.ofW (cc := cX3_buy) (maxL := 3) (ret := (some .int)) (by decide) rfl ?_
  intro p e s m args below meth c s₁ B hml hv
  obtain ⟨rfl, hsz, ⟨hP, hK⟩, hD0⟩ := hv
  have hx := B.exec
  have hb := B.bytes
  have hr := B.returns
  have hts := atoms_spec (ws := wsX3_buy) B.pre
  have hown : s.vm.findClass RX3 = some m.cls := findClass_of_methodNamed B.named
  have hlocks := B.notSynchronized
  have F : CallFix p m c cX3_buy 3 s _ wsX3_buy RX3 := ⟨hx, hb, hml, hown, hts⟩
  subst hsz
  have hD := hD0.self (sz := s.heap.size)
  generalize hAe : va_A (zw 19 bd (cM k bd M O th)) s.heap.size = A at hD ⊢
  have hA : ∀ q : Nat, s.heap.size ≤ q → A q := fun q h => by rw [← hAe]; exact Or.inr h
  have hS : va_S A s.heap s.heap [] := va_S.rf
  have hl := lv_entry ([.ref (bd 0), .int p0, .int p1]) (n := 3) (Nat.le_of_ble_eq_true rfl)
  rw [lg_entry_eq]
  generalize (lg_sl ([.ref (bd 0), .int p0, .int p1]) ++ List.replicate (3 - (lg_sl ([.ref (bd 0), .int p0, .int p1])).length) Slot.unset).toArray = ls at hl ⊢
  have hl : lv_has ls 3 [(0, .ref (bd 0)), (1, .int p0), (2, .int p1)] := hl
  have hi3 : ∀ w ∈ u_ws RX3 TX3 21, w ∈ wsX3_buy := by decide +kernel
  obtain ⟨hI1, hI2, hI3, hI4, hI5, hI6, hI7⟩ := id hI
  refine lv_aload_n hx hb dX3_buy_0 rfl (lv_at hl 0 rfl) ?_
  refine lv_iload_n hx hb dX3_buy_1 rfl (lv_at hl 1 rfl) ?_
  refine z_cS (As := [.int p0]) (rest := [.ref (bd 0)]) F (c_X3_isSite l p0) (va_cwS 1 hts gX3_buy_X3_isSite rfl rfl rfl (by decide +kernel) ⟨Nat.le_of_ble_eq_true rfl, Nat.le_of_ble_eq_true rfl⟩) rfl hl.1 rfl (Nat.le_of_ble_eq_true rfl) dX3_buy_2 ⟨Nat.le_of_ble_eq_true rfl, Nat.le_of_ble_eq_true rfl⟩ (fun r hr => ?_)
  subst hr
  refine lv_iload_n hx hb dX3_buy_5 rfl (lv_at hl 2 rfl) ?_
  refine lv_iconst (v := nI 1) hx hb dX3_buy_6 (by decide) ?_
  refine lv_bipush (v := nI 100) hx hb dX3_buy_7 (by decide) ?_
  refine z_cS (As := [.int p1, .int (nI 1), .int (nI 100)]) (rest := [.int (bI (zI 4 p0)), .ref (bd 0)]) F (c_X3_in l p1 (nI 1) (nI 100)) (va_cwS 3 hts gX3_buy_X3_in rfl rfl rfl (by decide +kernel) ⟨Nat.le_of_ble_eq_true rfl, Nat.le_of_ble_eq_true rfl⟩) rfl hl.1 rfl (Nat.le_of_ble_eq_true rfl) dX3_buy_9 ⟨Nat.le_of_ble_eq_true rfl, Nat.le_of_ble_eq_true rfl⟩ (fun r hr => ?_)
  subst hr
  refine z_mV (qc := (RX3, TX3, 21)) (As := [.int (bI (zI 4 p0)), .int (bI (nI 1 ≤ p1 ∧ p1 ≤ nI 100))]) (rest := []) (0) F (c_X3_asked_ l D k bd M O th _ (zI 4 p0) (nI 1 ≤ p1 ∧ p1 ≤ nI 100)) (cwV 2 hts gX3_buy_X3_asked_ rfl rfl rfl (by decide +kernel) ⟨Nat.le_of_ble_eq_true rfl, Nat.le_of_ble_eq_true rfl⟩) hK hP hD hS hA (by omega) cM_0 rfl rfl hl.1 rfl (Nat.le_of_ble_eq_true rfl) dX3_buy_12 ⟨Nat.le_of_ble_eq_true rfl, Nat.le_of_ble_eq_true rfl⟩ (fun r H locs hr0 hP hD hS => ?_)
  subst hr0
  refine z_ifb_ne (tgt := 20) F dX3_buy_15 (by decide) (fun c1 => ?_) (fun c1 => ?_)
  · obtain ⟨i, hi, rfl⟩ := id (c1.1)
    try rw [ix_nI (show i < 2 ^ 31 by omega)]
    obtain ⟨h, hh0, hh, rfl⟩ := (zB_iff (by omega) (by decide)).mp (c1.2)
    try rw [ix_nI (show h < 2 ^ 31 by omega)]
    refine lv_aload_n hx hb dX3_buy_20 rfl (lv_at hl 0 rfl) ?_
    refine z_get (C := RX3) (T := TX3) (N := 21) (ci := 3) (fs := mObj bd M (nI (y2 (zI 4 (nI i)) (nI 1 ≤ (nI h) ∧ (nI h) ≤ nI 100)))) (v := .ref (bd 17)) F hK hP hi3 rfl (0) 18 (by omega) cM_0 (by decide) rfl (by decide +kernel) dX3_buy_21 ?_
    refine lv_iload_n hx hb dX3_buy_24 rfl (lv_at hl 1 rfl) ?_
    refine lv_dup2_11 hx hb dX3_buy_25 rfl rfl ?_
    refine z_iald (v := O 0 i) (cA := k 0) (len := 4) (g := mA M O 17) F hK hP (17) 0 (by omega) rfl rfl (i := nI i) i rfl hi (by decide) rfl dX3_buy_26 ?_
    refine lv_iload_n hx hb dX3_buy_27 rfl (lv_at hl 2 rfl) ?_
    refine lv_iadd hx hb dX3_buy_28 ?_
    refine z_iast (f' := (cM k bd M (zo O 0 i ((O 0 i) + (nI h))) (nI (y2 (zI 4 (nI i)) (nI 1 ≤ (nI h) ∧ (nI h) ≤ nI 100))))) (cA := k 0) (len := 4) (g := mA M O 17) F hK hP hD hS (17) 0 (by omega) rfl rfl (i := nI i) i rfl hi (by decide) (cM_uahead _ _) dX3_buy_29 (fun H locs hP hD hS => ?_)
    refine lv_aload_n hx hb dX3_buy_30 rfl (lv_at hl 0 rfl) ?_
    refine z_get (C := RX3) (T := TX3) (N := 21) (ci := 3) (fs := mObj bd M (nI (y2 (zI 4 (nI i)) (nI 1 ≤ (nI h) ∧ (nI h) ≤ nI 100)))) (v := .ref (bd 18)) F hK hP hi3 rfl (0) 19 (by omega) cM_0 (by decide) rfl (by decide +kernel) dX3_buy_31 ?_
    refine lv_iload_n hx hb dX3_buy_34 rfl (lv_at hl 1 rfl) ?_
    refine lv_dup2_11 hx hb dX3_buy_35 rfl rfl ?_
    refine z_iald (v := (zo O 0 i ((O 0 i) + (nI h))) 1 i) (cA := k 0) (len := 4) (g := mA M (zo O 0 i ((O 0 i) + (nI h))) 18) F hK hP (18) 0 (by omega) rfl rfl (i := nI i) i rfl hi (by decide) rfl dX3_buy_36 ?_
    refine lv_sipush (v := nI 7000) hx hb dX3_buy_37 (by decide) ?_
    refine lv_iload_n hx hb dX3_buy_40 rfl (lv_at hl 2 rfl) ?_
    refine z_mul F dX3_buy_41 ?_
    refine lv_iadd hx hb dX3_buy_42 ?_
    refine z_iast (f' := (cM k bd M (zo (zo O 0 i ((O 0 i) + (nI h))) 1 i (((zo O 0 i ((O 0 i) + (nI h))) 1 i) + (nI (7000 * h)))) (nI (y2 (zI 4 (nI i)) (nI 1 ≤ (nI h) ∧ (nI h) ≤ nI 100))))) (cA := k 0) (len := 4) (g := mA M (zo O 0 i ((O 0 i) + (nI h))) 18) F hK hP hD hS (18) 0 (by omega) rfl rfl (i := nI i) i rfl hi (by decide) (cM_uowes _ _) dX3_buy_43 (fun H locs hP hD hS => ?_)
    refine lv_aload_n hx hb dX3_buy_44 rfl (lv_at hl 0 rfl) ?_
    refine z_get (C := RX3) (T := TX3) (N := 21) (ci := 3) (fs := mObj bd M (nI (y2 (zI 4 (nI i)) (nI 1 ≤ (nI h) ∧ (nI h) ≤ nI 100)))) (v := .ref (bd 17)) F hK hP hi3 rfl (0) 18 (by omega) cM_0 (by decide) rfl (by decide +kernel) dX3_buy_45 ?_
    refine lv_iload_n hx hb dX3_buy_48 rfl (lv_at hl 1 rfl) ?_
    refine z_iald (v := (zo (zo O 0 i ((O 0 i) + (nI h))) 1 i (((zo O 0 i ((O 0 i) + (nI h))) 1 i) + (nI (7000 * h)))) 0 i) (cA := k 0) (len := 4) (g := mA M (zo (zo O 0 i ((O 0 i) + (nI h))) 1 i (((zo O 0 i ((O 0 i) + (nI h))) 1 i) + (nI (7000 * h)))) 17) F hK hP (17) 0 (by omega) rfl rfl (i := nI i) i rfl hi (by decide) rfl dX3_buy_49 ?_
    have hx0 : (x3 (zI 4 (nI i)) (nI 1 ≤ (nI h) ∧ (nI h) ≤ nI 100) (True)) = 0 := x3_0 c1.1 c1.2 trivial
    have eW : cM k bd M (if (x3 (zI 4 (nI i)) (nI 1 ≤ (nI h) ∧ (nI h) ≤ nI 100) (True)) = 0 then (zo (zo O 0 (i) (O 0 (i) + nI (h))) 1 (i) (O 1 (i) + nI (h * 7000))) else O) (nI ((x3 (zI 4 (nI i)) (nI 1 ≤ (nI h) ∧ (nI h) ≤ nI 100) (True)))) = cM k bd M (zo (zo O 0 i ((O 0 i) + (nI h))) 1 i (((zo O 0 i ((O 0 i) + (nI h))) 1 i) + (nI (7000 * h)))) (nI (y2 (zI 4 (nI i)) (nI 1 ≤ (nI h) ∧ (nI h) ≤ nI 100))) := by rw [if_pos hx0, ← y2_ab, Nat.mul_comm h 7000] <;> rfl
    rw [← eW] at hP hD
    refine W.widen (k := 0) (n := 0) (Nat.le_of_ble_eq_true rfl) (Nat.le_of_ble_eq_true rfl) ?_
    exact W.iret (v := (zo (zo O 0 i ((O 0 i) + (nI h))) 1 i (((zo O 0 i ((O 0 i) + (nI h))) 1 i) + (nI (7000 * h)))) 0 i) hx hb hr (fun t ht hW => ⟨⟨(zo (zo O 0 i ((O 0 i) + (nI h))) 1 i (((zo O 0 i ((O 0 i) + (nI h))) 1 i) + (nI (7000 * h)))) 0 i, (), rfl, fun _ => (by rw [zo_r _ _ _ _ (show (0 : Nat) ≠ 1 by decide), zo_s]), ⟨by rw [ht]; exact hP, va_K.moved hW.alike hK⟩, hD⟩, hS.F ht⟩) hS.2.2 dX3_buy_50
  · refine lv_iconst (v := nI 0) hx hb dX3_buy_18 (by decide) ?_
    have hx0 : (x3 (zI 4 p0) (nI 1 ≤ p1 ∧ p1 ≤ nI 100) (True)) ≠ 0 := x3_no (fun zz1 => c1 ⟨zz1.1, zz1.2.1⟩)
    have eW : cM k bd M (if (x3 (zI 4 p0) (nI 1 ≤ p1 ∧ p1 ≤ nI 100) (True)) = 0 then (zo (zo O 0 (ix p0) (O 0 (ix p0) + nI (ix p1))) 1 (ix p0) (O 1 (ix p0) + nI (ix p1 * 7000))) else O) (nI ((x3 (zI 4 p0) (nI 1 ≤ p1 ∧ p1 ≤ nI 100) (True)))) = cM k bd M O (nI (y2 (zI 4 p0) (nI 1 ≤ p1 ∧ p1 ≤ nI 100))) := by rw [if_neg hx0, ← y2_ab] <;> rfl
    rw [← eW] at hP hD
    refine W.widen (k := 0) (n := 0) (Nat.le_of_ble_eq_true rfl) (Nat.le_of_ble_eq_true rfl) ?_
    exact W.iret (v := nI 0) hx hb hr (fun t ht hW => ⟨⟨nI 0, (), rfl, fun zz1 => absurd zz1 hx0, ⟨by rw [ht]; exact hP, va_K.moved hW.alike hK⟩, hD⟩, hS.F ht⟩) hS.2.2 dX3_buy_19
set_option maxRecDepth 100000 in
set_option maxHeartbeats 1000000 in
theorem c_X3_rest (l : Launch) (D : va_G) (k : Nat → ClassId) (bd : Nat → Nat) (M : Nat → Nat → Nat) (O : Nat → Nat → Int32) (th : Int32) (sz : Nat) (hI : zInv M) (p0 : Int32) (b1 : Nat) (h1 : b1 ≤ 1) : Met l yX3_rest wsX3_rest ({ frames := 2, cells := 0, slots := 0, locals := 43 }) (va_Pc [.ref (bd 0), .int p0, .int (nI b1)] (zG D k 19 bd (cM k bd M O th) sz)) (zQw D k 19 bd (cM k bd (if (x3 (zI (M 0 1) p0) (True) (M 12 (ix p0) = 0)) = 0 then (zu M 14 (ix p0) b1) else M) O (nI ((kq (x3 (zI (M 0 1) p0) (True) (M 12 (ix p0) = 0)))))) (va_A (zw 19 bd (cM k bd M O th)) sz) (fun r => (x3 (zI (M 0 1) p0) (True) (M 12 (ix p0) = 0)) = 0 → r = (nI (M 14 (ix p0))))) 0 0 (va_A (zw 19 bd (cM k bd M O th)) sz) := by
  refine Met.ofW (cc := cX3_rest) (maxL := 5) (ret := (some .boolean)) (by decide) rfl ?_
  intro p e s m args below meth c s₁ B hml hv
  obtain ⟨rfl, hsz, ⟨hP, hK⟩, hD0⟩ := hv
  have hx := B.exec
  have hb := B.bytes
  have hr := B.returns
  have hts := atoms_spec (ws := wsX3_rest) B.pre
  have hown : s.vm.findClass RX3 = some m.cls := findClass_of_methodNamed B.named
  have hlocks := B.notSynchronized
  have F : CallFix p m c cX3_rest 5 s _ wsX3_rest RX3 := ⟨hx, hb, hml, hown, hts⟩
  subst hsz
  have hD := hD0.self (sz := s.heap.size)
  generalize hAe : va_A (zw 19 bd (cM k bd M O th)) s.heap.size = A at hD ⊢
  have hA : ∀ q : Nat, s.heap.size ≤ q → A q := fun q h => by rw [← hAe]; exact Or.inr h
  have hS : va_S A s.heap s.heap [] := va_S.rf
  have hl := lv_entry ([.ref (bd 0), .int p0, .int (nI b1)]) (n := 5) (Nat.le_of_ble_eq_true rfl)
  rw [lg_entry_eq]
  generalize (lg_sl ([.ref (bd 0), .int p0, .int (nI b1)]) ++ List.replicate (5 - (lg_sl ([.ref (bd 0), .int p0, .int (nI b1)])).length) Slot.unset).toArray = ls at hl ⊢
  have hl : lv_has ls 5 [(0, .ref (bd 0)), (1, .int p0), (2, .int (nI b1))] := hl
  have hi3 : ∀ w ∈ u_ws RX3 TX3 21, w ∈ wsX3_rest := by decide +kernel
  obtain ⟨hI1, hI2, hI3, hI4, hI5, hI6, hI7⟩ := id hI
  refine lv_aload_n hx hb dX3_rest_0 rfl (lv_at hl 0 rfl) ?_
  refine lv_iload_n hx hb dX3_rest_1 rfl (lv_at hl 1 rfl) ?_
  refine z_cV (qc := (RX3, TX3, 21)) (As := [.int p0]) (rest := []) (0) F (c_X3_isCase l D k bd M O th hI2 p0) (cwV 1 hts gX3_rest_X3_isCase rfl rfl rfl (by decide +kernel) ⟨Nat.le_of_ble_eq_true rfl, Nat.le_of_ble_eq_true rfl⟩) hK hP (by omega) cM_0 rfl rfl hl.1 rfl (Nat.le_of_ble_eq_true rfl) dX3_rest_2 ⟨Nat.le_of_ble_eq_true rfl, Nat.le_of_ble_eq_true rfl⟩ (fun r hr => ?_)
  subst hr
  refine lv_istore_n (lv' := [(3, .int (bI (zI (M 0 1) p0))), (0, .ref (bd 0)), (1, .int p0), (2, .int (nI b1))]) hx hb dX3_rest_5 rfl hl (by decide) rfl (fun ls hl => ?_)
  refine lv_aload_n hx hb dX3_rest_6 rfl (lv_at hl 1 rfl) ?_
  refine lv_iload_n hx hb dX3_rest_7 rfl (lv_at hl 0 rfl) ?_
  refine lv_iload_n hx hb dX3_rest_8 rfl (lv_at hl 0 rfl) ?_
  refine z_ifb_eq (tgt := 25) F dX3_rest_9 (by decide) (fun c2 => ?_) (fun c2 => ?_)
  · refine lv_iconst (v := nI 0) hx hb dX3_rest_25 (by decide) ?_
    refine z_top (show nI 0 = bI (zI (M 0 1) p0 ∧ M 12 (ix p0) = 0) from (bI_f (fun zz1 => by have zz2 := zz1.1; first | exact c2 zz2 | omega)).symm) ?_
    refine z_mV (qc := (RX3, TX3, 21)) (As := [.int (bI (zI (M 0 1) p0)), .int (bI (zI (M 0 1) p0 ∧ M 12 (ix p0) = 0))]) (rest := []) (0) F (c_X3_asked_ l D k bd M O th _ (zI (M 0 1) p0) (zI (M 0 1) p0 ∧ M 12 (ix p0) = 0)) (cwV 2 hts gX3_rest_X3_asked_ rfl rfl rfl (by decide +kernel) ⟨Nat.le_of_ble_eq_true rfl, Nat.le_of_ble_eq_true rfl⟩) hK hP hD hS hA (by omega) cM_0 rfl rfl hl.1 rfl (Nat.le_of_ble_eq_true rfl) dX3_rest_26 ⟨Nat.le_of_ble_eq_true rfl, Nat.le_of_ble_eq_true rfl⟩ (fun r H locs hr0 hP hD hS => ?_)
    subst hr0
    refine z_ifb_ne (tgt := 34) F dX3_rest_29 (by decide) (fun c3 => ?_) (fun c3 => ?_)
    · first | exact absurd c3.1 c2
    · refine lv_iconst (v := nI 0) hx hb dX3_rest_32 (by decide) ?_
      have hx0 : (x3 (zI (M 0 1) p0) (True) (M 12 (ix p0) = 0)) ≠ 0 := x3_no (fun zz1 => c3 ⟨zz1.1, zz1.1, zz1.2.2⟩)
      have eW : cM k bd (if (x3 (zI (M 0 1) p0) (True) (M 12 (ix p0) = 0)) = 0 then (zu M 14 (ix p0) b1) else M) O (nI ((kq (x3 (zI (M 0 1) p0) (True) (M 12 (ix p0) = 0))))) = cM k bd M O (nI (y2 (zI (M 0 1) p0) (zI (M 0 1) p0 ∧ M 12 (ix p0) = 0))) := by rw [if_neg hx0, ← y2_ac] <;> rfl
      rw [← eW] at hP hD
      refine W.widen (k := 0) (n := 0) (Nat.le_of_ble_eq_true rfl) (Nat.le_of_ble_eq_true rfl) ?_
      exact W.zret (v := nI 0) hx hb hr rfl (fun t ht hW => ⟨⟨nI 0, (), rfl, fun zz1 => absurd zz1 hx0, ⟨by rw [ht]; exact hP, va_K.moved hW.alike hK⟩, hD⟩, hS.F ht⟩) hS.2.2 dX3_rest_33
  · obtain ⟨i, hi, rfl⟩ := id (c2)
    try rw [ix_nI (show i < 2 ^ 31 by omega)]
    have hz := hI5 i hi
    obtain ⟨hc1, hc2, hc3, hc4, hc5, hc6, hc7⟩ := id hz
    refine lv_aload_n hx hb dX3_rest_12 rfl (lv_at hl 1 rfl) ?_
    refine z_get (C := RX3) (T := TX3) (N := 21) (ci := 3) (fs := mObj bd M th) (v := .ref (bd 12)) F hK hP hi3 rfl (0) 12 (by omega) cM_0 (by decide) rfl (by decide +kernel) dX3_rest_13 ?_
    refine lv_iload_n hx hb dX3_rest_16 rfl (lv_at hl 2 rfl) ?_
    refine z_iald (v := nI (M 12 i)) (cA := k 0) (len := 40) (g := mA M O 12) F hK hP (12) 0 (by omega) rfl rfl (i := nI i) i rfl (by omega) (by decide) rfl dX3_rest_17 ?_
    refine z_ifn_ne (tgt := 25) F (by omega) dX3_rest_18 (by decide) (fun c4 => ?_) (fun c4 => ?_)
    · refine lv_iconst (v := nI 0) hx hb dX3_rest_25 (by decide) ?_
      refine z_top (show nI 0 = bI (zI (M 0 1) (nI i) ∧ M 12 (i) = 0) from (bI_f (fun zz1 => by have zz2 := zz1.2; first | exact c4 zz2 | omega)).symm) ?_
      refine z_mV (qc := (RX3, TX3, 21)) (As := [.int (bI (zI (M 0 1) (nI i))), .int (bI (zI (M 0 1) (nI i) ∧ M 12 (i) = 0))]) (rest := []) (0) F (c_X3_asked_ l D k bd M O th _ (zI (M 0 1) (nI i)) (zI (M 0 1) (nI i) ∧ M 12 (i) = 0)) (cwV 2 hts gX3_rest_X3_asked_ rfl rfl rfl (by decide +kernel) ⟨Nat.le_of_ble_eq_true rfl, Nat.le_of_ble_eq_true rfl⟩) hK hP hD hS hA (by omega) cM_0 rfl rfl hl.1 rfl (Nat.le_of_ble_eq_true rfl) dX3_rest_26 ⟨Nat.le_of_ble_eq_true rfl, Nat.le_of_ble_eq_true rfl⟩ (fun r H locs hr0 hP hD hS => ?_)
      subst hr0
      refine z_ifb_ne (tgt := 34) F dX3_rest_29 (by decide) (fun c5 => ?_) (fun c5 => ?_)
      · refine lv_aload_n hx hb dX3_rest_34 rfl (lv_at hl 1 rfl) ?_
        refine z_get (C := RX3) (T := TX3) (N := 21) (ci := 3) (fs := mObj bd M (nI (y2 (zI (M 0 1) (nI i)) (zI (M 0 1) (nI i) ∧ M 12 (i) = 0)))) (v := .ref (bd 14)) F hK hP hi3 rfl (0) 14 (by omega) cM_0 (by decide) rfl (by decide +kernel) dX3_rest_35 ?_
        refine lv_iload_n hx hb dX3_rest_38 rfl (lv_at hl 2 rfl) ?_
        refine z_zald (v := nI (M 14 i)) (cA := k 1) (len := 40) (g := mA M O 14) F hK hP (14) 1 (by omega) rfl rfl (i := nI i) i rfl (by omega) (by decide) rfl dX3_rest_39 ?_
        refine lv_istore (lv' := [(4, .int (nI (M 14 i))), (3, .int (bI (zI (M 0 1) (nI i)))), (0, .ref (bd 0)), (1, .int (nI i)), (2, .int (nI b1))]) hx hb dX3_rest_40 hl (by decide) rfl (fun ls hl => ?_)
        refine lv_aload_n hx hb dX3_rest_42 rfl (lv_at hl 2 rfl) ?_
        refine z_get (C := RX3) (T := TX3) (N := 21) (ci := 3) (fs := mObj bd M (nI (y2 (zI (M 0 1) (nI i)) (zI (M 0 1) (nI i) ∧ M 12 (i) = 0)))) (v := .ref (bd 14)) F hK hP hi3 rfl (0) 14 (by omega) cM_0 (by decide) rfl (by decide +kernel) dX3_rest_43 ?_
        refine lv_iload_n hx hb dX3_rest_46 rfl (lv_at hl 3 rfl) ?_
        refine lv_iload_n hx hb dX3_rest_47 rfl (lv_at hl 4 rfl) ?_
        refine z_zast (f' := (cM k bd (zu M 14 i b1) O (nI (y2 (zI (M 0 1) (nI i)) (zI (M 0 1) (nI i) ∧ M 12 (i) = 0))))) (cA := k 1) (len := 40) (g := mA M O 14) F hK hP hD hS (14) 1 (by omega) rfl rfl (i := nI i) i rfl (by omega) (by decide) (nb_v h1) (cM_urow 14 (by decide) (by decide) (by decide) (by decide) (by decide) _ _) dX3_rest_48 (fun H locs hP hD hS => ?_)
        refine lv_iload hx hb dX3_rest_49 (lv_at hl 0 rfl) ?_
        have hx0 : (x3 (zI (M 0 1) (nI i)) (True) (M 12 (i) = 0)) = 0 := x3_0 c5.1 trivial c5.2.2
        have eW : cM k bd (if (x3 (zI (M 0 1) (nI i)) (True) (M 12 (i) = 0)) = 0 then (zu M 14 (i) b1) else M) O (nI ((kq (x3 (zI (M 0 1) (nI i)) (True) (M 12 (i) = 0))))) = cM k bd (zu M 14 i b1) O (nI (y2 (zI (M 0 1) (nI i)) (zI (M 0 1) (nI i) ∧ M 12 (i) = 0))) := by rw [if_pos hx0, ← y2_ac] <;> rfl
        rw [← eW] at hP hD
        refine W.widen (k := 0) (n := 0) (Nat.le_of_ble_eq_true rfl) (Nat.le_of_ble_eq_true rfl) ?_
        exact W.zret (v := nI (M 14 i)) hx hb hr (nb_n hc6) (fun t ht hW => ⟨⟨nI (M 14 i), (), rfl, fun _ => rfl, ⟨by rw [ht]; exact hP, va_K.moved hW.alike hK⟩, hD⟩, hS.F ht⟩) hS.2.2 dX3_rest_51
      · refine lv_iconst (v := nI 0) hx hb dX3_rest_32 (by decide) ?_
        have hx0 : (x3 (zI (M 0 1) (nI i)) (True) (M 12 (i) = 0)) ≠ 0 := x3_no (fun zz1 => c5 ⟨zz1.1, zz1.1, zz1.2.2⟩)
        have eW : cM k bd (if (x3 (zI (M 0 1) (nI i)) (True) (M 12 (i) = 0)) = 0 then (zu M 14 (i) b1) else M) O (nI ((kq (x3 (zI (M 0 1) (nI i)) (True) (M 12 (i) = 0))))) = cM k bd M O (nI (y2 (zI (M 0 1) (nI i)) (zI (M 0 1) (nI i) ∧ M 12 (i) = 0))) := by rw [if_neg hx0, ← y2_ac] <;> rfl
        rw [← eW] at hP hD
        refine W.widen (k := 0) (n := 0) (Nat.le_of_ble_eq_true rfl) (Nat.le_of_ble_eq_true rfl) ?_
        exact W.zret (v := nI 0) hx hb hr rfl (fun t ht hW => ⟨⟨nI 0, (), rfl, fun zz1 => absurd zz1 hx0, ⟨by rw [ht]; exact hP, va_K.moved hW.alike hK⟩, hD⟩, hS.F ht⟩) hS.2.2 dX3_rest_33
    · refine lv_iconst (v := nI 1) hx hb dX3_rest_21 (by decide) ?_
      refine lv_goto (tgt := 26) hx hb dX3_rest_22 (by decide) ?_
      refine z_top (show nI 1 = bI (zI (M 0 1) (nI i) ∧ M 12 (i) = 0) from (bI_t ⟨c2, c4⟩).symm) ?_
      refine z_mV (qc := (RX3, TX3, 21)) (As := [.int (bI (zI (M 0 1) (nI i))), .int (bI (zI (M 0 1) (nI i) ∧ M 12 (i) = 0))]) (rest := []) (0) F (c_X3_asked_ l D k bd M O th _ (zI (M 0 1) (nI i)) (zI (M 0 1) (nI i) ∧ M 12 (i) = 0)) (cwV 2 hts gX3_rest_X3_asked_ rfl rfl rfl (by decide +kernel) ⟨Nat.le_of_ble_eq_true rfl, Nat.le_of_ble_eq_true rfl⟩) hK hP hD hS hA (by omega) cM_0 rfl rfl hl.1 rfl (Nat.le_of_ble_eq_true rfl) dX3_rest_26 ⟨Nat.le_of_ble_eq_true rfl, Nat.le_of_ble_eq_true rfl⟩ (fun r H locs hr0 hP hD hS => ?_)
      subst hr0
      refine z_ifb_ne (tgt := 34) F dX3_rest_29 (by decide) (fun c6 => ?_) (fun c6 => ?_)
      · refine lv_aload_n hx hb dX3_rest_34 rfl (lv_at hl 1 rfl) ?_
        refine z_get (C := RX3) (T := TX3) (N := 21) (ci := 3) (fs := mObj bd M (nI (y2 (zI (M 0 1) (nI i)) (zI (M 0 1) (nI i) ∧ M 12 (i) = 0)))) (v := .ref (bd 14)) F hK hP hi3 rfl (0) 14 (by omega) cM_0 (by decide) rfl (by decide +kernel) dX3_rest_35 ?_
        refine lv_iload_n hx hb dX3_rest_38 rfl (lv_at hl 2 rfl) ?_
        refine z_zald (v := nI (M 14 i)) (cA := k 1) (len := 40) (g := mA M O 14) F hK hP (14) 1 (by omega) rfl rfl (i := nI i) i rfl (by omega) (by decide) rfl dX3_rest_39 ?_
        refine lv_istore (lv' := [(4, .int (nI (M 14 i))), (3, .int (bI (zI (M 0 1) (nI i)))), (0, .ref (bd 0)), (1, .int (nI i)), (2, .int (nI b1))]) hx hb dX3_rest_40 hl (by decide) rfl (fun ls hl => ?_)
        refine lv_aload_n hx hb dX3_rest_42 rfl (lv_at hl 2 rfl) ?_
        refine z_get (C := RX3) (T := TX3) (N := 21) (ci := 3) (fs := mObj bd M (nI (y2 (zI (M 0 1) (nI i)) (zI (M 0 1) (nI i) ∧ M 12 (i) = 0)))) (v := .ref (bd 14)) F hK hP hi3 rfl (0) 14 (by omega) cM_0 (by decide) rfl (by decide +kernel) dX3_rest_43 ?_
        refine lv_iload_n hx hb dX3_rest_46 rfl (lv_at hl 3 rfl) ?_
        refine lv_iload_n hx hb dX3_rest_47 rfl (lv_at hl 4 rfl) ?_
        refine z_zast (f' := (cM k bd (zu M 14 i b1) O (nI (y2 (zI (M 0 1) (nI i)) (zI (M 0 1) (nI i) ∧ M 12 (i) = 0))))) (cA := k 1) (len := 40) (g := mA M O 14) F hK hP hD hS (14) 1 (by omega) rfl rfl (i := nI i) i rfl (by omega) (by decide) (nb_v h1) (cM_urow 14 (by decide) (by decide) (by decide) (by decide) (by decide) _ _) dX3_rest_48 (fun H locs hP hD hS => ?_)
        refine lv_iload hx hb dX3_rest_49 (lv_at hl 0 rfl) ?_
        have hx0 : (x3 (zI (M 0 1) (nI i)) (True) (M 12 (i) = 0)) = 0 := x3_0 c6.1 trivial c6.2.2
        have eW : cM k bd (if (x3 (zI (M 0 1) (nI i)) (True) (M 12 (i) = 0)) = 0 then (zu M 14 (i) b1) else M) O (nI ((kq (x3 (zI (M 0 1) (nI i)) (True) (M 12 (i) = 0))))) = cM k bd (zu M 14 i b1) O (nI (y2 (zI (M 0 1) (nI i)) (zI (M 0 1) (nI i) ∧ M 12 (i) = 0))) := by rw [if_pos hx0, ← y2_ac] <;> rfl
        rw [← eW] at hP hD
        refine W.widen (k := 0) (n := 0) (Nat.le_of_ble_eq_true rfl) (Nat.le_of_ble_eq_true rfl) ?_
        exact W.zret (v := nI (M 14 i)) hx hb hr (nb_n hc6) (fun t ht hW => ⟨⟨nI (M 14 i), (), rfl, fun _ => rfl, ⟨by rw [ht]; exact hP, va_K.moved hW.alike hK⟩, hD⟩, hS.F ht⟩) hS.2.2 dX3_rest_51
      · refine lv_iconst (v := nI 0) hx hb dX3_rest_32 (by decide) ?_
        have hx0 : (x3 (zI (M 0 1) (nI i)) (True) (M 12 (i) = 0)) ≠ 0 := x3_no (fun zz1 => c6 ⟨zz1.1, zz1.1, zz1.2.2⟩)
        have eW : cM k bd (if (x3 (zI (M 0 1) (nI i)) (True) (M 12 (i) = 0)) = 0 then (zu M 14 (i) b1) else M) O (nI ((kq (x3 (zI (M 0 1) (nI i)) (True) (M 12 (i) = 0))))) = cM k bd M O (nI (y2 (zI (M 0 1) (nI i)) (zI (M 0 1) (nI i) ∧ M 12 (i) = 0))) := by rw [if_neg hx0, ← y2_ac] <;> rfl
        rw [← eW] at hP hD
        refine W.widen (k := 0) (n := 0) (Nat.le_of_ble_eq_true rfl) (Nat.le_of_ble_eq_true rfl) ?_
        exact W.zret (v := nI 0) hx hb hr rfl (fun t ht hW => ⟨⟨nI 0, (), rfl, fun zz1 => absurd zz1 hx0, ⟨by rw [ht]; exact hP, va_K.moved hW.alike hK⟩, hD⟩, hS.F ht⟩) hS.2.2 dX3_rest_33
set_option maxRecDepth 100000 in
set_option maxHeartbeats 1000000 in
theorem c_X3_setGravity (l : Launch) (D : va_G) (k : Nat → ClassId) (bd : Nat → Nat) (M : Nat → Nat → Nat) (O : Nat → Nat → Int32) (th : Int32) (sz : Nat) (hI : zInv M) (p0 p1 : Int32) : Met l yX3_setGravity wsX3_setGravity ({ frames := 2, cells := 0, slots := 0, locals := 43 }) (va_Pc [.ref (bd 0), .int p0, .int p1] (zG D k 19 bd (cM k bd M O th) sz)) (zQw D k 19 bd (cM k bd (if (x3 (zI (M 0 1) p0) (nI 0 ≤ p1 ∧ p1 ≤ nI 2) (M 12 (ix p0) = 0)) = 0 then (zu M 11 (ix p0) (ix p1)) else M) O (nI ((x3 (zI (M 0 1) p0) (nI 0 ≤ p1 ∧ p1 ≤ nI 2) (M 12 (ix p0) = 0))))) (va_A (zw 19 bd (cM k bd M O th)) sz) (fun r => (x3 (zI (M 0 1) p0) (nI 0 ≤ p1 ∧ p1 ≤ nI 2) (M 12 (ix p0) = 0)) = 0 → r = (nI (M 11 (ix p0))))) 0 0 (va_A (zw 19 bd (cM k bd M O th)) sz) := by
  refine Met.ofW (cc := cX3_setGravity) (maxL := 5) (ret := (some .int)) (by decide) rfl ?_
  intro p e s m args below meth c s₁ B hml hv
  obtain ⟨rfl, hsz, ⟨hP, hK⟩, hD0⟩ := hv
  have hx := B.exec
  have hb := B.bytes
  have hr := B.returns
  have hts := atoms_spec (ws := wsX3_setGravity) B.pre
  have hown : s.vm.findClass RX3 = some m.cls := findClass_of_methodNamed B.named
  have hlocks := B.notSynchronized
  have F : CallFix p m c cX3_setGravity 5 s _ wsX3_setGravity RX3 := ⟨hx, hb, hml, hown, hts⟩
  subst hsz
  have hD := hD0.self (sz := s.heap.size)
  generalize hAe : va_A (zw 19 bd (cM k bd M O th)) s.heap.size = A at hD ⊢
  have hA : ∀ q : Nat, s.heap.size ≤ q → A q := fun q h => by rw [← hAe]; exact Or.inr h
  have hS : va_S A s.heap s.heap [] := va_S.rf
  have hl := lv_entry ([.ref (bd 0), .int p0, .int p1]) (n := 5) (Nat.le_of_ble_eq_true rfl)
  rw [lg_entry_eq]
  generalize (lg_sl ([.ref (bd 0), .int p0, .int p1]) ++ List.replicate (5 - (lg_sl ([.ref (bd 0), .int p0, .int p1])).length) Slot.unset).toArray = ls at hl ⊢
  have hl : lv_has ls 5 [(0, .ref (bd 0)), (1, .int p0), (2, .int p1)] := hl
  have hi3 : ∀ w ∈ u_ws RX3 TX3 21, w ∈ wsX3_setGravity := by decide +kernel
  obtain ⟨hI1, hI2, hI3, hI4, hI5, hI6, hI7⟩ := id hI
  refine lv_aload_n hx hb dX3_setGravity_0 rfl (lv_at hl 0 rfl) ?_
  refine lv_iload_n hx hb dX3_setGravity_1 rfl (lv_at hl 1 rfl) ?_
  refine z_cV (qc := (RX3, TX3, 21)) (As := [.int p0]) (rest := []) (0) F (c_X3_isCase l D k bd M O th hI2 p0) (cwV 1 hts gX3_setGravity_X3_isCase rfl rfl rfl (by decide +kernel) ⟨Nat.le_of_ble_eq_true rfl, Nat.le_of_ble_eq_true rfl⟩) hK hP (by omega) cM_0 rfl rfl hl.1 rfl (Nat.le_of_ble_eq_true rfl) dX3_setGravity_2 ⟨Nat.le_of_ble_eq_true rfl, Nat.le_of_ble_eq_true rfl⟩ (fun r hr => ?_)
  subst hr
  refine lv_istore_n (lv' := [(3, .int (bI (zI (M 0 1) p0))), (0, .ref (bd 0)), (1, .int p0), (2, .int p1)]) hx hb dX3_setGravity_5 rfl hl (by decide) rfl (fun ls hl => ?_)
  refine lv_aload_n hx hb dX3_setGravity_6 rfl (lv_at hl 1 rfl) ?_
  refine lv_iload_n hx hb dX3_setGravity_7 rfl (lv_at hl 0 rfl) ?_
  refine lv_iload_n hx hb dX3_setGravity_8 rfl (lv_at hl 3 rfl) ?_
  refine lv_iconst (v := nI 0) hx hb dX3_setGravity_9 (by decide) ?_
  refine lv_iconst (v := nI 2) hx hb dX3_setGravity_10 (by decide) ?_
  refine z_cS (As := [.int p1, .int (nI 0), .int (nI 2)]) (rest := [.int (bI (zI (M 0 1) p0)), .ref (bd 0)]) F (c_X3_in l p1 (nI 0) (nI 2)) (va_cwS 3 hts gX3_setGravity_X3_in rfl rfl rfl (by decide +kernel) ⟨Nat.le_of_ble_eq_true rfl, Nat.le_of_ble_eq_true rfl⟩) rfl hl.1 rfl (Nat.le_of_ble_eq_true rfl) dX3_setGravity_11 ⟨Nat.le_of_ble_eq_true rfl, Nat.le_of_ble_eq_true rfl⟩ (fun r hr => ?_)
  subst hr
  refine lv_iload_n hx hb dX3_setGravity_14 rfl (lv_at hl 0 rfl) ?_
  refine z_ifb_eq (tgt := 31) F dX3_setGravity_15 (by decide) (fun c7 => ?_) (fun c7 => ?_)
  · refine lv_iconst (v := nI 0) hx hb dX3_setGravity_31 (by decide) ?_
    refine z_top (show nI 0 = bI (zI (M 0 1) p0 ∧ M 12 (ix p0) = 0) from (bI_f (fun zz1 => by have zz2 := zz1.1; first | exact c7 zz2 | omega)).symm) ?_
    refine z_mV (qc := (RX3, TX3, 21)) (As := [.int (bI (zI (M 0 1) p0)), .int (bI (nI 0 ≤ p1 ∧ p1 ≤ nI 2)), .int (bI (zI (M 0 1) p0 ∧ M 12 (ix p0) = 0))]) (rest := []) (0) F (c_X3_asked__ l D k bd M O th _ (zI (M 0 1) p0) (nI 0 ≤ p1 ∧ p1 ≤ nI 2) (zI (M 0 1) p0 ∧ M 12 (ix p0) = 0)) (cwV 3 hts gX3_setGravity_X3_asked__ rfl rfl rfl (by decide +kernel) ⟨Nat.le_of_ble_eq_true rfl, Nat.le_of_ble_eq_true rfl⟩) hK hP hD hS hA (by omega) cM_0 rfl rfl hl.1 rfl (Nat.le_of_ble_eq_true rfl) dX3_setGravity_32 ⟨Nat.le_of_ble_eq_true rfl, Nat.le_of_ble_eq_true rfl⟩ (fun r H locs hr0 hP hD hS => ?_)
    subst hr0
    refine z_ifb_ne (tgt := 40) F dX3_setGravity_35 (by decide) (fun c8 => ?_) (fun c8 => ?_)
    · first | exact absurd c8.1 c7
    · refine lv_iconst (v := nI 0) hx hb dX3_setGravity_38 (by decide) ?_
      have hx0 : (x3 (zI (M 0 1) p0) (nI 0 ≤ p1 ∧ p1 ≤ nI 2) (M 12 (ix p0) = 0)) ≠ 0 := x3_no (fun zz1 => c8 ⟨zz1.1, zz1.2.1, zz1.1, zz1.2.2⟩)
      have eW : cM k bd (if (x3 (zI (M 0 1) p0) (nI 0 ≤ p1 ∧ p1 ≤ nI 2) (M 12 (ix p0) = 0)) = 0 then (zu M 11 (ix p0) (ix p1)) else M) O (nI ((x3 (zI (M 0 1) p0) (nI 0 ≤ p1 ∧ p1 ≤ nI 2) (M 12 (ix p0) = 0)))) = cM k bd M O (nI (x3 (zI (M 0 1) p0) (nI 0 ≤ p1 ∧ p1 ≤ nI 2) (zI (M 0 1) p0 ∧ M 12 (ix p0) = 0))) := by rw [if_neg hx0, ← x3_ac] <;> rfl
      rw [← eW] at hP hD
      refine W.widen (k := 0) (n := 0) (Nat.le_of_ble_eq_true rfl) (Nat.le_of_ble_eq_true rfl) ?_
      exact W.iret (v := nI 0) hx hb hr (fun t ht hW => ⟨⟨nI 0, (), rfl, fun zz1 => absurd zz1 hx0, ⟨by rw [ht]; exact hP, va_K.moved hW.alike hK⟩, hD⟩, hS.F ht⟩) hS.2.2 dX3_setGravity_39
  · obtain ⟨i, hi, rfl⟩ := id (c7)
    try rw [ix_nI (show i < 2 ^ 31 by omega)]
    have hz := hI5 i hi
    obtain ⟨hc1, hc2, hc3, hc4, hc5, hc6, hc7⟩ := id hz
    refine lv_aload_n hx hb dX3_setGravity_18 rfl (lv_at hl 1 rfl) ?_
    refine z_get (C := RX3) (T := TX3) (N := 21) (ci := 3) (fs := mObj bd M th) (v := .ref (bd 12)) F hK hP hi3 rfl (0) 12 (by omega) cM_0 (by decide) rfl (by decide +kernel) dX3_setGravity_19 ?_
    refine lv_iload_n hx hb dX3_setGravity_22 rfl (lv_at hl 2 rfl) ?_
    refine z_iald (v := nI (M 12 i)) (cA := k 0) (len := 40) (g := mA M O 12) F hK hP (12) 0 (by omega) rfl rfl (i := nI i) i rfl (by omega) (by decide) rfl dX3_setGravity_23 ?_
    refine z_ifn_ne (tgt := 31) F (by omega) dX3_setGravity_24 (by decide) (fun c9 => ?_) (fun c9 => ?_)
    · refine lv_iconst (v := nI 0) hx hb dX3_setGravity_31 (by decide) ?_
      refine z_top (show nI 0 = bI (zI (M 0 1) (nI i) ∧ M 12 (i) = 0) from (bI_f (fun zz1 => by have zz2 := zz1.2; first | exact c9 zz2 | omega)).symm) ?_
      refine z_mV (qc := (RX3, TX3, 21)) (As := [.int (bI (zI (M 0 1) (nI i))), .int (bI (nI 0 ≤ p1 ∧ p1 ≤ nI 2)), .int (bI (zI (M 0 1) (nI i) ∧ M 12 (i) = 0))]) (rest := []) (0) F (c_X3_asked__ l D k bd M O th _ (zI (M 0 1) (nI i)) (nI 0 ≤ p1 ∧ p1 ≤ nI 2) (zI (M 0 1) (nI i) ∧ M 12 (i) = 0)) (cwV 3 hts gX3_setGravity_X3_asked__ rfl rfl rfl (by decide +kernel) ⟨Nat.le_of_ble_eq_true rfl, Nat.le_of_ble_eq_true rfl⟩) hK hP hD hS hA (by omega) cM_0 rfl rfl hl.1 rfl (Nat.le_of_ble_eq_true rfl) dX3_setGravity_32 ⟨Nat.le_of_ble_eq_true rfl, Nat.le_of_ble_eq_true rfl⟩ (fun r H locs hr0 hP hD hS => ?_)
      subst hr0
      refine z_ifb_ne (tgt := 40) F dX3_setGravity_35 (by decide) (fun c10 => ?_) (fun c10 => ?_)
      · obtain ⟨g, hg0, hg, rfl⟩ := (zB_iff (by omega) (by decide)).mp (c10.2.1)
        try rw [ix_nI (show g < 2 ^ 31 by omega)]
        refine lv_aload_n hx hb dX3_setGravity_40 rfl (lv_at hl 1 rfl) ?_
        refine z_get (C := RX3) (T := TX3) (N := 21) (ci := 3) (fs := mObj bd M (nI (x3 (zI (M 0 1) (nI i)) (nI 0 ≤ (nI g) ∧ (nI g) ≤ nI 2) (zI (M 0 1) (nI i) ∧ M 12 (i) = 0)))) (v := .ref (bd 11)) F hK hP hi3 rfl (0) 11 (by omega) cM_0 (by decide) rfl (by decide +kernel) dX3_setGravity_41 ?_
        refine lv_iload_n hx hb dX3_setGravity_44 rfl (lv_at hl 2 rfl) ?_
        refine z_iald (v := nI (M 11 i)) (cA := k 0) (len := 40) (g := mA M O 11) F hK hP (11) 0 (by omega) rfl rfl (i := nI i) i rfl (by omega) (by decide) rfl dX3_setGravity_45 ?_
        refine lv_istore (lv' := [(4, .int (nI (M 11 i))), (3, .int (bI (zI (M 0 1) (nI i)))), (0, .ref (bd 0)), (1, .int (nI i)), (2, .int (nI g))]) hx hb dX3_setGravity_46 hl (by decide) rfl (fun ls hl => ?_)
        refine lv_aload_n hx hb dX3_setGravity_48 rfl (lv_at hl 2 rfl) ?_
        refine z_get (C := RX3) (T := TX3) (N := 21) (ci := 3) (fs := mObj bd M (nI (x3 (zI (M 0 1) (nI i)) (nI 0 ≤ (nI g) ∧ (nI g) ≤ nI 2) (zI (M 0 1) (nI i) ∧ M 12 (i) = 0)))) (v := .ref (bd 11)) F hK hP hi3 rfl (0) 11 (by omega) cM_0 (by decide) rfl (by decide +kernel) dX3_setGravity_49 ?_
        refine lv_iload_n hx hb dX3_setGravity_52 rfl (lv_at hl 3 rfl) ?_
        refine lv_iload_n hx hb dX3_setGravity_53 rfl (lv_at hl 4 rfl) ?_
        refine z_iast (f' := (cM k bd (zu M 11 i g) O (nI (x3 (zI (M 0 1) (nI i)) (nI 0 ≤ (nI g) ∧ (nI g) ≤ nI 2) (zI (M 0 1) (nI i) ∧ M 12 (i) = 0))))) (cA := k 0) (len := 40) (g := mA M O 11) F hK hP hD hS (11) 0 (by omega) rfl rfl (i := nI i) i rfl (by omega) (by decide) (cM_urow 11 (by decide) (by decide) (by decide) (by decide) (by decide) _ _) dX3_setGravity_54 (fun H locs hP hD hS => ?_)
        refine lv_iload hx hb dX3_setGravity_55 (lv_at hl 0 rfl) ?_
        have hx0 : (x3 (zI (M 0 1) (nI i)) (nI 0 ≤ (nI g) ∧ (nI g) ≤ nI 2) (M 12 (i) = 0)) = 0 := x3_0 c10.1 c10.2.1 c10.2.2.2
        have eW : cM k bd (if (x3 (zI (M 0 1) (nI i)) (nI 0 ≤ (nI g) ∧ (nI g) ≤ nI 2) (M 12 (i) = 0)) = 0 then (zu M 11 (i) (g)) else M) O (nI ((x3 (zI (M 0 1) (nI i)) (nI 0 ≤ (nI g) ∧ (nI g) ≤ nI 2) (M 12 (i) = 0)))) = cM k bd (zu M 11 i g) O (nI (x3 (zI (M 0 1) (nI i)) (nI 0 ≤ (nI g) ∧ (nI g) ≤ nI 2) (zI (M 0 1) (nI i) ∧ M 12 (i) = 0))) := by rw [if_pos hx0, ← x3_ac] <;> rfl
        rw [← eW] at hP hD
        refine W.widen (k := 0) (n := 0) (Nat.le_of_ble_eq_true rfl) (Nat.le_of_ble_eq_true rfl) ?_
        exact W.iret (v := nI (M 11 i)) hx hb hr (fun t ht hW => ⟨⟨nI (M 11 i), (), rfl, fun _ => rfl, ⟨by rw [ht]; exact hP, va_K.moved hW.alike hK⟩, hD⟩, hS.F ht⟩) hS.2.2 dX3_setGravity_57
      · refine lv_iconst (v := nI 0) hx hb dX3_setGravity_38 (by decide) ?_
        have hx0 : (x3 (zI (M 0 1) (nI i)) (nI 0 ≤ p1 ∧ p1 ≤ nI 2) (M 12 (i) = 0)) ≠ 0 := x3_no (fun zz1 => c10 ⟨zz1.1, zz1.2.1, zz1.1, zz1.2.2⟩)
        have eW : cM k bd (if (x3 (zI (M 0 1) (nI i)) (nI 0 ≤ p1 ∧ p1 ≤ nI 2) (M 12 (i) = 0)) = 0 then (zu M 11 (i) (ix p1)) else M) O (nI ((x3 (zI (M 0 1) (nI i)) (nI 0 ≤ p1 ∧ p1 ≤ nI 2) (M 12 (i) = 0)))) = cM k bd M O (nI (x3 (zI (M 0 1) (nI i)) (nI 0 ≤ p1 ∧ p1 ≤ nI 2) (zI (M 0 1) (nI i) ∧ M 12 (i) = 0))) := by rw [if_neg hx0, ← x3_ac] <;> rfl
        rw [← eW] at hP hD
        refine W.widen (k := 0) (n := 0) (Nat.le_of_ble_eq_true rfl) (Nat.le_of_ble_eq_true rfl) ?_
        exact W.iret (v := nI 0) hx hb hr (fun t ht hW => ⟨⟨nI 0, (), rfl, fun zz1 => absurd zz1 hx0, ⟨by rw [ht]; exact hP, va_K.moved hW.alike hK⟩, hD⟩, hS.F ht⟩) hS.2.2 dX3_setGravity_39
    · refine lv_iconst (v := nI 1) hx hb dX3_setGravity_27 (by decide) ?_
      refine lv_goto (tgt := 32) hx hb dX3_setGravity_28 (by decide) ?_
      refine z_top (show nI 1 = bI (zI (M 0 1) (nI i) ∧ M 12 (i) = 0) from (bI_t ⟨c7, c9⟩).symm) ?_
      refine z_mV (qc := (RX3, TX3, 21)) (As := [.int (bI (zI (M 0 1) (nI i))), .int (bI (nI 0 ≤ p1 ∧ p1 ≤ nI 2)), .int (bI (zI (M 0 1) (nI i) ∧ M 12 (i) = 0))]) (rest := []) (0) F (c_X3_asked__ l D k bd M O th _ (zI (M 0 1) (nI i)) (nI 0 ≤ p1 ∧ p1 ≤ nI 2) (zI (M 0 1) (nI i) ∧ M 12 (i) = 0)) (cwV 3 hts gX3_setGravity_X3_asked__ rfl rfl rfl (by decide +kernel) ⟨Nat.le_of_ble_eq_true rfl, Nat.le_of_ble_eq_true rfl⟩) hK hP hD hS hA (by omega) cM_0 rfl rfl hl.1 rfl (Nat.le_of_ble_eq_true rfl) dX3_setGravity_32 ⟨Nat.le_of_ble_eq_true rfl, Nat.le_of_ble_eq_true rfl⟩ (fun r H locs hr0 hP hD hS => ?_)
      subst hr0
      refine z_ifb_ne (tgt := 40) F dX3_setGravity_35 (by decide) (fun c11 => ?_) (fun c11 => ?_)
      · obtain ⟨g, hg0, hg, rfl⟩ := (zB_iff (by omega) (by decide)).mp (c11.2.1)
        try rw [ix_nI (show g < 2 ^ 31 by omega)]
        refine lv_aload_n hx hb dX3_setGravity_40 rfl (lv_at hl 1 rfl) ?_
        refine z_get (C := RX3) (T := TX3) (N := 21) (ci := 3) (fs := mObj bd M (nI (x3 (zI (M 0 1) (nI i)) (nI 0 ≤ (nI g) ∧ (nI g) ≤ nI 2) (zI (M 0 1) (nI i) ∧ M 12 (i) = 0)))) (v := .ref (bd 11)) F hK hP hi3 rfl (0) 11 (by omega) cM_0 (by decide) rfl (by decide +kernel) dX3_setGravity_41 ?_
        refine lv_iload_n hx hb dX3_setGravity_44 rfl (lv_at hl 2 rfl) ?_
        refine z_iald (v := nI (M 11 i)) (cA := k 0) (len := 40) (g := mA M O 11) F hK hP (11) 0 (by omega) rfl rfl (i := nI i) i rfl (by omega) (by decide) rfl dX3_setGravity_45 ?_
        refine lv_istore (lv' := [(4, .int (nI (M 11 i))), (3, .int (bI (zI (M 0 1) (nI i)))), (0, .ref (bd 0)), (1, .int (nI i)), (2, .int (nI g))]) hx hb dX3_setGravity_46 hl (by decide) rfl (fun ls hl => ?_)
        refine lv_aload_n hx hb dX3_setGravity_48 rfl (lv_at hl 2 rfl) ?_
        refine z_get (C := RX3) (T := TX3) (N := 21) (ci := 3) (fs := mObj bd M (nI (x3 (zI (M 0 1) (nI i)) (nI 0 ≤ (nI g) ∧ (nI g) ≤ nI 2) (zI (M 0 1) (nI i) ∧ M 12 (i) = 0)))) (v := .ref (bd 11)) F hK hP hi3 rfl (0) 11 (by omega) cM_0 (by decide) rfl (by decide +kernel) dX3_setGravity_49 ?_
        refine lv_iload_n hx hb dX3_setGravity_52 rfl (lv_at hl 3 rfl) ?_
        refine lv_iload_n hx hb dX3_setGravity_53 rfl (lv_at hl 4 rfl) ?_
        refine z_iast (f' := (cM k bd (zu M 11 i g) O (nI (x3 (zI (M 0 1) (nI i)) (nI 0 ≤ (nI g) ∧ (nI g) ≤ nI 2) (zI (M 0 1) (nI i) ∧ M 12 (i) = 0))))) (cA := k 0) (len := 40) (g := mA M O 11) F hK hP hD hS (11) 0 (by omega) rfl rfl (i := nI i) i rfl (by omega) (by decide) (cM_urow 11 (by decide) (by decide) (by decide) (by decide) (by decide) _ _) dX3_setGravity_54 (fun H locs hP hD hS => ?_)
        refine lv_iload hx hb dX3_setGravity_55 (lv_at hl 0 rfl) ?_
        have hx0 : (x3 (zI (M 0 1) (nI i)) (nI 0 ≤ (nI g) ∧ (nI g) ≤ nI 2) (M 12 (i) = 0)) = 0 := x3_0 c11.1 c11.2.1 c11.2.2.2
        have eW : cM k bd (if (x3 (zI (M 0 1) (nI i)) (nI 0 ≤ (nI g) ∧ (nI g) ≤ nI 2) (M 12 (i) = 0)) = 0 then (zu M 11 (i) (g)) else M) O (nI ((x3 (zI (M 0 1) (nI i)) (nI 0 ≤ (nI g) ∧ (nI g) ≤ nI 2) (M 12 (i) = 0)))) = cM k bd (zu M 11 i g) O (nI (x3 (zI (M 0 1) (nI i)) (nI 0 ≤ (nI g) ∧ (nI g) ≤ nI 2) (zI (M 0 1) (nI i) ∧ M 12 (i) = 0))) := by rw [if_pos hx0, ← x3_ac] <;> rfl
        rw [← eW] at hP hD
        refine W.widen (k := 0) (n := 0) (Nat.le_of_ble_eq_true rfl) (Nat.le_of_ble_eq_true rfl) ?_
        exact W.iret (v := nI (M 11 i)) hx hb hr (fun t ht hW => ⟨⟨nI (M 11 i), (), rfl, fun _ => rfl, ⟨by rw [ht]; exact hP, va_K.moved hW.alike hK⟩, hD⟩, hS.F ht⟩) hS.2.2 dX3_setGravity_57
      · refine lv_iconst (v := nI 0) hx hb dX3_setGravity_38 (by decide) ?_
        have hx0 : (x3 (zI (M 0 1) (nI i)) (nI 0 ≤ p1 ∧ p1 ≤ nI 2) (M 12 (i) = 0)) ≠ 0 := x3_no (fun zz1 => c11 ⟨zz1.1, zz1.2.1, zz1.1, zz1.2.2⟩)
        have eW : cM k bd (if (x3 (zI (M 0 1) (nI i)) (nI 0 ≤ p1 ∧ p1 ≤ nI 2) (M 12 (i) = 0)) = 0 then (zu M 11 (i) (ix p1)) else M) O (nI ((x3 (zI (M 0 1) (nI i)) (nI 0 ≤ p1 ∧ p1 ≤ nI 2) (M 12 (i) = 0)))) = cM k bd M O (nI (x3 (zI (M 0 1) (nI i)) (nI 0 ≤ p1 ∧ p1 ≤ nI 2) (zI (M 0 1) (nI i) ∧ M 12 (i) = 0))) := by rw [if_neg hx0, ← x3_ac] <;> rfl
        rw [← eW] at hP hD
        refine W.widen (k := 0) (n := 0) (Nat.le_of_ble_eq_true rfl) (Nat.le_of_ble_eq_true rfl) ?_
        exact W.iret (v := nI 0) hx hb hr (fun t ht hW => ⟨⟨nI 0, (), rfl, fun zz1 => absurd zz1 hx0, ⟨by rw [ht]; exact hP, va_K.moved hW.alike hK⟩, hD⟩, hS.F ht⟩) hS.2.2 dX3_setGravity_39
set_option maxRecDepth 100000 in
set_option maxHeartbeats 1000000 in
theorem c_X3_openAnew (l : Launch) (D : va_G) (k : Nat → ClassId) (bd : Nat → Nat) (M : Nat → Nat → Nat) (O : Nat → Nat → Int32) (th : Int32) (sz : Nat) (hI : zInv M) (p0 : Int32) : Met l yX3_openAnew wsX3_openAnew ({ frames := 2, cells := 0, slots := 0, locals := 43 }) (va_Pc [.ref (bd 0), .int p0] (zG D k 19 bd (cM k bd M O th) sz)) (zQw D k 19 bd (cM k bd (if (x3 (zI (M 0 1) p0) (True) (M 12 (ix p0) = 2)) = 0 then (zu (zu (zu M 12 (ix p0) 0) 14 (ix p0) 0) 16 (ix p0) (min (M 16 (ix p0)) 2)) else M) O (nI ((kq (x3 (zI (M 0 1) p0) (True) (M 12 (ix p0) = 2)))))) (va_A (zw 19 bd (cM k bd M O th)) sz) (fun r => (x3 (zI (M 0 1) p0) (True) (M 12 (ix p0) = 2)) = 0 → r = (nI (M 15 (3 * ix p0 + 2))))) 0 0 (va_A (zw 19 bd (cM k bd M O th)) sz) := by
  refine Met.ofW (cc := cX3_openAnew) (maxL := 3) (ret := (some .int)) (by decide) rfl ?_
  intro p e s m args below meth c s₁ B hml hv
  obtain ⟨rfl, hsz, ⟨hP, hK⟩, hD0⟩ := hv
  have hx := B.exec
  have hb := B.bytes
  have hr := B.returns
  have hts := atoms_spec (ws := wsX3_openAnew) B.pre
  have hown : s.vm.findClass RX3 = some m.cls := findClass_of_methodNamed B.named
  have hlocks := B.notSynchronized
  have F : CallFix p m c cX3_openAnew 3 s _ wsX3_openAnew RX3 := ⟨hx, hb, hml, hown, hts⟩
  subst hsz
  have hD := hD0.self (sz := s.heap.size)
  generalize hAe : va_A (zw 19 bd (cM k bd M O th)) s.heap.size = A at hD ⊢
  have hA : ∀ q : Nat, s.heap.size ≤ q → A q := fun q h => by rw [← hAe]; exact Or.inr h
  have hS : va_S A s.heap s.heap [] := va_S.rf
  have hl := lv_entry ([.ref (bd 0), .int p0]) (n := 3) (Nat.le_of_ble_eq_true rfl)
  rw [lg_entry_eq]
  generalize (lg_sl ([.ref (bd 0), .int p0]) ++ List.replicate (3 - (lg_sl ([.ref (bd 0), .int p0])).length) Slot.unset).toArray = ls at hl ⊢
  have hl : lv_has ls 3 [(0, .ref (bd 0)), (1, .int p0)] := hl
  have hi3 : ∀ w ∈ u_ws RX3 TX3 21, w ∈ wsX3_openAnew := by decide +kernel
  obtain ⟨hI1, hI2, hI3, hI4, hI5, hI6, hI7⟩ := id hI
  refine lv_aload_n hx hb dX3_openAnew_0 rfl (lv_at hl 0 rfl) ?_
  refine lv_iload_n hx hb dX3_openAnew_1 rfl (lv_at hl 1 rfl) ?_
  refine z_cV (qc := (RX3, TX3, 21)) (As := [.int p0]) (rest := []) (0) F (c_X3_isCase l D k bd M O th hI2 p0) (cwV 1 hts gX3_openAnew_X3_isCase rfl rfl rfl (by decide +kernel) ⟨Nat.le_of_ble_eq_true rfl, Nat.le_of_ble_eq_true rfl⟩) hK hP (by omega) cM_0 rfl rfl hl.1 rfl (Nat.le_of_ble_eq_true rfl) dX3_openAnew_2 ⟨Nat.le_of_ble_eq_true rfl, Nat.le_of_ble_eq_true rfl⟩ (fun r hr => ?_)
  subst hr
  refine lv_istore_n (lv' := [(2, .int (bI (zI (M 0 1) p0))), (0, .ref (bd 0)), (1, .int p0)]) hx hb dX3_openAnew_5 rfl hl (by decide) rfl (fun ls hl => ?_)
  refine lv_aload_n hx hb dX3_openAnew_6 rfl (lv_at hl 1 rfl) ?_
  refine lv_iload_n hx hb dX3_openAnew_7 rfl (lv_at hl 0 rfl) ?_
  refine lv_iload_n hx hb dX3_openAnew_8 rfl (lv_at hl 0 rfl) ?_
  refine z_ifb_eq (tgt := 26) F dX3_openAnew_9 (by decide) (fun c12 => ?_) (fun c12 => ?_)
  · refine lv_iconst (v := nI 0) hx hb dX3_openAnew_26 (by decide) ?_
    refine z_top (show nI 0 = bI (zI (M 0 1) p0 ∧ M 12 (ix p0) = 2) from (bI_f (fun zz1 => by have zz2 := zz1.1; first | exact c12 zz2 | omega)).symm) ?_
    refine z_mV (qc := (RX3, TX3, 21)) (As := [.int (bI (zI (M 0 1) p0)), .int (bI (zI (M 0 1) p0 ∧ M 12 (ix p0) = 2))]) (rest := []) (0) F (c_X3_asked_ l D k bd M O th _ (zI (M 0 1) p0) (zI (M 0 1) p0 ∧ M 12 (ix p0) = 2)) (cwV 2 hts gX3_openAnew_X3_asked_ rfl rfl rfl (by decide +kernel) ⟨Nat.le_of_ble_eq_true rfl, Nat.le_of_ble_eq_true rfl⟩) hK hP hD hS hA (by omega) cM_0 rfl rfl hl.1 rfl (Nat.le_of_ble_eq_true rfl) dX3_openAnew_27 ⟨Nat.le_of_ble_eq_true rfl, Nat.le_of_ble_eq_true rfl⟩ (fun r H locs hr0 hP hD hS => ?_)
    subst hr0
    refine z_ifb_ne (tgt := 35) F dX3_openAnew_30 (by decide) (fun c13 => ?_) (fun c13 => ?_)
    · first | exact absurd c13.1 c12
    · refine lv_iconst (v := nI 0) hx hb dX3_openAnew_33 (by decide) ?_
      have hx0 : (x3 (zI (M 0 1) p0) (True) (M 12 (ix p0) = 2)) ≠ 0 := x3_no (fun zz1 => c13 ⟨zz1.1, zz1.1, zz1.2.2⟩)
      have eW : cM k bd (if (x3 (zI (M 0 1) p0) (True) (M 12 (ix p0) = 2)) = 0 then (zu (zu (zu M 12 (ix p0) 0) 14 (ix p0) 0) 16 (ix p0) (min (M 16 (ix p0)) 2)) else M) O (nI ((kq (x3 (zI (M 0 1) p0) (True) (M 12 (ix p0) = 2))))) = cM k bd M O (nI (y2 (zI (M 0 1) p0) (zI (M 0 1) p0 ∧ M 12 (ix p0) = 2))) := by rw [if_neg hx0, ← y2_ac] <;> rfl
      rw [← eW] at hP hD
      refine W.widen (k := 0) (n := 0) (Nat.le_of_ble_eq_true rfl) (Nat.le_of_ble_eq_true rfl) ?_
      exact W.iret (v := nI 0) hx hb hr (fun t ht hW => ⟨⟨nI 0, (), rfl, fun zz1 => absurd zz1 hx0, ⟨by rw [ht]; exact hP, va_K.moved hW.alike hK⟩, hD⟩, hS.F ht⟩) hS.2.2 dX3_openAnew_34
  · obtain ⟨i, hi, rfl⟩ := id (c12)
    try rw [ix_nI (show i < 2 ^ 31 by omega)]
    have hz := hI5 i hi
    obtain ⟨hc1, hc2, hc3, hc4, hc5, hc6, hc7⟩ := id hz
    refine lv_aload_n hx hb dX3_openAnew_12 rfl (lv_at hl 1 rfl) ?_
    refine z_get (C := RX3) (T := TX3) (N := 21) (ci := 3) (fs := mObj bd M th) (v := .ref (bd 12)) F hK hP hi3 rfl (0) 12 (by omega) cM_0 (by decide) rfl (by decide +kernel) dX3_openAnew_13 ?_
    refine lv_iload_n hx hb dX3_openAnew_16 rfl (lv_at hl 2 rfl) ?_
    refine z_iald (v := nI (M 12 i)) (cA := k 0) (len := 40) (g := mA M O 12) F hK hP (12) 0 (by omega) rfl rfl (i := nI i) i rfl (by omega) (by decide) rfl dX3_openAnew_17 ?_
    refine lv_iconst (v := nI 2) hx hb dX3_openAnew_18 (by decide) ?_
    refine z_icmp_ne (tgt := 26) F (by omega) (by omega) dX3_openAnew_19 (by decide) (fun c14 => ?_) (fun c14 => ?_)
    · refine lv_iconst (v := nI 0) hx hb dX3_openAnew_26 (by decide) ?_
      refine z_top (show nI 0 = bI (zI (M 0 1) (nI i) ∧ M 12 (i) = 2) from (bI_f (fun zz1 => by have zz2 := zz1.2; first | exact c14 zz2 | omega)).symm) ?_
      refine z_mV (qc := (RX3, TX3, 21)) (As := [.int (bI (zI (M 0 1) (nI i))), .int (bI (zI (M 0 1) (nI i) ∧ M 12 (i) = 2))]) (rest := []) (0) F (c_X3_asked_ l D k bd M O th _ (zI (M 0 1) (nI i)) (zI (M 0 1) (nI i) ∧ M 12 (i) = 2)) (cwV 2 hts gX3_openAnew_X3_asked_ rfl rfl rfl (by decide +kernel) ⟨Nat.le_of_ble_eq_true rfl, Nat.le_of_ble_eq_true rfl⟩) hK hP hD hS hA (by omega) cM_0 rfl rfl hl.1 rfl (Nat.le_of_ble_eq_true rfl) dX3_openAnew_27 ⟨Nat.le_of_ble_eq_true rfl, Nat.le_of_ble_eq_true rfl⟩ (fun r H locs hr0 hP hD hS => ?_)
      subst hr0
      refine z_ifb_ne (tgt := 35) F dX3_openAnew_30 (by decide) (fun c15 => ?_) (fun c15 => ?_)
      · refine lv_aload_n hx hb dX3_openAnew_35 rfl (lv_at hl 1 rfl) ?_
        refine z_get (C := RX3) (T := TX3) (N := 21) (ci := 3) (fs := mObj bd M (nI (y2 (zI (M 0 1) (nI i)) (zI (M 0 1) (nI i) ∧ M 12 (i) = 2)))) (v := .ref (bd 12)) F hK hP hi3 rfl (0) 12 (by omega) cM_0 (by decide) rfl (by decide +kernel) dX3_openAnew_36 ?_
        refine lv_iload_n hx hb dX3_openAnew_39 rfl (lv_at hl 2 rfl) ?_
        refine lv_iconst (v := nI 0) hx hb dX3_openAnew_40 (by decide) ?_
        refine z_iast (f' := (cM k bd (zu M 12 i 0) O (nI (y2 (zI (M 0 1) (nI i)) (zI (M 0 1) (nI i) ∧ M 12 (i) = 2))))) (cA := k 0) (len := 40) (g := mA M O 12) F hK hP hD hS (12) 0 (by omega) rfl rfl (i := nI i) i rfl (by omega) (by decide) (cM_urow 12 (by decide) (by decide) (by decide) (by decide) (by decide) _ _) dX3_openAnew_41 (fun H locs hP hD hS => ?_)
        refine lv_aload_n hx hb dX3_openAnew_42 rfl (lv_at hl 1 rfl) ?_
        refine z_get (C := RX3) (T := TX3) (N := 21) (ci := 3) (fs := mObj bd (zu M 12 i 0) (nI (y2 (zI (M 0 1) (nI i)) (zI (M 0 1) (nI i) ∧ M 12 (i) = 2)))) (v := .ref (bd 14)) F hK hP hi3 rfl (0) 14 (by omega) cM_0 (by decide) rfl (by decide +kernel) dX3_openAnew_43 ?_
        refine lv_iload_n hx hb dX3_openAnew_46 rfl (lv_at hl 2 rfl) ?_
        refine lv_iconst (v := nI 0) hx hb dX3_openAnew_47 (by decide) ?_
        refine z_zast (f' := (cM k bd (zu (zu M 12 i 0) 14 i 0) O (nI (y2 (zI (M 0 1) (nI i)) (zI (M 0 1) (nI i) ∧ M 12 (i) = 2))))) (cA := k 1) (len := 40) (g := mA (zu M 12 i 0) O 14) F hK hP hD hS (14) 1 (by omega) rfl rfl (i := nI i) i rfl (by omega) (by decide) rfl (cM_urow 14 (by decide) (by decide) (by decide) (by decide) (by decide) _ _) dX3_openAnew_48 (fun H locs hP hD hS => ?_)
        refine lv_aload_n hx hb dX3_openAnew_49 rfl (lv_at hl 1 rfl) ?_
        refine z_get (C := RX3) (T := TX3) (N := 21) (ci := 3) (fs := mObj bd (zu (zu M 12 i 0) 14 i 0) (nI (y2 (zI (M 0 1) (nI i)) (zI (M 0 1) (nI i) ∧ M 12 (i) = 2)))) (v := .ref (bd 16)) F hK hP hi3 rfl (0) 16 (by omega) cM_0 (by decide) rfl (by decide +kernel) dX3_openAnew_50 ?_
        refine lv_iconst (v := nI 3) hx hb dX3_openAnew_53 (by decide) ?_
        refine lv_iload_n hx hb dX3_openAnew_54 rfl (lv_at hl 2 rfl) ?_
        refine z_mul F dX3_openAnew_55 ?_
        refine lv_iconst (v := nI 2) hx hb dX3_openAnew_56 (by decide) ?_
        refine z_add F dX3_openAnew_57 ?_
        refine lv_iconst (v := nI 0) hx hb dX3_openAnew_58 (by decide) ?_
        refine z_zast (f' := (cM k bd (zu (zu (zu M 12 i 0) 14 i 0) 16 i (min (M 16 i) 2)) O (nI (y2 (zI (M 0 1) (nI i)) (zI (M 0 1) (nI i) ∧ M 12 (i) = 2))))) (cA := k 1) (len := 120) (g := mA (zu (zu M 12 i 0) 14 i 0) O 16) F hK hP hD hS (16) 1 (by omega) rfl rfl (i := nI ((3 * i) + 2)) ((3 * i) + 2) rfl (by omega) (by decide) rfl (cM_urch i 2 (min (M 16 i) 2) 0 (by omega) (by intro j hj; show (j < min (M 16 i) 2 ↔ if j = 2 then (0 : Nat) = 1 else j < M 16 i); by_cases zz1 : j = 2; (rw [if_pos zz1]; omega); (rw [if_neg zz1]; omega)) (by decide)) dX3_openAnew_59 (fun H locs hP hD hS => ?_)
        refine lv_aload_n hx hb dX3_openAnew_60 rfl (lv_at hl 1 rfl) ?_
        refine z_get (C := RX3) (T := TX3) (N := 21) (ci := 3) (fs := mObj bd (zu (zu (zu M 12 i 0) 14 i 0) 16 i (min (M 16 i) 2)) (nI (y2 (zI (M 0 1) (nI i)) (zI (M 0 1) (nI i) ∧ M 12 (i) = 2)))) (v := .ref (bd 15)) F hK hP hi3 rfl (0) 15 (by omega) cM_0 (by decide) rfl (by decide +kernel) dX3_openAnew_61 ?_
        refine lv_iconst (v := nI 3) hx hb dX3_openAnew_64 (by decide) ?_
        refine lv_iload_n hx hb dX3_openAnew_65 rfl (lv_at hl 2 rfl) ?_
        refine z_mul F dX3_openAnew_66 ?_
        refine lv_iconst (v := nI 2) hx hb dX3_openAnew_67 (by decide) ?_
        refine z_add F dX3_openAnew_68 ?_
        refine z_iald (v := nI (M 15 ((3 * i) + 2))) (cA := k 0) (len := 120) (g := mA (zu (zu (zu M 12 i 0) 14 i 0) 16 i (min (M 16 i) 2)) O 15) F hK hP (15) 0 (by omega) rfl rfl (i := nI ((3 * i) + 2)) ((3 * i) + 2) rfl (by omega) (by decide) (by first | rfl | (show nI _ = nI _; simp [zu])) dX3_openAnew_69 ?_
        have hx0 : (x3 (zI (M 0 1) (nI i)) (True) (M 12 (i) = 2)) = 0 := x3_0 c15.1 trivial c15.2.2
        have eW : cM k bd (if (x3 (zI (M 0 1) (nI i)) (True) (M 12 (i) = 2)) = 0 then (zu (zu (zu M 12 (i) 0) 14 (i) 0) 16 (i) (min (M 16 (i)) 2)) else M) O (nI ((kq (x3 (zI (M 0 1) (nI i)) (True) (M 12 (i) = 2))))) = cM k bd (zu (zu (zu M 12 i 0) 14 i 0) 16 i (min (M 16 i) 2)) O (nI (y2 (zI (M 0 1) (nI i)) (zI (M 0 1) (nI i) ∧ M 12 (i) = 2))) := by rw [if_pos hx0, ← y2_ac] <;> rfl
        rw [← eW] at hP hD
        refine W.widen (k := 0) (n := 0) (Nat.le_of_ble_eq_true rfl) (Nat.le_of_ble_eq_true rfl) ?_
        exact W.iret (v := nI (M 15 ((3 * i) + 2))) hx hb hr (fun t ht hW => ⟨⟨nI (M 15 ((3 * i) + 2)), (), rfl, fun _ => rfl, ⟨by rw [ht]; exact hP, va_K.moved hW.alike hK⟩, hD⟩, hS.F ht⟩) hS.2.2 dX3_openAnew_70
      · refine lv_iconst (v := nI 0) hx hb dX3_openAnew_33 (by decide) ?_
        have hx0 : (x3 (zI (M 0 1) (nI i)) (True) (M 12 (i) = 2)) ≠ 0 := x3_no (fun zz1 => c15 ⟨zz1.1, zz1.1, zz1.2.2⟩)
        have eW : cM k bd (if (x3 (zI (M 0 1) (nI i)) (True) (M 12 (i) = 2)) = 0 then (zu (zu (zu M 12 (i) 0) 14 (i) 0) 16 (i) (min (M 16 (i)) 2)) else M) O (nI ((kq (x3 (zI (M 0 1) (nI i)) (True) (M 12 (i) = 2))))) = cM k bd M O (nI (y2 (zI (M 0 1) (nI i)) (zI (M 0 1) (nI i) ∧ M 12 (i) = 2))) := by rw [if_neg hx0, ← y2_ac] <;> rfl
        rw [← eW] at hP hD
        refine W.widen (k := 0) (n := 0) (Nat.le_of_ble_eq_true rfl) (Nat.le_of_ble_eq_true rfl) ?_
        exact W.iret (v := nI 0) hx hb hr (fun t ht hW => ⟨⟨nI 0, (), rfl, fun zz1 => absurd zz1 hx0, ⟨by rw [ht]; exact hP, va_K.moved hW.alike hK⟩, hD⟩, hS.F ht⟩) hS.2.2 dX3_openAnew_34
    · refine lv_iconst (v := nI 1) hx hb dX3_openAnew_22 (by decide) ?_
      refine lv_goto (tgt := 27) hx hb dX3_openAnew_23 (by decide) ?_
      refine z_top (show nI 1 = bI (zI (M 0 1) (nI i) ∧ M 12 (i) = 2) from (bI_t ⟨c12, c14⟩).symm) ?_
      refine z_mV (qc := (RX3, TX3, 21)) (As := [.int (bI (zI (M 0 1) (nI i))), .int (bI (zI (M 0 1) (nI i) ∧ M 12 (i) = 2))]) (rest := []) (0) F (c_X3_asked_ l D k bd M O th _ (zI (M 0 1) (nI i)) (zI (M 0 1) (nI i) ∧ M 12 (i) = 2)) (cwV 2 hts gX3_openAnew_X3_asked_ rfl rfl rfl (by decide +kernel) ⟨Nat.le_of_ble_eq_true rfl, Nat.le_of_ble_eq_true rfl⟩) hK hP hD hS hA (by omega) cM_0 rfl rfl hl.1 rfl (Nat.le_of_ble_eq_true rfl) dX3_openAnew_27 ⟨Nat.le_of_ble_eq_true rfl, Nat.le_of_ble_eq_true rfl⟩ (fun r H locs hr0 hP hD hS => ?_)
      subst hr0
      refine z_ifb_ne (tgt := 35) F dX3_openAnew_30 (by decide) (fun c16 => ?_) (fun c16 => ?_)
      · refine lv_aload_n hx hb dX3_openAnew_35 rfl (lv_at hl 1 rfl) ?_
        refine z_get (C := RX3) (T := TX3) (N := 21) (ci := 3) (fs := mObj bd M (nI (y2 (zI (M 0 1) (nI i)) (zI (M 0 1) (nI i) ∧ M 12 (i) = 2)))) (v := .ref (bd 12)) F hK hP hi3 rfl (0) 12 (by omega) cM_0 (by decide) rfl (by decide +kernel) dX3_openAnew_36 ?_
        refine lv_iload_n hx hb dX3_openAnew_39 rfl (lv_at hl 2 rfl) ?_
        refine lv_iconst (v := nI 0) hx hb dX3_openAnew_40 (by decide) ?_
        refine z_iast (f' := (cM k bd (zu M 12 i 0) O (nI (y2 (zI (M 0 1) (nI i)) (zI (M 0 1) (nI i) ∧ M 12 (i) = 2))))) (cA := k 0) (len := 40) (g := mA M O 12) F hK hP hD hS (12) 0 (by omega) rfl rfl (i := nI i) i rfl (by omega) (by decide) (cM_urow 12 (by decide) (by decide) (by decide) (by decide) (by decide) _ _) dX3_openAnew_41 (fun H locs hP hD hS => ?_)
        refine lv_aload_n hx hb dX3_openAnew_42 rfl (lv_at hl 1 rfl) ?_
        refine z_get (C := RX3) (T := TX3) (N := 21) (ci := 3) (fs := mObj bd (zu M 12 i 0) (nI (y2 (zI (M 0 1) (nI i)) (zI (M 0 1) (nI i) ∧ M 12 (i) = 2)))) (v := .ref (bd 14)) F hK hP hi3 rfl (0) 14 (by omega) cM_0 (by decide) rfl (by decide +kernel) dX3_openAnew_43 ?_
        refine lv_iload_n hx hb dX3_openAnew_46 rfl (lv_at hl 2 rfl) ?_
        refine lv_iconst (v := nI 0) hx hb dX3_openAnew_47 (by decide) ?_
        refine z_zast (f' := (cM k bd (zu (zu M 12 i 0) 14 i 0) O (nI (y2 (zI (M 0 1) (nI i)) (zI (M 0 1) (nI i) ∧ M 12 (i) = 2))))) (cA := k 1) (len := 40) (g := mA (zu M 12 i 0) O 14) F hK hP hD hS (14) 1 (by omega) rfl rfl (i := nI i) i rfl (by omega) (by decide) rfl (cM_urow 14 (by decide) (by decide) (by decide) (by decide) (by decide) _ _) dX3_openAnew_48 (fun H locs hP hD hS => ?_)
        refine lv_aload_n hx hb dX3_openAnew_49 rfl (lv_at hl 1 rfl) ?_
        refine z_get (C := RX3) (T := TX3) (N := 21) (ci := 3) (fs := mObj bd (zu (zu M 12 i 0) 14 i 0) (nI (y2 (zI (M 0 1) (nI i)) (zI (M 0 1) (nI i) ∧ M 12 (i) = 2)))) (v := .ref (bd 16)) F hK hP hi3 rfl (0) 16 (by omega) cM_0 (by decide) rfl (by decide +kernel) dX3_openAnew_50 ?_
        refine lv_iconst (v := nI 3) hx hb dX3_openAnew_53 (by decide) ?_
        refine lv_iload_n hx hb dX3_openAnew_54 rfl (lv_at hl 2 rfl) ?_
        refine z_mul F dX3_openAnew_55 ?_
        refine lv_iconst (v := nI 2) hx hb dX3_openAnew_56 (by decide) ?_
        refine z_add F dX3_openAnew_57 ?_
        refine lv_iconst (v := nI 0) hx hb dX3_openAnew_58 (by decide) ?_
        refine z_zast (f' := (cM k bd (zu (zu (zu M 12 i 0) 14 i 0) 16 i (min (M 16 i) 2)) O (nI (y2 (zI (M 0 1) (nI i)) (zI (M 0 1) (nI i) ∧ M 12 (i) = 2))))) (cA := k 1) (len := 120) (g := mA (zu (zu M 12 i 0) 14 i 0) O 16) F hK hP hD hS (16) 1 (by omega) rfl rfl (i := nI ((3 * i) + 2)) ((3 * i) + 2) rfl (by omega) (by decide) rfl (cM_urch i 2 (min (M 16 i) 2) 0 (by omega) (by intro j hj; show (j < min (M 16 i) 2 ↔ if j = 2 then (0 : Nat) = 1 else j < M 16 i); by_cases zz1 : j = 2; (rw [if_pos zz1]; omega); (rw [if_neg zz1]; omega)) (by decide)) dX3_openAnew_59 (fun H locs hP hD hS => ?_)
        refine lv_aload_n hx hb dX3_openAnew_60 rfl (lv_at hl 1 rfl) ?_
        refine z_get (C := RX3) (T := TX3) (N := 21) (ci := 3) (fs := mObj bd (zu (zu (zu M 12 i 0) 14 i 0) 16 i (min (M 16 i) 2)) (nI (y2 (zI (M 0 1) (nI i)) (zI (M 0 1) (nI i) ∧ M 12 (i) = 2)))) (v := .ref (bd 15)) F hK hP hi3 rfl (0) 15 (by omega) cM_0 (by decide) rfl (by decide +kernel) dX3_openAnew_61 ?_
        refine lv_iconst (v := nI 3) hx hb dX3_openAnew_64 (by decide) ?_
        refine lv_iload_n hx hb dX3_openAnew_65 rfl (lv_at hl 2 rfl) ?_
        refine z_mul F dX3_openAnew_66 ?_
        refine lv_iconst (v := nI 2) hx hb dX3_openAnew_67 (by decide) ?_
        refine z_add F dX3_openAnew_68 ?_
        refine z_iald (v := nI (M 15 ((3 * i) + 2))) (cA := k 0) (len := 120) (g := mA (zu (zu (zu M 12 i 0) 14 i 0) 16 i (min (M 16 i) 2)) O 15) F hK hP (15) 0 (by omega) rfl rfl (i := nI ((3 * i) + 2)) ((3 * i) + 2) rfl (by omega) (by decide) (by first | rfl | (show nI _ = nI _; simp [zu])) dX3_openAnew_69 ?_
        have hx0 : (x3 (zI (M 0 1) (nI i)) (True) (M 12 (i) = 2)) = 0 := x3_0 c16.1 trivial c16.2.2
        have eW : cM k bd (if (x3 (zI (M 0 1) (nI i)) (True) (M 12 (i) = 2)) = 0 then (zu (zu (zu M 12 (i) 0) 14 (i) 0) 16 (i) (min (M 16 (i)) 2)) else M) O (nI ((kq (x3 (zI (M 0 1) (nI i)) (True) (M 12 (i) = 2))))) = cM k bd (zu (zu (zu M 12 i 0) 14 i 0) 16 i (min (M 16 i) 2)) O (nI (y2 (zI (M 0 1) (nI i)) (zI (M 0 1) (nI i) ∧ M 12 (i) = 2))) := by rw [if_pos hx0, ← y2_ac] <;> rfl
        rw [← eW] at hP hD
        refine W.widen (k := 0) (n := 0) (Nat.le_of_ble_eq_true rfl) (Nat.le_of_ble_eq_true rfl) ?_
        exact W.iret (v := nI (M 15 ((3 * i) + 2))) hx hb hr (fun t ht hW => ⟨⟨nI (M 15 ((3 * i) + 2)), (), rfl, fun _ => rfl, ⟨by rw [ht]; exact hP, va_K.moved hW.alike hK⟩, hD⟩, hS.F ht⟩) hS.2.2 dX3_openAnew_70
      · refine lv_iconst (v := nI 0) hx hb dX3_openAnew_33 (by decide) ?_
        have hx0 : (x3 (zI (M 0 1) (nI i)) (True) (M 12 (i) = 2)) ≠ 0 := x3_no (fun zz1 => c16 ⟨zz1.1, zz1.1, zz1.2.2⟩)
        have eW : cM k bd (if (x3 (zI (M 0 1) (nI i)) (True) (M 12 (i) = 2)) = 0 then (zu (zu (zu M 12 (i) 0) 14 (i) 0) 16 (i) (min (M 16 (i)) 2)) else M) O (nI ((kq (x3 (zI (M 0 1) (nI i)) (True) (M 12 (i) = 2))))) = cM k bd M O (nI (y2 (zI (M 0 1) (nI i)) (zI (M 0 1) (nI i) ∧ M 12 (i) = 2))) := by rw [if_neg hx0, ← y2_ac] <;> rfl
        rw [← eW] at hP hD
        refine W.widen (k := 0) (n := 0) (Nat.le_of_ble_eq_true rfl) (Nat.le_of_ble_eq_true rfl) ?_
        exact W.iret (v := nI 0) hx hb hr (fun t ht hW => ⟨⟨nI 0, (), rfl, fun zz1 => absurd zz1 hx0, ⟨by rw [ht]; exact hP, va_K.moved hW.alike hK⟩, hD⟩, hS.F ht⟩) hS.2.2 dX3_openAnew_34
