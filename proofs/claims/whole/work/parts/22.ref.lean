/-! THE REFERENCE: its calls. The code that it tells, from x3. -/
def kq (x : Nat) : Nat := if x = 3 then 2 else x
theorem y1_a {a : Prop} : y1 a = x3 a True True := by
  unfold y1 x3
  rw [cI_t (P := True) trivial, cI_t (P := True) trivial]
theorem y1_b {b : Prop} : y1 b = x3 True b True - 1 := by
  unfold y1 x3
  rw [cI_t (P := True) trivial, cI_t (P := True) trivial]
  by_cases h : b
  · rw [cI_t h, cI_t h]
  · rw [cI_f h, cI_f h]
theorem y2_ab {a b : Prop} : y2 a b = x3 a b True := by
  unfold y2 x3
  rw [cI_t (P := True) trivial]
theorem y2_ac {a c : Prop} : y2 a (a ∧ c) = kq (x3 a True c) := by
  unfold y2 x3 kq
  rw [cI_t (P := True) trivial]
  by_cases h : a
  · by_cases h2 : c
    · rw [cI_t h, cI_t ⟨h, h2⟩, cI_t h, cI_t h2]; rfl
    · rw [cI_t h, cI_f (fun zz1 => h2 zz1.2), cI_t h, cI_f h2]; rfl
  · rw [cI_f h, cI_f h]; rfl
theorem y2_bc {b c : Prop} : y2 b (b ∧ c) = x3 True b c - 1 := by
  unfold y2 x3
  rw [cI_t (P := True) trivial]
  by_cases h : b
  · by_cases h2 : c
    · rw [cI_t h, cI_t ⟨h, h2⟩, cI_t h, cI_t h2]
    · rw [cI_t h, cI_f (fun zz1 => h2 zz1.2), cI_t h, cI_f h2]
  · rw [cI_f h, cI_f h]
theorem x3_ac {a b c : Prop} : x3 a b (a ∧ c) = x3 a b c := by
  by_cases h : a
  · rw [show (a ∧ c) = c from propext ⟨fun zz1 => zz1.2, fun zz1 => ⟨h, zz1⟩⟩]
  · rw [x3_1 h, x3_1 h]
theorem x3_abc {a b c : Prop} : x3 a b ((a ∧ b) ∧ c) = x3 a b c := by
  by_cases h : a
  · by_cases h2 : b
    · rw [show ((a ∧ b) ∧ c) = c from propext ⟨fun zz1 => zz1.2, fun zz1 => ⟨⟨h, h2⟩, zz1⟩⟩]
    · rw [x3_2 h h2, x3_2 h h2]
  · rw [x3_1 h, x3_1 h]
theorem x3_ab2 {a b c : Prop} : x3 a (a ∧ b) c = x3 a b c := by
  by_cases h : a
  · rw [show (a ∧ b) = b from propext ⟨fun zz1 => zz1.2, fun zz1 => ⟨h, zz1⟩⟩]
  · rw [x3_1 h, x3_1 h]
theorem x3_no {a b c : Prop} (h : ¬ (a ∧ b ∧ c)) : x3 a b c ≠ 0 := by
  by_cases ha : a
  · by_cases hb1 : b
    · by_cases hc1 : c
      · exact absurd ⟨ha, hb1, hc1⟩ h
      · rw [x3_3 ha hb1 hc1]; decide
    · rw [x3_2 ha hb1]; decide
  · rw [x3_1 ha]; decide
set_option maxRecDepth 100000 in
set_option maxHeartbeats 1000000 in
theorem c_X3_ahead (l : Launch) (D : va_G) (k : Nat → ClassId) (bd : Nat → Nat) (M : Nat → Nat → Nat) (O : Nat → Nat → Int32) (th : Int32) (sz : Nat) (hI : zInv M) (p0 : Int32) : Met l yX3_ahead wsX3_ahead ({ frames := 2, cells := 0, slots := 0, locals := 42 }) (va_Pc [.ref (bd 0), .int p0] (zG D k 19 bd (cM k bd M O th) sz)) (zQw D k 19 bd (cM k bd M O (nI ((x3 (zI 4 p0) (True) (True))))) (va_A (zw 19 bd (cM k bd M O th)) sz) (fun r => (x3 (zI 4 p0) (True) (True)) = 0 → r = (O 0 (ix p0)))) 0 0 (va_A (zw 19 bd (cM k bd M O th)) sz) := by
  refine Met.ofW (cc := cX3_ahead) (maxL := 2) (ret := (some .int)) (by decide) rfl ?_
  intro p e s m args below meth c s₁ B hml hv
  obtain ⟨rfl, hsz, ⟨hP, hK⟩, hD0⟩ := hv
  have hx := B.exec
  have hb := B.bytes
  have hr := B.returns
  have hts := atoms_spec (ws := wsX3_ahead) B.pre
  have hown : s.vm.findClass RX3 = some m.cls := findClass_of_methodNamed B.named
  have hlocks := B.notSynchronized
  have F : CallFix p m c cX3_ahead 2 s _ wsX3_ahead RX3 := ⟨hx, hb, hml, hown, hts⟩
  subst hsz
  have hD := hD0.self (sz := s.heap.size)
  generalize hAe : va_A (zw 19 bd (cM k bd M O th)) s.heap.size = A at hD ⊢
  have hA : ∀ q : Nat, s.heap.size ≤ q → A q := fun q h => by rw [← hAe]; exact Or.inr h
  have hS : va_S A s.heap s.heap [] := va_S.rf
  have hl := lv_entry ([.ref (bd 0), .int p0]) (n := 2) (Nat.le_of_ble_eq_true rfl)
  rw [lg_entry_eq]
  generalize (lg_sl ([.ref (bd 0), .int p0]) ++ List.replicate (2 - (lg_sl ([.ref (bd 0), .int p0])).length) Slot.unset).toArray = ls at hl ⊢
  have hl : lv_has ls 2 [(0, .ref (bd 0)), (1, .int p0)] := hl
  have hi3 : ∀ w ∈ u_ws RX3 TX3 21, w ∈ wsX3_ahead := by decide +kernel
  obtain ⟨hI1, hI2, hI3, hI4, hI5, hI6, hI7⟩ := id hI
  refine lv_aload_n hx hb dX3_ahead_0 rfl (lv_at hl 0 rfl) ?_
  refine lv_iload_n hx hb dX3_ahead_1 rfl (lv_at hl 1 rfl) ?_
  refine z_cS (As := [.int p0]) (rest := [.ref (bd 0)]) F (c_X3_isSite l p0) (va_cwS 1 hts gX3_ahead_X3_isSite rfl rfl rfl (by decide +kernel) ⟨Nat.le_of_ble_eq_true rfl, Nat.le_of_ble_eq_true rfl⟩) rfl hl.1 rfl (Nat.le_of_ble_eq_true rfl) dX3_ahead_2 ⟨Nat.le_of_ble_eq_true rfl, Nat.le_of_ble_eq_true rfl⟩ (fun r hr => ?_)
  subst hr
  refine z_mV (qc := (RX3, TX3, 21)) (As := [.int (bI (zI 4 p0))]) (rest := []) (0) F (c_X3_asked l D k bd M O th _ (zI 4 p0)) (cwV 1 hts gX3_ahead_X3_asked rfl rfl rfl (by decide +kernel) ⟨Nat.le_of_ble_eq_true rfl, Nat.le_of_ble_eq_true rfl⟩) hK hP hD hS hA (by omega) cM_0 rfl rfl hl.1 rfl (Nat.le_of_ble_eq_true rfl) dX3_ahead_5 ⟨Nat.le_of_ble_eq_true rfl, Nat.le_of_ble_eq_true rfl⟩ (fun r H locs hr0 hP hD hS => ?_)
  subst hr0
  refine z_ifb_eq (tgt := 20) F dX3_ahead_8 (by decide) (fun c1 => ?_) (fun c1 => ?_)
  · refine lv_iconst (v := nI 0) hx hb dX3_ahead_20 (by decide) ?_
    have hx0 : (x3 (zI 4 p0) (True) (True)) ≠ 0 := x3_no (fun zz1 => c1 zz1.1)
    have eW : cM k bd M O (nI ((x3 (zI 4 p0) (True) (True)))) = cM k bd M O (nI (y1 (zI 4 p0))) := by rw [← y1_a] <;> rfl
    rw [← eW] at hP hD
    refine W.widen (k := 0) (n := 0) (Nat.le_of_ble_eq_true rfl) (Nat.le_of_ble_eq_true rfl) ?_
    exact W.iret (v := nI 0) hx hb hr (fun t ht hW => ⟨⟨nI 0, (), rfl, fun zz1 => absurd zz1 hx0, ⟨by rw [ht]; exact hP, va_K.moved hW.alike hK⟩, hD⟩, hS.F ht⟩) hS.2.2 dX3_ahead_21
  · obtain ⟨i, hi, rfl⟩ := id c1
    try rw [ix_nI (show i < 2 ^ 31 by omega)]
    refine lv_aload_n hx hb dX3_ahead_11 rfl (lv_at hl 0 rfl) ?_
    refine z_get (C := RX3) (T := TX3) (N := 21) (ci := 3) (fs := mObj bd M (nI (y1 (zI 4 (nI i))))) (v := .ref (bd 17)) F hK hP hi3 rfl (0) 18 (by omega) cM_0 (by decide) rfl (by decide +kernel) dX3_ahead_12 ?_
    refine lv_iload_n hx hb dX3_ahead_15 rfl (lv_at hl 1 rfl) ?_
    refine z_iald (v := O 0 i) (cA := k 0) (len := 4) (g := mA M O 17) F hK hP (17) 0 (by omega) rfl rfl (i := nI i) i rfl hi (by decide) rfl dX3_ahead_16 ?_
    refine lv_goto (tgt := 21) hx hb dX3_ahead_17 (by decide) ?_
    have hx0 : (x3 (zI 4 (nI i)) (True) (True)) = 0 := x3_0 c1 trivial trivial
    have eW : cM k bd M O (nI ((x3 (zI 4 (nI i)) (True) (True)))) = cM k bd M O (nI (y1 (zI 4 (nI i)))) := by rw [← y1_a] <;> rfl
    rw [← eW] at hP hD
    refine W.widen (k := 0) (n := 0) (Nat.le_of_ble_eq_true rfl) (Nat.le_of_ble_eq_true rfl) ?_
    exact W.iret (v := O 0 i) hx hb hr (fun t ht hW => ⟨⟨O 0 i, (), rfl, fun _ => rfl, ⟨by rw [ht]; exact hP, va_K.moved hW.alike hK⟩, hD⟩, hS.F ht⟩) hS.2.2 dX3_ahead_21
set_option maxRecDepth 100000 in
set_option maxHeartbeats 1000000 in
theorem c_X3_owes (l : Launch) (D : va_G) (k : Nat → ClassId) (bd : Nat → Nat) (M : Nat → Nat → Nat) (O : Nat → Nat → Int32) (th : Int32) (sz : Nat) (hI : zInv M) (p0 : Int32) : Met l yX3_owes wsX3_owes ({ frames := 2, cells := 0, slots := 0, locals := 42 }) (va_Pc [.ref (bd 0), .int p0] (zG D k 19 bd (cM k bd M O th) sz)) (zQw D k 19 bd (cM k bd M O (nI ((x3 (zI 4 p0) (True) (True))))) (va_A (zw 19 bd (cM k bd M O th)) sz) (fun r => (x3 (zI 4 p0) (True) (True)) = 0 → r = (O 1 (ix p0)))) 0 0 (va_A (zw 19 bd (cM k bd M O th)) sz) := by
  refine Met.ofW (cc := cX3_owes) (maxL := 2) (ret := (some .int)) (by decide) rfl ?_
  intro p e s m args below meth c s₁ B hml hv
  obtain ⟨rfl, hsz, ⟨hP, hK⟩, hD0⟩ := hv
  have hx := B.exec
  have hb := B.bytes
  have hr := B.returns
  have hts := atoms_spec (ws := wsX3_owes) B.pre
  have hown : s.vm.findClass RX3 = some m.cls := findClass_of_methodNamed B.named
  have hlocks := B.notSynchronized
  have F : CallFix p m c cX3_owes 2 s _ wsX3_owes RX3 := ⟨hx, hb, hml, hown, hts⟩
  subst hsz
  have hD := hD0.self (sz := s.heap.size)
  generalize hAe : va_A (zw 19 bd (cM k bd M O th)) s.heap.size = A at hD ⊢
  have hA : ∀ q : Nat, s.heap.size ≤ q → A q := fun q h => by rw [← hAe]; exact Or.inr h
  have hS : va_S A s.heap s.heap [] := va_S.rf
  have hl := lv_entry ([.ref (bd 0), .int p0]) (n := 2) (Nat.le_of_ble_eq_true rfl)
  rw [lg_entry_eq]
  generalize (lg_sl ([.ref (bd 0), .int p0]) ++ List.replicate (2 - (lg_sl ([.ref (bd 0), .int p0])).length) Slot.unset).toArray = ls at hl ⊢
  have hl : lv_has ls 2 [(0, .ref (bd 0)), (1, .int p0)] := hl
  have hi3 : ∀ w ∈ u_ws RX3 TX3 21, w ∈ wsX3_owes := by decide +kernel
  obtain ⟨hI1, hI2, hI3, hI4, hI5, hI6, hI7⟩ := id hI
  refine lv_aload_n hx hb dX3_owes_0 rfl (lv_at hl 0 rfl) ?_
  refine lv_iload_n hx hb dX3_owes_1 rfl (lv_at hl 1 rfl) ?_
  refine z_cS (As := [.int p0]) (rest := [.ref (bd 0)]) F (c_X3_isSite l p0) (va_cwS 1 hts gX3_owes_X3_isSite rfl rfl rfl (by decide +kernel) ⟨Nat.le_of_ble_eq_true rfl, Nat.le_of_ble_eq_true rfl⟩) rfl hl.1 rfl (Nat.le_of_ble_eq_true rfl) dX3_owes_2 ⟨Nat.le_of_ble_eq_true rfl, Nat.le_of_ble_eq_true rfl⟩ (fun r hr => ?_)
  subst hr
  refine z_mV (qc := (RX3, TX3, 21)) (As := [.int (bI (zI 4 p0))]) (rest := []) (0) F (c_X3_asked l D k bd M O th _ (zI 4 p0)) (cwV 1 hts gX3_owes_X3_asked rfl rfl rfl (by decide +kernel) ⟨Nat.le_of_ble_eq_true rfl, Nat.le_of_ble_eq_true rfl⟩) hK hP hD hS hA (by omega) cM_0 rfl rfl hl.1 rfl (Nat.le_of_ble_eq_true rfl) dX3_owes_5 ⟨Nat.le_of_ble_eq_true rfl, Nat.le_of_ble_eq_true rfl⟩ (fun r H locs hr0 hP hD hS => ?_)
  subst hr0
  refine z_ifb_eq (tgt := 20) F dX3_owes_8 (by decide) (fun c2 => ?_) (fun c2 => ?_)
  · refine lv_iconst (v := nI 0) hx hb dX3_owes_20 (by decide) ?_
    have hx0 : (x3 (zI 4 p0) (True) (True)) ≠ 0 := x3_no (fun zz1 => c2 zz1.1)
    have eW : cM k bd M O (nI ((x3 (zI 4 p0) (True) (True)))) = cM k bd M O (nI (y1 (zI 4 p0))) := by rw [← y1_a] <;> rfl
    rw [← eW] at hP hD
    refine W.widen (k := 0) (n := 0) (Nat.le_of_ble_eq_true rfl) (Nat.le_of_ble_eq_true rfl) ?_
    exact W.iret (v := nI 0) hx hb hr (fun t ht hW => ⟨⟨nI 0, (), rfl, fun zz1 => absurd zz1 hx0, ⟨by rw [ht]; exact hP, va_K.moved hW.alike hK⟩, hD⟩, hS.F ht⟩) hS.2.2 dX3_owes_21
  · obtain ⟨i, hi, rfl⟩ := id c2
    try rw [ix_nI (show i < 2 ^ 31 by omega)]
    refine lv_aload_n hx hb dX3_owes_11 rfl (lv_at hl 0 rfl) ?_
    refine z_get (C := RX3) (T := TX3) (N := 21) (ci := 3) (fs := mObj bd M (nI (y1 (zI 4 (nI i))))) (v := .ref (bd 18)) F hK hP hi3 rfl (0) 19 (by omega) cM_0 (by decide) rfl (by decide +kernel) dX3_owes_12 ?_
    refine lv_iload_n hx hb dX3_owes_15 rfl (lv_at hl 1 rfl) ?_
    refine z_iald (v := O 1 i) (cA := k 0) (len := 4) (g := mA M O 18) F hK hP (18) 0 (by omega) rfl rfl (i := nI i) i rfl hi (by decide) rfl dX3_owes_16 ?_
    refine lv_goto (tgt := 21) hx hb dX3_owes_17 (by decide) ?_
    have hx0 : (x3 (zI 4 (nI i)) (True) (True)) = 0 := x3_0 c2 trivial trivial
    have eW : cM k bd M O (nI ((x3 (zI 4 (nI i)) (True) (True)))) = cM k bd M O (nI (y1 (zI 4 (nI i)))) := by rw [← y1_a] <;> rfl
    rw [← eW] at hP hD
    refine W.widen (k := 0) (n := 0) (Nat.le_of_ble_eq_true rfl) (Nat.le_of_ble_eq_true rfl) ?_
    exact W.iret (v := O 1 i) hx hb hr (fun t ht hW => ⟨⟨O 1 i, (), rfl, fun _ => rfl, ⟨by rw [ht]; exact hP, va_K.moved hW.alike hK⟩, hD⟩, hS.F ht⟩) hS.2.2 dX3_owes_21
set_option maxRecDepth 100000 in
set_option maxHeartbeats 1000000 in
theorem c_X3_stateOf (l : Launch) (D : va_G) (k : Nat → ClassId) (bd : Nat → Nat) (M : Nat → Nat → Nat) (O : Nat → Nat → Int32) (th : Int32) (sz : Nat) (hI : zInv M) (p0 : Int32) : Met l yX3_stateOf wsX3_stateOf ({ frames := 2, cells := 0, slots := 0, locals := 43 }) (va_Pc [.ref (bd 0), .int p0] (zG D k 19 bd (cM k bd M O th) sz)) (zQw D k 19 bd (cM k bd M O (nI ((x3 (zI (M 0 1) p0) (True) (True))))) (va_A (zw 19 bd (cM k bd M O th)) sz) (fun r => (x3 (zI (M 0 1) p0) (True) (True)) = 0 → r = (nI (M 12 (ix p0))))) 0 0 (va_A (zw 19 bd (cM k bd M O th)) sz) := by
  refine Met.ofW (cc := cX3_stateOf) (maxL := 2) (ret := (some .int)) (by decide) rfl ?_
  intro p e s m args below meth c s₁ B hml hv
  obtain ⟨rfl, hsz, ⟨hP, hK⟩, hD0⟩ := hv
  have hx := B.exec
  have hb := B.bytes
  have hr := B.returns
  have hts := atoms_spec (ws := wsX3_stateOf) B.pre
  have hown : s.vm.findClass RX3 = some m.cls := findClass_of_methodNamed B.named
  have hlocks := B.notSynchronized
  have F : CallFix p m c cX3_stateOf 2 s _ wsX3_stateOf RX3 := ⟨hx, hb, hml, hown, hts⟩
  subst hsz
  have hD := hD0.self (sz := s.heap.size)
  generalize hAe : va_A (zw 19 bd (cM k bd M O th)) s.heap.size = A at hD ⊢
  have hA : ∀ q : Nat, s.heap.size ≤ q → A q := fun q h => by rw [← hAe]; exact Or.inr h
  have hS : va_S A s.heap s.heap [] := va_S.rf
  have hl := lv_entry ([.ref (bd 0), .int p0]) (n := 2) (Nat.le_of_ble_eq_true rfl)
  rw [lg_entry_eq]
  generalize (lg_sl ([.ref (bd 0), .int p0]) ++ List.replicate (2 - (lg_sl ([.ref (bd 0), .int p0])).length) Slot.unset).toArray = ls at hl ⊢
  have hl : lv_has ls 2 [(0, .ref (bd 0)), (1, .int p0)] := hl
  have hi3 : ∀ w ∈ u_ws RX3 TX3 21, w ∈ wsX3_stateOf := by decide +kernel
  obtain ⟨hI1, hI2, hI3, hI4, hI5, hI6, hI7⟩ := id hI
  refine lv_aload_n hx hb dX3_stateOf_0 rfl (lv_at hl 0 rfl) ?_
  refine lv_aload_n hx hb dX3_stateOf_1 rfl (lv_at hl 0 rfl) ?_
  refine lv_iload_n hx hb dX3_stateOf_2 rfl (lv_at hl 1 rfl) ?_
  refine z_cV (qc := (RX3, TX3, 21)) (As := [.int p0]) (rest := [.ref (bd 0)]) (0) F (c_X3_isCase l D k bd M O th hI2 p0) (cwV 1 hts gX3_stateOf_X3_isCase rfl rfl rfl (by decide +kernel) ⟨Nat.le_of_ble_eq_true rfl, Nat.le_of_ble_eq_true rfl⟩) hK hP (by omega) cM_0 rfl rfl hl.1 rfl (Nat.le_of_ble_eq_true rfl) dX3_stateOf_3 ⟨Nat.le_of_ble_eq_true rfl, Nat.le_of_ble_eq_true rfl⟩ (fun r hr => ?_)
  subst hr
  refine z_mV (qc := (RX3, TX3, 21)) (As := [.int (bI (zI (M 0 1) p0))]) (rest := []) (0) F (c_X3_asked l D k bd M O th _ (zI (M 0 1) p0)) (cwV 1 hts gX3_stateOf_X3_asked rfl rfl rfl (by decide +kernel) ⟨Nat.le_of_ble_eq_true rfl, Nat.le_of_ble_eq_true rfl⟩) hK hP hD hS hA (by omega) cM_0 rfl rfl hl.1 rfl (Nat.le_of_ble_eq_true rfl) dX3_stateOf_6 ⟨Nat.le_of_ble_eq_true rfl, Nat.le_of_ble_eq_true rfl⟩ (fun r H locs hr0 hP hD hS => ?_)
  subst hr0
  refine z_ifb_eq (tgt := 21) F dX3_stateOf_9 (by decide) (fun c3 => ?_) (fun c3 => ?_)
  · refine lv_iconst (v := nI 0) hx hb dX3_stateOf_21 (by decide) ?_
    have hx0 : (x3 (zI (M 0 1) p0) (True) (True)) ≠ 0 := x3_no (fun zz1 => c3 zz1.1)
    have eW : cM k bd M O (nI ((x3 (zI (M 0 1) p0) (True) (True)))) = cM k bd M O (nI (y1 (zI (M 0 1) p0))) := by rw [← y1_a] <;> rfl
    rw [← eW] at hP hD
    refine W.widen (k := 0) (n := 0) (Nat.le_of_ble_eq_true rfl) (Nat.le_of_ble_eq_true rfl) ?_
    exact W.iret (v := nI 0) hx hb hr (fun t ht hW => ⟨⟨nI 0, (), rfl, fun zz1 => absurd zz1 hx0, ⟨by rw [ht]; exact hP, va_K.moved hW.alike hK⟩, hD⟩, hS.F ht⟩) hS.2.2 dX3_stateOf_22
  · obtain ⟨i, hi, rfl⟩ := id c3
    try rw [ix_nI (show i < 2 ^ 31 by omega)]
    have hz := hI5 i hi
    refine lv_aload_n hx hb dX3_stateOf_12 rfl (lv_at hl 0 rfl) ?_
    refine z_get (C := RX3) (T := TX3) (N := 21) (ci := 3) (fs := mObj bd M (nI (y1 (zI (M 0 1) (nI i))))) (v := .ref (bd 12)) F hK hP hi3 rfl (0) 12 (by omega) cM_0 (by decide) rfl (by decide +kernel) dX3_stateOf_13 ?_
    refine lv_iload_n hx hb dX3_stateOf_16 rfl (lv_at hl 1 rfl) ?_
    refine z_iald (v := nI (M 12 i)) (cA := k 0) (len := 40) (g := mA M O 12) F hK hP (12) 0 (by omega) rfl rfl (i := nI i) i rfl (by omega) (by decide) rfl dX3_stateOf_17 ?_
    refine lv_goto (tgt := 22) hx hb dX3_stateOf_18 (by decide) ?_
    have hx0 : (x3 (zI (M 0 1) (nI i)) (True) (True)) = 0 := x3_0 c3 trivial trivial
    have eW : cM k bd M O (nI ((x3 (zI (M 0 1) (nI i)) (True) (True)))) = cM k bd M O (nI (y1 (zI (M 0 1) (nI i)))) := by rw [← y1_a] <;> rfl
    rw [← eW] at hP hD
    refine W.widen (k := 0) (n := 0) (Nat.le_of_ble_eq_true rfl) (Nat.le_of_ble_eq_true rfl) ?_
    exact W.iret (v := nI (M 12 i)) hx hb hr (fun t ht hW => ⟨⟨nI (M 12 i), (), rfl, fun _ => rfl, ⟨by rw [ht]; exact hP, va_K.moved hW.alike hK⟩, hD⟩, hS.F ht⟩) hS.2.2 dX3_stateOf_22
set_option maxRecDepth 100000 in
set_option maxHeartbeats 1000000 in
theorem c_X3_step (l : Launch) (D : va_G) (k : Nat → ClassId) (bd : Nat → Nat) (M : Nat → Nat → Nat) (O : Nat → Nat → Int32) (th : Int32) (sz : Nat) (hI : zInv M) (p0 : Int32) : Met l yX3_step wsX3_step ({ frames := 2, cells := 0, slots := 0, locals := 43 }) (va_Pc [.ref (bd 0), .int p0] (zG D k 19 bd (cM k bd M O th) sz)) (zQw D k 19 bd (cM k bd M O (nI ((x3 (zI (M 0 1) p0) (True) (True))))) (va_A (zw 19 bd (cM k bd M O th)) sz) (fun r => (x3 (zI (M 0 1) p0) (True) (True)) = 0 → r = (nI (gS M (ix p0) 3)))) 0 0 (va_A (zw 19 bd (cM k bd M O th)) sz) := by
  refine Met.ofW (cc := cX3_step) (maxL := 2) (ret := (some .int)) (by decide) rfl ?_
  intro p e s m args below meth c s₁ B hml hv
  obtain ⟨rfl, hsz, ⟨hP, hK⟩, hD0⟩ := hv
  have hx := B.exec
  have hb := B.bytes
  have hr := B.returns
  have hts := atoms_spec (ws := wsX3_step) B.pre
  have hown : s.vm.findClass RX3 = some m.cls := findClass_of_methodNamed B.named
  have hlocks := B.notSynchronized
  have F : CallFix p m c cX3_step 2 s _ wsX3_step RX3 := ⟨hx, hb, hml, hown, hts⟩
  subst hsz
  have hD := hD0.self (sz := s.heap.size)
  generalize hAe : va_A (zw 19 bd (cM k bd M O th)) s.heap.size = A at hD ⊢
  have hA : ∀ q : Nat, s.heap.size ≤ q → A q := fun q h => by rw [← hAe]; exact Or.inr h
  have hS : va_S A s.heap s.heap [] := va_S.rf
  have hl := lv_entry ([.ref (bd 0), .int p0]) (n := 2) (Nat.le_of_ble_eq_true rfl)
  rw [lg_entry_eq]
  generalize (lg_sl ([.ref (bd 0), .int p0]) ++ List.replicate (2 - (lg_sl ([.ref (bd 0), .int p0])).length) Slot.unset).toArray = ls at hl ⊢
  have hl : lv_has ls 2 [(0, .ref (bd 0)), (1, .int p0)] := hl
  have hi3 : ∀ w ∈ u_ws RX3 TX3 21, w ∈ wsX3_step := by decide +kernel
  obtain ⟨hI1, hI2, hI3, hI4, hI5, hI6, hI7⟩ := id hI
  refine lv_aload_n hx hb dX3_step_0 rfl (lv_at hl 0 rfl) ?_
  refine lv_aload_n hx hb dX3_step_1 rfl (lv_at hl 0 rfl) ?_
  refine lv_iload_n hx hb dX3_step_2 rfl (lv_at hl 1 rfl) ?_
  refine z_cV (qc := (RX3, TX3, 21)) (As := [.int p0]) (rest := [.ref (bd 0)]) (0) F (c_X3_isCase l D k bd M O th hI2 p0) (cwV 1 hts gX3_step_X3_isCase rfl rfl rfl (by decide +kernel) ⟨Nat.le_of_ble_eq_true rfl, Nat.le_of_ble_eq_true rfl⟩) hK hP (by omega) cM_0 rfl rfl hl.1 rfl (Nat.le_of_ble_eq_true rfl) dX3_step_3 ⟨Nat.le_of_ble_eq_true rfl, Nat.le_of_ble_eq_true rfl⟩ (fun r hr => ?_)
  subst hr
  refine z_mV (qc := (RX3, TX3, 21)) (As := [.int (bI (zI (M 0 1) p0))]) (rest := []) (0) F (c_X3_asked l D k bd M O th _ (zI (M 0 1) p0)) (cwV 1 hts gX3_step_X3_asked rfl rfl rfl (by decide +kernel) ⟨Nat.le_of_ble_eq_true rfl, Nat.le_of_ble_eq_true rfl⟩) hK hP hD hS hA (by omega) cM_0 rfl rfl hl.1 rfl (Nat.le_of_ble_eq_true rfl) dX3_step_6 ⟨Nat.le_of_ble_eq_true rfl, Nat.le_of_ble_eq_true rfl⟩ (fun r H locs hr0 hP hD hS => ?_)
  subst hr0
  refine z_ifb_eq (tgt := 20) F dX3_step_9 (by decide) (fun c4 => ?_) (fun c4 => ?_)
  · refine lv_iconst (v := nI 0) hx hb dX3_step_20 (by decide) ?_
    have hx0 : (x3 (zI (M 0 1) p0) (True) (True)) ≠ 0 := x3_no (fun zz1 => c4 zz1.1)
    have eW : cM k bd M O (nI ((x3 (zI (M 0 1) p0) (True) (True)))) = cM k bd M O (nI (y1 (zI (M 0 1) p0))) := by rw [← y1_a] <;> rfl
    rw [← eW] at hP hD
    refine W.widen (k := 0) (n := 0) (Nat.le_of_ble_eq_true rfl) (Nat.le_of_ble_eq_true rfl) ?_
    exact W.iret (v := nI 0) hx hb hr (fun t ht hW => ⟨⟨nI 0, (), rfl, fun zz1 => absurd zz1 hx0, ⟨by rw [ht]; exact hP, va_K.moved hW.alike hK⟩, hD⟩, hS.F ht⟩) hS.2.2 dX3_step_21
  · obtain ⟨i, hi, rfl⟩ := id c4
    try rw [ix_nI (show i < 2 ^ 31 by omega)]
    have hz := hI5 i hi
    have hk9 : ∀ x, x < 120 → M 15 x ≤ 24000 := fun x h => Nat.le_trans (hI6 x h) hI1
    refine lv_aload_n hx hb dX3_step_12 rfl (lv_at hl 0 rfl) ?_
    refine lv_iload_n hx hb dX3_step_13 rfl (lv_at hl 1 rfl) ?_
    refine z_cV (qc := (RX3, TX3, 21)) (As := [.int (nI i)]) (rest := []) (0) F (c_X3_stepOf l D k bd M O (nI (y1 (zI (M 0 1) (nI i)))) i hz (by omega) hI4 hk9) (cwV 1 hts gX3_step_X3_stepOf rfl rfl rfl (by decide +kernel) ⟨Nat.le_of_ble_eq_true rfl, Nat.le_of_ble_eq_true rfl⟩) hK hP (by omega) cM_0 rfl rfl hl.1 rfl (Nat.le_of_ble_eq_true rfl) dX3_step_14 ⟨Nat.le_of_ble_eq_true rfl, Nat.le_of_ble_eq_true rfl⟩ (fun r hr => ?_)
    subst hr
    refine lv_goto (tgt := 21) hx hb dX3_step_17 (by decide) ?_
    have hx0 : (x3 (zI (M 0 1) (nI i)) (True) (True)) = 0 := x3_0 c4 trivial trivial
    have eW : cM k bd M O (nI ((x3 (zI (M 0 1) (nI i)) (True) (True)))) = cM k bd M O (nI (y1 (zI (M 0 1) (nI i)))) := by rw [← y1_a] <;> rfl
    rw [← eW] at hP hD
    refine W.widen (k := 0) (n := 0) (Nat.le_of_ble_eq_true rfl) (Nat.le_of_ble_eq_true rfl) ?_
    exact W.iret (v := nI (gS M i 3)) hx hb hr (fun t ht hW => ⟨⟨nI (gS M i 3), (), rfl, fun _ => rfl, ⟨by rw [ht]; exact hP, va_K.moved hW.alike hK⟩, hD⟩, hS.F ht⟩) hS.2.2 dX3_step_21
set_option maxRecDepth 100000 in
set_option maxHeartbeats 1000000 in
theorem c_X3_setCalendar (l : Launch) (D : va_G) (k : Nat → ClassId) (bd : Nat → Nat) (M : Nat → Nat → Nat) (O : Nat → Nat → Int32) (th : Int32) (sz : Nat) (hI : zInv M) (p0 p1 p2 p3 : Int32) : Met l yX3_setCalendar wsX3_setCalendar ({ frames := 2, cells := 0, slots := 0, locals := 42 }) (va_Pc [.ref (bd 0), .int p0, .int p1, .int p2, .int p3] (zG D k 19 bd (cM k bd M O th) sz)) (zQw D k 19 bd (cM k bd (if (x3 (zI 4 p0) ((nI 0 ≤ p1 ∧ p1 ≤ nI 127) ∧ (nI 0 ≤ p2 ∧ p2 ≤ nI 23) ∧ (p2 ≤ p3 ∧ p3 ≤ nI 23)) (True)) = 0 then (zu (zu (zu M 1 (ix p0) (ix p1)) 2 (ix p0) (ix p2)) 3 (ix p0) (ix p3)) else M) O (nI ((x3 (zI 4 p0) ((nI 0 ≤ p1 ∧ p1 ≤ nI 127) ∧ (nI 0 ≤ p2 ∧ p2 ≤ nI 23) ∧ (p2 ≤ p3 ∧ p3 ≤ nI 23)) (True))))) (va_A (zw 19 bd (cM k bd M O th)) sz) (fun r => (x3 (zI 4 p0) ((nI 0 ≤ p1 ∧ p1 ≤ nI 127) ∧ (nI 0 ≤ p2 ∧ p2 ≤ nI 23) ∧ (p2 ≤ p3 ∧ p3 ≤ nI 23)) (True)) = 0 → r = (nI (M 1 (ix p0))))) 0 0 (va_A (zw 19 bd (cM k bd M O th)) sz) := by
  refine Met.ofW (cc := cX3_setCalendar) (maxL := 6) (ret := (some .int)) (by decide) rfl ?_
  intro p e s m args below meth c s₁ B hml hv
  obtain ⟨rfl, hsz, ⟨hP, hK⟩, hD0⟩ := hv
  have hx := B.exec
  have hb := B.bytes
  have hr := B.returns
  have hts := atoms_spec (ws := wsX3_setCalendar) B.pre
  have hown : s.vm.findClass RX3 = some m.cls := findClass_of_methodNamed B.named
  have hlocks := B.notSynchronized
  have F : CallFix p m c cX3_setCalendar 6 s _ wsX3_setCalendar RX3 := ⟨hx, hb, hml, hown, hts⟩
  subst hsz
  have hD := hD0.self (sz := s.heap.size)
  generalize hAe : va_A (zw 19 bd (cM k bd M O th)) s.heap.size = A at hD ⊢
  have hA : ∀ q : Nat, s.heap.size ≤ q → A q := fun q h => by rw [← hAe]; exact Or.inr h
  have hS : va_S A s.heap s.heap [] := va_S.rf
  have hl := lv_entry ([.ref (bd 0), .int p0, .int p1, .int p2, .int p3]) (n := 6) (Nat.le_of_ble_eq_true rfl)
  rw [lg_entry_eq]
  generalize (lg_sl ([.ref (bd 0), .int p0, .int p1, .int p2, .int p3]) ++ List.replicate (6 - (lg_sl ([.ref (bd 0), .int p0, .int p1, .int p2, .int p3])).length) Slot.unset).toArray = ls at hl ⊢
  have hl : lv_has ls 6 [(0, .ref (bd 0)), (1, .int p0), (2, .int p1), (3, .int p2), (4, .int p3)] := hl
  have hi3 : ∀ w ∈ u_ws RX3 TX3 21, w ∈ wsX3_setCalendar := by decide +kernel
  obtain ⟨hI1, hI2, hI3, hI4, hI5, hI6, hI7⟩ := id hI
  refine lv_aload_n hx hb dX3_setCalendar_0 rfl (lv_at hl 0 rfl) ?_
  refine lv_iload_n hx hb dX3_setCalendar_1 rfl (lv_at hl 1 rfl) ?_
  refine z_cS (As := [.int p0]) (rest := [.ref (bd 0)]) F (c_X3_isSite l p0) (va_cwS 1 hts gX3_setCalendar_X3_isSite rfl rfl rfl (by decide +kernel) ⟨Nat.le_of_ble_eq_true rfl, Nat.le_of_ble_eq_true rfl⟩) rfl hl.1 rfl (Nat.le_of_ble_eq_true rfl) dX3_setCalendar_2 ⟨Nat.le_of_ble_eq_true rfl, Nat.le_of_ble_eq_true rfl⟩ (fun r hr => ?_)
  subst hr
  refine lv_iload_n hx hb dX3_setCalendar_5 rfl (lv_at hl 2 rfl) ?_
  refine lv_iconst (v := nI 0) hx hb dX3_setCalendar_6 (by decide) ?_
  refine lv_bipush (v := nI 127) hx hb dX3_setCalendar_7 (by decide) ?_
  refine z_cS (As := [.int p1, .int (nI 0), .int (nI 127)]) (rest := [.int (bI (zI 4 p0)), .ref (bd 0)]) F (c_X3_in l p1 (nI 0) (nI 127)) (va_cwS 3 hts gX3_setCalendar_X3_in rfl rfl rfl (by decide +kernel) ⟨Nat.le_of_ble_eq_true rfl, Nat.le_of_ble_eq_true rfl⟩) rfl hl.1 rfl (Nat.le_of_ble_eq_true rfl) dX3_setCalendar_9 ⟨Nat.le_of_ble_eq_true rfl, Nat.le_of_ble_eq_true rfl⟩ (fun r hr => ?_)
  subst hr
  refine z_ifb_eq (tgt := 40) F dX3_setCalendar_12 (by decide) (fun c5 => ?_) (fun c5 => ?_)
  · refine lv_iconst (v := nI 0) hx hb dX3_setCalendar_40 (by decide) ?_
    refine z_top (show nI 0 = bI ((nI 0 ≤ p1 ∧ p1 ≤ nI 127) ∧ (nI 0 ≤ p2 ∧ p2 ≤ nI 23) ∧ (p2 ≤ p3 ∧ p3 ≤ nI 23)) from (bI_f (fun zz1 => by have zz2 := zz1.1; first | exact c5 zz2 | omega)).symm) ?_
    refine z_mV (qc := (RX3, TX3, 21)) (As := [.int (bI (zI 4 p0)), .int (bI ((nI 0 ≤ p1 ∧ p1 ≤ nI 127) ∧ (nI 0 ≤ p2 ∧ p2 ≤ nI 23) ∧ (p2 ≤ p3 ∧ p3 ≤ nI 23)))]) (rest := []) (0) F (c_X3_asked_ l D k bd M O th _ (zI 4 p0) ((nI 0 ≤ p1 ∧ p1 ≤ nI 127) ∧ (nI 0 ≤ p2 ∧ p2 ≤ nI 23) ∧ (p2 ≤ p3 ∧ p3 ≤ nI 23))) (cwV 2 hts gX3_setCalendar_X3_asked_ rfl rfl rfl (by decide +kernel) ⟨Nat.le_of_ble_eq_true rfl, Nat.le_of_ble_eq_true rfl⟩) hK hP hD hS hA (by omega) cM_0 rfl rfl hl.1 rfl (Nat.le_of_ble_eq_true rfl) dX3_setCalendar_41 ⟨Nat.le_of_ble_eq_true rfl, Nat.le_of_ble_eq_true rfl⟩ (fun r H locs hr0 hP hD hS => ?_)
    subst hr0
    refine z_ifb_ne (tgt := 49) F dX3_setCalendar_44 (by decide) (fun c6 => ?_) (fun c6 => ?_)
    · obtain ⟨i, hi, rfl⟩ := id (c6.1)
      try rw [ix_nI (show i < 2 ^ 31 by omega)]
      obtain ⟨b1, hb10, hb1, rfl⟩ := (zB_iff (by omega) (by decide)).mp (c6.2.1)
      try rw [ix_nI (show b1 < 2 ^ 31 by omega)]
      obtain ⟨b2, hb20, hb2, rfl⟩ := (zB_iff (by omega) (by decide)).mp (c6.2.2.1)
      try rw [ix_nI (show b2 < 2 ^ 31 by omega)]
      obtain ⟨b3, hb30, hb3, rfl⟩ := (zB_iff (by omega) (by decide)).mp (c6.2.2.2)
      try rw [ix_nI (show b3 < 2 ^ 31 by omega)]
      refine lv_aload_n hx hb dX3_setCalendar_49 rfl (lv_at hl 0 rfl) ?_
      refine z_get (C := RX3) (T := TX3) (N := 21) (ci := 3) (fs := mObj bd M (nI (y2 (zI 4 (nI i)) ((nI 0 ≤ (nI b1) ∧ (nI b1) ≤ nI 127) ∧ (nI 0 ≤ (nI b2) ∧ (nI b2) ≤ nI 23) ∧ ((nI b2) ≤ (nI b3) ∧ (nI b3) ≤ nI 23))))) (v := .ref (bd 1)) F hK hP hi3 rfl (0) 1 (by omega) cM_0 (by decide) rfl (by decide +kernel) dX3_setCalendar_50 ?_
      refine lv_iload_n hx hb dX3_setCalendar_53 rfl (lv_at hl 1 rfl) ?_
      refine z_iald (v := nI (M 1 i)) (cA := k 0) (len := 4) (g := mA M O 1) F hK hP (1) 0 (by omega) rfl rfl (i := nI i) i rfl hi (by decide) rfl dX3_setCalendar_54 ?_
      refine lv_istore (lv' := [(5, .int (nI (M 1 i))), (0, .ref (bd 0)), (1, .int (nI i)), (2, .int (nI b1)), (3, .int (nI b2)), (4, .int (nI b3))]) hx hb dX3_setCalendar_55 hl (by decide) rfl (fun ls hl => ?_)
      refine lv_aload_n hx hb dX3_setCalendar_57 rfl (lv_at hl 1 rfl) ?_
      refine z_get (C := RX3) (T := TX3) (N := 21) (ci := 3) (fs := mObj bd M (nI (y2 (zI 4 (nI i)) ((nI 0 ≤ (nI b1) ∧ (nI b1) ≤ nI 127) ∧ (nI 0 ≤ (nI b2) ∧ (nI b2) ≤ nI 23) ∧ ((nI b2) ≤ (nI b3) ∧ (nI b3) ≤ nI 23))))) (v := .ref (bd 1)) F hK hP hi3 rfl (0) 1 (by omega) cM_0 (by decide) rfl (by decide +kernel) dX3_setCalendar_58 ?_
      refine lv_iload_n hx hb dX3_setCalendar_61 rfl (lv_at hl 2 rfl) ?_
      refine lv_iload_n hx hb dX3_setCalendar_62 rfl (lv_at hl 3 rfl) ?_
      refine z_iast (f' := (cM k bd (zu M 1 i b1) O (nI (y2 (zI 4 (nI i)) ((nI 0 ≤ (nI b1) ∧ (nI b1) ≤ nI 127) ∧ (nI 0 ≤ (nI b2) ∧ (nI b2) ≤ nI 23) ∧ ((nI b2) ≤ (nI b3) ∧ (nI b3) ≤ nI 23)))))) (cA := k 0) (len := 4) (g := mA M O 1) F hK hP hD hS (1) 0 (by omega) rfl rfl (i := nI i) i rfl hi (by decide) (cM_urow 1 (by decide) (by decide) (by decide) (by decide) (by decide) _ _) dX3_setCalendar_63 (fun H locs hP hD hS => ?_)
      refine lv_aload_n hx hb dX3_setCalendar_64 rfl (lv_at hl 1 rfl) ?_
      refine z_get (C := RX3) (T := TX3) (N := 21) (ci := 3) (fs := mObj bd (zu M 1 i b1) (nI (y2 (zI 4 (nI i)) ((nI 0 ≤ (nI b1) ∧ (nI b1) ≤ nI 127) ∧ (nI 0 ≤ (nI b2) ∧ (nI b2) ≤ nI 23) ∧ ((nI b2) ≤ (nI b3) ∧ (nI b3) ≤ nI 23))))) (v := .ref (bd 2)) F hK hP hi3 rfl (0) 2 (by omega) cM_0 (by decide) rfl (by decide +kernel) dX3_setCalendar_65 ?_
      refine lv_iload_n hx hb dX3_setCalendar_68 rfl (lv_at hl 2 rfl) ?_
      refine lv_iload_n hx hb dX3_setCalendar_69 rfl (lv_at hl 4 rfl) ?_
      refine z_iast (f' := (cM k bd (zu (zu M 1 i b1) 2 i b2) O (nI (y2 (zI 4 (nI i)) ((nI 0 ≤ (nI b1) ∧ (nI b1) ≤ nI 127) ∧ (nI 0 ≤ (nI b2) ∧ (nI b2) ≤ nI 23) ∧ ((nI b2) ≤ (nI b3) ∧ (nI b3) ≤ nI 23)))))) (cA := k 0) (len := 4) (g := mA (zu M 1 i b1) O 2) F hK hP hD hS (2) 0 (by omega) rfl rfl (i := nI i) i rfl hi (by decide) (cM_urow 2 (by decide) (by decide) (by decide) (by decide) (by decide) _ _) dX3_setCalendar_70 (fun H locs hP hD hS => ?_)
      refine lv_aload_n hx hb dX3_setCalendar_71 rfl (lv_at hl 1 rfl) ?_
      refine z_get (C := RX3) (T := TX3) (N := 21) (ci := 3) (fs := mObj bd (zu (zu M 1 i b1) 2 i b2) (nI (y2 (zI 4 (nI i)) ((nI 0 ≤ (nI b1) ∧ (nI b1) ≤ nI 127) ∧ (nI 0 ≤ (nI b2) ∧ (nI b2) ≤ nI 23) ∧ ((nI b2) ≤ (nI b3) ∧ (nI b3) ≤ nI 23))))) (v := .ref (bd 3)) F hK hP hi3 rfl (0) 3 (by omega) cM_0 (by decide) rfl (by decide +kernel) dX3_setCalendar_72 ?_
      refine lv_iload_n hx hb dX3_setCalendar_75 rfl (lv_at hl 2 rfl) ?_
      refine lv_iload hx hb dX3_setCalendar_76 (lv_at hl 5 rfl) ?_
      refine z_iast (f' := (cM k bd (zu (zu (zu M 1 i b1) 2 i b2) 3 i b3) O (nI (y2 (zI 4 (nI i)) ((nI 0 ≤ (nI b1) ∧ (nI b1) ≤ nI 127) ∧ (nI 0 ≤ (nI b2) ∧ (nI b2) ≤ nI 23) ∧ ((nI b2) ≤ (nI b3) ∧ (nI b3) ≤ nI 23)))))) (cA := k 0) (len := 4) (g := mA (zu (zu M 1 i b1) 2 i b2) O 3) F hK hP hD hS (3) 0 (by omega) rfl rfl (i := nI i) i rfl hi (by decide) (cM_urow 3 (by decide) (by decide) (by decide) (by decide) (by decide) _ _) dX3_setCalendar_78 (fun H locs hP hD hS => ?_)
      refine lv_iload hx hb dX3_setCalendar_79 (lv_at hl 0 rfl) ?_
      have hx0 : (x3 (zI 4 (nI i)) ((nI 0 ≤ (nI b1) ∧ (nI b1) ≤ nI 127) ∧ (nI 0 ≤ (nI b2) ∧ (nI b2) ≤ nI 23) ∧ ((nI b2) ≤ (nI b3) ∧ (nI b3) ≤ nI 23)) (True)) = 0 := x3_0 c6.1 c6.2 trivial
      have eW : cM k bd (if (x3 (zI 4 (nI i)) ((nI 0 ≤ (nI b1) ∧ (nI b1) ≤ nI 127) ∧ (nI 0 ≤ (nI b2) ∧ (nI b2) ≤ nI 23) ∧ ((nI b2) ≤ (nI b3) ∧ (nI b3) ≤ nI 23)) (True)) = 0 then (zu (zu (zu M 1 (i) (b1)) 2 (i) (b2)) 3 (i) (b3)) else M) O (nI ((x3 (zI 4 (nI i)) ((nI 0 ≤ (nI b1) ∧ (nI b1) ≤ nI 127) ∧ (nI 0 ≤ (nI b2) ∧ (nI b2) ≤ nI 23) ∧ ((nI b2) ≤ (nI b3) ∧ (nI b3) ≤ nI 23)) (True)))) = cM k bd (zu (zu (zu M 1 i b1) 2 i b2) 3 i b3) O (nI (y2 (zI 4 (nI i)) ((nI 0 ≤ (nI b1) ∧ (nI b1) ≤ nI 127) ∧ (nI 0 ≤ (nI b2) ∧ (nI b2) ≤ nI 23) ∧ ((nI b2) ≤ (nI b3) ∧ (nI b3) ≤ nI 23)))) := by rw [if_pos hx0, ← y2_ab] <;> rfl
      rw [← eW] at hP hD
      refine W.widen (k := 0) (n := 0) (Nat.le_of_ble_eq_true rfl) (Nat.le_of_ble_eq_true rfl) ?_
      exact W.iret (v := nI (M 1 i)) hx hb hr (fun t ht hW => ⟨⟨nI (M 1 i), (), rfl, fun _ => rfl, ⟨by rw [ht]; exact hP, va_K.moved hW.alike hK⟩, hD⟩, hS.F ht⟩) hS.2.2 dX3_setCalendar_81
    · refine lv_iconst (v := nI 0) hx hb dX3_setCalendar_47 (by decide) ?_
      have hx0 : (x3 (zI 4 p0) ((nI 0 ≤ p1 ∧ p1 ≤ nI 127) ∧ (nI 0 ≤ p2 ∧ p2 ≤ nI 23) ∧ (p2 ≤ p3 ∧ p3 ≤ nI 23)) (True)) ≠ 0 := x3_no (fun zz1 => c6 ⟨zz1.1, zz1.2.1⟩)
      have eW : cM k bd (if (x3 (zI 4 p0) ((nI 0 ≤ p1 ∧ p1 ≤ nI 127) ∧ (nI 0 ≤ p2 ∧ p2 ≤ nI 23) ∧ (p2 ≤ p3 ∧ p3 ≤ nI 23)) (True)) = 0 then (zu (zu (zu M 1 (ix p0) (ix p1)) 2 (ix p0) (ix p2)) 3 (ix p0) (ix p3)) else M) O (nI ((x3 (zI 4 p0) ((nI 0 ≤ p1 ∧ p1 ≤ nI 127) ∧ (nI 0 ≤ p2 ∧ p2 ≤ nI 23) ∧ (p2 ≤ p3 ∧ p3 ≤ nI 23)) (True)))) = cM k bd M O (nI (y2 (zI 4 p0) ((nI 0 ≤ p1 ∧ p1 ≤ nI 127) ∧ (nI 0 ≤ p2 ∧ p2 ≤ nI 23) ∧ (p2 ≤ p3 ∧ p3 ≤ nI 23)))) := by rw [if_neg hx0, ← y2_ab] <;> rfl
      rw [← eW] at hP hD
      refine W.widen (k := 0) (n := 0) (Nat.le_of_ble_eq_true rfl) (Nat.le_of_ble_eq_true rfl) ?_
      exact W.iret (v := nI 0) hx hb hr (fun t ht hW => ⟨⟨nI 0, (), rfl, fun zz1 => absurd zz1 hx0, ⟨by rw [ht]; exact hP, va_K.moved hW.alike hK⟩, hD⟩, hS.F ht⟩) hS.2.2 dX3_setCalendar_48
  · refine lv_iload_n hx hb dX3_setCalendar_15 rfl (lv_at hl 3 rfl) ?_
    refine lv_iconst (v := nI 0) hx hb dX3_setCalendar_16 (by decide) ?_
    refine lv_bipush (v := nI 23) hx hb dX3_setCalendar_17 (by decide) ?_
    refine z_cS (As := [.int p2, .int (nI 0), .int (nI 23)]) (rest := [.int (bI (zI 4 p0)), .ref (bd 0)]) F (c_X3_in l p2 (nI 0) (nI 23)) (va_cwS 3 hts gX3_setCalendar_X3_in rfl rfl rfl (by decide +kernel) ⟨Nat.le_of_ble_eq_true rfl, Nat.le_of_ble_eq_true rfl⟩) rfl hl.1 rfl (Nat.le_of_ble_eq_true rfl) dX3_setCalendar_19 ⟨Nat.le_of_ble_eq_true rfl, Nat.le_of_ble_eq_true rfl⟩ (fun r hr => ?_)
    subst hr
    refine z_ifb_eq (tgt := 40) F dX3_setCalendar_22 (by decide) (fun c7 => ?_) (fun c7 => ?_)
    · refine lv_iconst (v := nI 0) hx hb dX3_setCalendar_40 (by decide) ?_
      refine z_top (show nI 0 = bI ((nI 0 ≤ p1 ∧ p1 ≤ nI 127) ∧ (nI 0 ≤ p2 ∧ p2 ≤ nI 23) ∧ (p2 ≤ p3 ∧ p3 ≤ nI 23)) from (bI_f (fun zz1 => by have zz2 := zz1.2.1; first | exact c7 zz2 | omega)).symm) ?_
      refine z_mV (qc := (RX3, TX3, 21)) (As := [.int (bI (zI 4 p0)), .int (bI ((nI 0 ≤ p1 ∧ p1 ≤ nI 127) ∧ (nI 0 ≤ p2 ∧ p2 ≤ nI 23) ∧ (p2 ≤ p3 ∧ p3 ≤ nI 23)))]) (rest := []) (0) F (c_X3_asked_ l D k bd M O th _ (zI 4 p0) ((nI 0 ≤ p1 ∧ p1 ≤ nI 127) ∧ (nI 0 ≤ p2 ∧ p2 ≤ nI 23) ∧ (p2 ≤ p3 ∧ p3 ≤ nI 23))) (cwV 2 hts gX3_setCalendar_X3_asked_ rfl rfl rfl (by decide +kernel) ⟨Nat.le_of_ble_eq_true rfl, Nat.le_of_ble_eq_true rfl⟩) hK hP hD hS hA (by omega) cM_0 rfl rfl hl.1 rfl (Nat.le_of_ble_eq_true rfl) dX3_setCalendar_41 ⟨Nat.le_of_ble_eq_true rfl, Nat.le_of_ble_eq_true rfl⟩ (fun r H locs hr0 hP hD hS => ?_)
      subst hr0
      refine z_ifb_ne (tgt := 49) F dX3_setCalendar_44 (by decide) (fun c8 => ?_) (fun c8 => ?_)
      · obtain ⟨i, hi, rfl⟩ := id (c8.1)
        try rw [ix_nI (show i < 2 ^ 31 by omega)]
        obtain ⟨b1, hb10, hb1, rfl⟩ := (zB_iff (by omega) (by decide)).mp (c8.2.1)
        try rw [ix_nI (show b1 < 2 ^ 31 by omega)]
        obtain ⟨b2, hb20, hb2, rfl⟩ := (zB_iff (by omega) (by decide)).mp (c8.2.2.1)
        try rw [ix_nI (show b2 < 2 ^ 31 by omega)]
        obtain ⟨b3, hb30, hb3, rfl⟩ := (zB_iff (by omega) (by decide)).mp (c8.2.2.2)
        try rw [ix_nI (show b3 < 2 ^ 31 by omega)]
        refine lv_aload_n hx hb dX3_setCalendar_49 rfl (lv_at hl 0 rfl) ?_
        refine z_get (C := RX3) (T := TX3) (N := 21) (ci := 3) (fs := mObj bd M (nI (y2 (zI 4 (nI i)) ((nI 0 ≤ (nI b1) ∧ (nI b1) ≤ nI 127) ∧ (nI 0 ≤ (nI b2) ∧ (nI b2) ≤ nI 23) ∧ ((nI b2) ≤ (nI b3) ∧ (nI b3) ≤ nI 23))))) (v := .ref (bd 1)) F hK hP hi3 rfl (0) 1 (by omega) cM_0 (by decide) rfl (by decide +kernel) dX3_setCalendar_50 ?_
        refine lv_iload_n hx hb dX3_setCalendar_53 rfl (lv_at hl 1 rfl) ?_
        refine z_iald (v := nI (M 1 i)) (cA := k 0) (len := 4) (g := mA M O 1) F hK hP (1) 0 (by omega) rfl rfl (i := nI i) i rfl hi (by decide) rfl dX3_setCalendar_54 ?_
        refine lv_istore (lv' := [(5, .int (nI (M 1 i))), (0, .ref (bd 0)), (1, .int (nI i)), (2, .int (nI b1)), (3, .int (nI b2)), (4, .int (nI b3))]) hx hb dX3_setCalendar_55 hl (by decide) rfl (fun ls hl => ?_)
        refine lv_aload_n hx hb dX3_setCalendar_57 rfl (lv_at hl 1 rfl) ?_
        refine z_get (C := RX3) (T := TX3) (N := 21) (ci := 3) (fs := mObj bd M (nI (y2 (zI 4 (nI i)) ((nI 0 ≤ (nI b1) ∧ (nI b1) ≤ nI 127) ∧ (nI 0 ≤ (nI b2) ∧ (nI b2) ≤ nI 23) ∧ ((nI b2) ≤ (nI b3) ∧ (nI b3) ≤ nI 23))))) (v := .ref (bd 1)) F hK hP hi3 rfl (0) 1 (by omega) cM_0 (by decide) rfl (by decide +kernel) dX3_setCalendar_58 ?_
        refine lv_iload_n hx hb dX3_setCalendar_61 rfl (lv_at hl 2 rfl) ?_
        refine lv_iload_n hx hb dX3_setCalendar_62 rfl (lv_at hl 3 rfl) ?_
        refine z_iast (f' := (cM k bd (zu M 1 i b1) O (nI (y2 (zI 4 (nI i)) ((nI 0 ≤ (nI b1) ∧ (nI b1) ≤ nI 127) ∧ (nI 0 ≤ (nI b2) ∧ (nI b2) ≤ nI 23) ∧ ((nI b2) ≤ (nI b3) ∧ (nI b3) ≤ nI 23)))))) (cA := k 0) (len := 4) (g := mA M O 1) F hK hP hD hS (1) 0 (by omega) rfl rfl (i := nI i) i rfl hi (by decide) (cM_urow 1 (by decide) (by decide) (by decide) (by decide) (by decide) _ _) dX3_setCalendar_63 (fun H locs hP hD hS => ?_)
        refine lv_aload_n hx hb dX3_setCalendar_64 rfl (lv_at hl 1 rfl) ?_
        refine z_get (C := RX3) (T := TX3) (N := 21) (ci := 3) (fs := mObj bd (zu M 1 i b1) (nI (y2 (zI 4 (nI i)) ((nI 0 ≤ (nI b1) ∧ (nI b1) ≤ nI 127) ∧ (nI 0 ≤ (nI b2) ∧ (nI b2) ≤ nI 23) ∧ ((nI b2) ≤ (nI b3) ∧ (nI b3) ≤ nI 23))))) (v := .ref (bd 2)) F hK hP hi3 rfl (0) 2 (by omega) cM_0 (by decide) rfl (by decide +kernel) dX3_setCalendar_65 ?_
        refine lv_iload_n hx hb dX3_setCalendar_68 rfl (lv_at hl 2 rfl) ?_
        refine lv_iload_n hx hb dX3_setCalendar_69 rfl (lv_at hl 4 rfl) ?_
        refine z_iast (f' := (cM k bd (zu (zu M 1 i b1) 2 i b2) O (nI (y2 (zI 4 (nI i)) ((nI 0 ≤ (nI b1) ∧ (nI b1) ≤ nI 127) ∧ (nI 0 ≤ (nI b2) ∧ (nI b2) ≤ nI 23) ∧ ((nI b2) ≤ (nI b3) ∧ (nI b3) ≤ nI 23)))))) (cA := k 0) (len := 4) (g := mA (zu M 1 i b1) O 2) F hK hP hD hS (2) 0 (by omega) rfl rfl (i := nI i) i rfl hi (by decide) (cM_urow 2 (by decide) (by decide) (by decide) (by decide) (by decide) _ _) dX3_setCalendar_70 (fun H locs hP hD hS => ?_)
        refine lv_aload_n hx hb dX3_setCalendar_71 rfl (lv_at hl 1 rfl) ?_
        refine z_get (C := RX3) (T := TX3) (N := 21) (ci := 3) (fs := mObj bd (zu (zu M 1 i b1) 2 i b2) (nI (y2 (zI 4 (nI i)) ((nI 0 ≤ (nI b1) ∧ (nI b1) ≤ nI 127) ∧ (nI 0 ≤ (nI b2) ∧ (nI b2) ≤ nI 23) ∧ ((nI b2) ≤ (nI b3) ∧ (nI b3) ≤ nI 23))))) (v := .ref (bd 3)) F hK hP hi3 rfl (0) 3 (by omega) cM_0 (by decide) rfl (by decide +kernel) dX3_setCalendar_72 ?_
        refine lv_iload_n hx hb dX3_setCalendar_75 rfl (lv_at hl 2 rfl) ?_
        refine lv_iload hx hb dX3_setCalendar_76 (lv_at hl 5 rfl) ?_
        refine z_iast (f' := (cM k bd (zu (zu (zu M 1 i b1) 2 i b2) 3 i b3) O (nI (y2 (zI 4 (nI i)) ((nI 0 ≤ (nI b1) ∧ (nI b1) ≤ nI 127) ∧ (nI 0 ≤ (nI b2) ∧ (nI b2) ≤ nI 23) ∧ ((nI b2) ≤ (nI b3) ∧ (nI b3) ≤ nI 23)))))) (cA := k 0) (len := 4) (g := mA (zu (zu M 1 i b1) 2 i b2) O 3) F hK hP hD hS (3) 0 (by omega) rfl rfl (i := nI i) i rfl hi (by decide) (cM_urow 3 (by decide) (by decide) (by decide) (by decide) (by decide) _ _) dX3_setCalendar_78 (fun H locs hP hD hS => ?_)
        refine lv_iload hx hb dX3_setCalendar_79 (lv_at hl 0 rfl) ?_
        have hx0 : (x3 (zI 4 (nI i)) ((nI 0 ≤ (nI b1) ∧ (nI b1) ≤ nI 127) ∧ (nI 0 ≤ (nI b2) ∧ (nI b2) ≤ nI 23) ∧ ((nI b2) ≤ (nI b3) ∧ (nI b3) ≤ nI 23)) (True)) = 0 := x3_0 c8.1 c8.2 trivial
        have eW : cM k bd (if (x3 (zI 4 (nI i)) ((nI 0 ≤ (nI b1) ∧ (nI b1) ≤ nI 127) ∧ (nI 0 ≤ (nI b2) ∧ (nI b2) ≤ nI 23) ∧ ((nI b2) ≤ (nI b3) ∧ (nI b3) ≤ nI 23)) (True)) = 0 then (zu (zu (zu M 1 (i) (b1)) 2 (i) (b2)) 3 (i) (b3)) else M) O (nI ((x3 (zI 4 (nI i)) ((nI 0 ≤ (nI b1) ∧ (nI b1) ≤ nI 127) ∧ (nI 0 ≤ (nI b2) ∧ (nI b2) ≤ nI 23) ∧ ((nI b2) ≤ (nI b3) ∧ (nI b3) ≤ nI 23)) (True)))) = cM k bd (zu (zu (zu M 1 i b1) 2 i b2) 3 i b3) O (nI (y2 (zI 4 (nI i)) ((nI 0 ≤ (nI b1) ∧ (nI b1) ≤ nI 127) ∧ (nI 0 ≤ (nI b2) ∧ (nI b2) ≤ nI 23) ∧ ((nI b2) ≤ (nI b3) ∧ (nI b3) ≤ nI 23)))) := by rw [if_pos hx0, ← y2_ab] <;> rfl
        rw [← eW] at hP hD
        refine W.widen (k := 0) (n := 0) (Nat.le_of_ble_eq_true rfl) (Nat.le_of_ble_eq_true rfl) ?_
        exact W.iret (v := nI (M 1 i)) hx hb hr (fun t ht hW => ⟨⟨nI (M 1 i), (), rfl, fun _ => rfl, ⟨by rw [ht]; exact hP, va_K.moved hW.alike hK⟩, hD⟩, hS.F ht⟩) hS.2.2 dX3_setCalendar_81
      · refine lv_iconst (v := nI 0) hx hb dX3_setCalendar_47 (by decide) ?_
        have hx0 : (x3 (zI 4 p0) ((nI 0 ≤ p1 ∧ p1 ≤ nI 127) ∧ (nI 0 ≤ p2 ∧ p2 ≤ nI 23) ∧ (p2 ≤ p3 ∧ p3 ≤ nI 23)) (True)) ≠ 0 := x3_no (fun zz1 => c8 ⟨zz1.1, zz1.2.1⟩)
        have eW : cM k bd (if (x3 (zI 4 p0) ((nI 0 ≤ p1 ∧ p1 ≤ nI 127) ∧ (nI 0 ≤ p2 ∧ p2 ≤ nI 23) ∧ (p2 ≤ p3 ∧ p3 ≤ nI 23)) (True)) = 0 then (zu (zu (zu M 1 (ix p0) (ix p1)) 2 (ix p0) (ix p2)) 3 (ix p0) (ix p3)) else M) O (nI ((x3 (zI 4 p0) ((nI 0 ≤ p1 ∧ p1 ≤ nI 127) ∧ (nI 0 ≤ p2 ∧ p2 ≤ nI 23) ∧ (p2 ≤ p3 ∧ p3 ≤ nI 23)) (True)))) = cM k bd M O (nI (y2 (zI 4 p0) ((nI 0 ≤ p1 ∧ p1 ≤ nI 127) ∧ (nI 0 ≤ p2 ∧ p2 ≤ nI 23) ∧ (p2 ≤ p3 ∧ p3 ≤ nI 23)))) := by rw [if_neg hx0, ← y2_ab] <;> rfl
        rw [← eW] at hP hD
        refine W.widen (k := 0) (n := 0) (Nat.le_of_ble_eq_true rfl) (Nat.le_of_ble_eq_true rfl) ?_
        exact W.iret (v := nI 0) hx hb hr (fun t ht hW => ⟨⟨nI 0, (), rfl, fun zz1 => absurd zz1 hx0, ⟨by rw [ht]; exact hP, va_K.moved hW.alike hK⟩, hD⟩, hS.F ht⟩) hS.2.2 dX3_setCalendar_48
    · refine lv_iload hx hb dX3_setCalendar_25 (lv_at hl 4 rfl) ?_
      refine lv_iload_n hx hb dX3_setCalendar_27 rfl (lv_at hl 3 rfl) ?_
      refine lv_bipush (v := nI 23) hx hb dX3_setCalendar_28 (by decide) ?_
      refine z_cS (As := [.int p3, .int p2, .int (nI 23)]) (rest := [.int (bI (zI 4 p0)), .ref (bd 0)]) F (c_X3_in l p3 p2 (nI 23)) (va_cwS 3 hts gX3_setCalendar_X3_in rfl rfl rfl (by decide +kernel) ⟨Nat.le_of_ble_eq_true rfl, Nat.le_of_ble_eq_true rfl⟩) rfl hl.1 rfl (Nat.le_of_ble_eq_true rfl) dX3_setCalendar_30 ⟨Nat.le_of_ble_eq_true rfl, Nat.le_of_ble_eq_true rfl⟩ (fun r hr => ?_)
      subst hr
      refine z_ifb_eq (tgt := 40) F dX3_setCalendar_33 (by decide) (fun c9 => ?_) (fun c9 => ?_)
      · refine lv_iconst (v := nI 0) hx hb dX3_setCalendar_40 (by decide) ?_
        refine z_top (show nI 0 = bI ((nI 0 ≤ p1 ∧ p1 ≤ nI 127) ∧ (nI 0 ≤ p2 ∧ p2 ≤ nI 23) ∧ (p2 ≤ p3 ∧ p3 ≤ nI 23)) from (bI_f (fun zz1 => by have zz2 := zz1.2.2; first | exact c9 zz2 | omega)).symm) ?_
        refine z_mV (qc := (RX3, TX3, 21)) (As := [.int (bI (zI 4 p0)), .int (bI ((nI 0 ≤ p1 ∧ p1 ≤ nI 127) ∧ (nI 0 ≤ p2 ∧ p2 ≤ nI 23) ∧ (p2 ≤ p3 ∧ p3 ≤ nI 23)))]) (rest := []) (0) F (c_X3_asked_ l D k bd M O th _ (zI 4 p0) ((nI 0 ≤ p1 ∧ p1 ≤ nI 127) ∧ (nI 0 ≤ p2 ∧ p2 ≤ nI 23) ∧ (p2 ≤ p3 ∧ p3 ≤ nI 23))) (cwV 2 hts gX3_setCalendar_X3_asked_ rfl rfl rfl (by decide +kernel) ⟨Nat.le_of_ble_eq_true rfl, Nat.le_of_ble_eq_true rfl⟩) hK hP hD hS hA (by omega) cM_0 rfl rfl hl.1 rfl (Nat.le_of_ble_eq_true rfl) dX3_setCalendar_41 ⟨Nat.le_of_ble_eq_true rfl, Nat.le_of_ble_eq_true rfl⟩ (fun r H locs hr0 hP hD hS => ?_)
        subst hr0
        refine z_ifb_ne (tgt := 49) F dX3_setCalendar_44 (by decide) (fun c10 => ?_) (fun c10 => ?_)
        · obtain ⟨i, hi, rfl⟩ := id (c10.1)
          try rw [ix_nI (show i < 2 ^ 31 by omega)]
          obtain ⟨b1, hb10, hb1, rfl⟩ := (zB_iff (by omega) (by decide)).mp (c10.2.1)
          try rw [ix_nI (show b1 < 2 ^ 31 by omega)]
          obtain ⟨b2, hb20, hb2, rfl⟩ := (zB_iff (by omega) (by decide)).mp (c10.2.2.1)
          try rw [ix_nI (show b2 < 2 ^ 31 by omega)]
          obtain ⟨b3, hb30, hb3, rfl⟩ := (zB_iff (by omega) (by decide)).mp (c10.2.2.2)
          try rw [ix_nI (show b3 < 2 ^ 31 by omega)]
          refine lv_aload_n hx hb dX3_setCalendar_49 rfl (lv_at hl 0 rfl) ?_
          refine z_get (C := RX3) (T := TX3) (N := 21) (ci := 3) (fs := mObj bd M (nI (y2 (zI 4 (nI i)) ((nI 0 ≤ (nI b1) ∧ (nI b1) ≤ nI 127) ∧ (nI 0 ≤ (nI b2) ∧ (nI b2) ≤ nI 23) ∧ ((nI b2) ≤ (nI b3) ∧ (nI b3) ≤ nI 23))))) (v := .ref (bd 1)) F hK hP hi3 rfl (0) 1 (by omega) cM_0 (by decide) rfl (by decide +kernel) dX3_setCalendar_50 ?_
          refine lv_iload_n hx hb dX3_setCalendar_53 rfl (lv_at hl 1 rfl) ?_
          refine z_iald (v := nI (M 1 i)) (cA := k 0) (len := 4) (g := mA M O 1) F hK hP (1) 0 (by omega) rfl rfl (i := nI i) i rfl hi (by decide) rfl dX3_setCalendar_54 ?_
          refine lv_istore (lv' := [(5, .int (nI (M 1 i))), (0, .ref (bd 0)), (1, .int (nI i)), (2, .int (nI b1)), (3, .int (nI b2)), (4, .int (nI b3))]) hx hb dX3_setCalendar_55 hl (by decide) rfl (fun ls hl => ?_)
          refine lv_aload_n hx hb dX3_setCalendar_57 rfl (lv_at hl 1 rfl) ?_
          refine z_get (C := RX3) (T := TX3) (N := 21) (ci := 3) (fs := mObj bd M (nI (y2 (zI 4 (nI i)) ((nI 0 ≤ (nI b1) ∧ (nI b1) ≤ nI 127) ∧ (nI 0 ≤ (nI b2) ∧ (nI b2) ≤ nI 23) ∧ ((nI b2) ≤ (nI b3) ∧ (nI b3) ≤ nI 23))))) (v := .ref (bd 1)) F hK hP hi3 rfl (0) 1 (by omega) cM_0 (by decide) rfl (by decide +kernel) dX3_setCalendar_58 ?_
          refine lv_iload_n hx hb dX3_setCalendar_61 rfl (lv_at hl 2 rfl) ?_
          refine lv_iload_n hx hb dX3_setCalendar_62 rfl (lv_at hl 3 rfl) ?_
          refine z_iast (f' := (cM k bd (zu M 1 i b1) O (nI (y2 (zI 4 (nI i)) ((nI 0 ≤ (nI b1) ∧ (nI b1) ≤ nI 127) ∧ (nI 0 ≤ (nI b2) ∧ (nI b2) ≤ nI 23) ∧ ((nI b2) ≤ (nI b3) ∧ (nI b3) ≤ nI 23)))))) (cA := k 0) (len := 4) (g := mA M O 1) F hK hP hD hS (1) 0 (by omega) rfl rfl (i := nI i) i rfl hi (by decide) (cM_urow 1 (by decide) (by decide) (by decide) (by decide) (by decide) _ _) dX3_setCalendar_63 (fun H locs hP hD hS => ?_)
          refine lv_aload_n hx hb dX3_setCalendar_64 rfl (lv_at hl 1 rfl) ?_
          refine z_get (C := RX3) (T := TX3) (N := 21) (ci := 3) (fs := mObj bd (zu M 1 i b1) (nI (y2 (zI 4 (nI i)) ((nI 0 ≤ (nI b1) ∧ (nI b1) ≤ nI 127) ∧ (nI 0 ≤ (nI b2) ∧ (nI b2) ≤ nI 23) ∧ ((nI b2) ≤ (nI b3) ∧ (nI b3) ≤ nI 23))))) (v := .ref (bd 2)) F hK hP hi3 rfl (0) 2 (by omega) cM_0 (by decide) rfl (by decide +kernel) dX3_setCalendar_65 ?_
          refine lv_iload_n hx hb dX3_setCalendar_68 rfl (lv_at hl 2 rfl) ?_
          refine lv_iload_n hx hb dX3_setCalendar_69 rfl (lv_at hl 4 rfl) ?_
          refine z_iast (f' := (cM k bd (zu (zu M 1 i b1) 2 i b2) O (nI (y2 (zI 4 (nI i)) ((nI 0 ≤ (nI b1) ∧ (nI b1) ≤ nI 127) ∧ (nI 0 ≤ (nI b2) ∧ (nI b2) ≤ nI 23) ∧ ((nI b2) ≤ (nI b3) ∧ (nI b3) ≤ nI 23)))))) (cA := k 0) (len := 4) (g := mA (zu M 1 i b1) O 2) F hK hP hD hS (2) 0 (by omega) rfl rfl (i := nI i) i rfl hi (by decide) (cM_urow 2 (by decide) (by decide) (by decide) (by decide) (by decide) _ _) dX3_setCalendar_70 (fun H locs hP hD hS => ?_)
          refine lv_aload_n hx hb dX3_setCalendar_71 rfl (lv_at hl 1 rfl) ?_
          refine z_get (C := RX3) (T := TX3) (N := 21) (ci := 3) (fs := mObj bd (zu (zu M 1 i b1) 2 i b2) (nI (y2 (zI 4 (nI i)) ((nI 0 ≤ (nI b1) ∧ (nI b1) ≤ nI 127) ∧ (nI 0 ≤ (nI b2) ∧ (nI b2) ≤ nI 23) ∧ ((nI b2) ≤ (nI b3) ∧ (nI b3) ≤ nI 23))))) (v := .ref (bd 3)) F hK hP hi3 rfl (0) 3 (by omega) cM_0 (by decide) rfl (by decide +kernel) dX3_setCalendar_72 ?_
          refine lv_iload_n hx hb dX3_setCalendar_75 rfl (lv_at hl 2 rfl) ?_
          refine lv_iload hx hb dX3_setCalendar_76 (lv_at hl 5 rfl) ?_
          refine z_iast (f' := (cM k bd (zu (zu (zu M 1 i b1) 2 i b2) 3 i b3) O (nI (y2 (zI 4 (nI i)) ((nI 0 ≤ (nI b1) ∧ (nI b1) ≤ nI 127) ∧ (nI 0 ≤ (nI b2) ∧ (nI b2) ≤ nI 23) ∧ ((nI b2) ≤ (nI b3) ∧ (nI b3) ≤ nI 23)))))) (cA := k 0) (len := 4) (g := mA (zu (zu M 1 i b1) 2 i b2) O 3) F hK hP hD hS (3) 0 (by omega) rfl rfl (i := nI i) i rfl hi (by decide) (cM_urow 3 (by decide) (by decide) (by decide) (by decide) (by decide) _ _) dX3_setCalendar_78 (fun H locs hP hD hS => ?_)
          refine lv_iload hx hb dX3_setCalendar_79 (lv_at hl 0 rfl) ?_
          have hx0 : (x3 (zI 4 (nI i)) ((nI 0 ≤ (nI b1) ∧ (nI b1) ≤ nI 127) ∧ (nI 0 ≤ (nI b2) ∧ (nI b2) ≤ nI 23) ∧ ((nI b2) ≤ (nI b3) ∧ (nI b3) ≤ nI 23)) (True)) = 0 := x3_0 c10.1 c10.2 trivial
          have eW : cM k bd (if (x3 (zI 4 (nI i)) ((nI 0 ≤ (nI b1) ∧ (nI b1) ≤ nI 127) ∧ (nI 0 ≤ (nI b2) ∧ (nI b2) ≤ nI 23) ∧ ((nI b2) ≤ (nI b3) ∧ (nI b3) ≤ nI 23)) (True)) = 0 then (zu (zu (zu M 1 (i) (b1)) 2 (i) (b2)) 3 (i) (b3)) else M) O (nI ((x3 (zI 4 (nI i)) ((nI 0 ≤ (nI b1) ∧ (nI b1) ≤ nI 127) ∧ (nI 0 ≤ (nI b2) ∧ (nI b2) ≤ nI 23) ∧ ((nI b2) ≤ (nI b3) ∧ (nI b3) ≤ nI 23)) (True)))) = cM k bd (zu (zu (zu M 1 i b1) 2 i b2) 3 i b3) O (nI (y2 (zI 4 (nI i)) ((nI 0 ≤ (nI b1) ∧ (nI b1) ≤ nI 127) ∧ (nI 0 ≤ (nI b2) ∧ (nI b2) ≤ nI 23) ∧ ((nI b2) ≤ (nI b3) ∧ (nI b3) ≤ nI 23)))) := by rw [if_pos hx0, ← y2_ab] <;> rfl
          rw [← eW] at hP hD
          refine W.widen (k := 0) (n := 0) (Nat.le_of_ble_eq_true rfl) (Nat.le_of_ble_eq_true rfl) ?_
          exact W.iret (v := nI (M 1 i)) hx hb hr (fun t ht hW => ⟨⟨nI (M 1 i), (), rfl, fun _ => rfl, ⟨by rw [ht]; exact hP, va_K.moved hW.alike hK⟩, hD⟩, hS.F ht⟩) hS.2.2 dX3_setCalendar_81
        · refine lv_iconst (v := nI 0) hx hb dX3_setCalendar_47 (by decide) ?_
          have hx0 : (x3 (zI 4 p0) ((nI 0 ≤ p1 ∧ p1 ≤ nI 127) ∧ (nI 0 ≤ p2 ∧ p2 ≤ nI 23) ∧ (p2 ≤ p3 ∧ p3 ≤ nI 23)) (True)) ≠ 0 := x3_no (fun zz1 => c10 ⟨zz1.1, zz1.2.1⟩)
          have eW : cM k bd (if (x3 (zI 4 p0) ((nI 0 ≤ p1 ∧ p1 ≤ nI 127) ∧ (nI 0 ≤ p2 ∧ p2 ≤ nI 23) ∧ (p2 ≤ p3 ∧ p3 ≤ nI 23)) (True)) = 0 then (zu (zu (zu M 1 (ix p0) (ix p1)) 2 (ix p0) (ix p2)) 3 (ix p0) (ix p3)) else M) O (nI ((x3 (zI 4 p0) ((nI 0 ≤ p1 ∧ p1 ≤ nI 127) ∧ (nI 0 ≤ p2 ∧ p2 ≤ nI 23) ∧ (p2 ≤ p3 ∧ p3 ≤ nI 23)) (True)))) = cM k bd M O (nI (y2 (zI 4 p0) ((nI 0 ≤ p1 ∧ p1 ≤ nI 127) ∧ (nI 0 ≤ p2 ∧ p2 ≤ nI 23) ∧ (p2 ≤ p3 ∧ p3 ≤ nI 23)))) := by rw [if_neg hx0, ← y2_ab] <;> rfl
          rw [← eW] at hP hD
          refine W.widen (k := 0) (n := 0) (Nat.le_of_ble_eq_true rfl) (Nat.le_of_ble_eq_true rfl) ?_
          exact W.iret (v := nI 0) hx hb hr (fun t ht hW => ⟨⟨nI 0, (), rfl, fun zz1 => absurd zz1 hx0, ⟨by rw [ht]; exact hP, va_K.moved hW.alike hK⟩, hD⟩, hS.F ht⟩) hS.2.2 dX3_setCalendar_48
      · refine lv_iconst (v := nI 1) hx hb dX3_setCalendar_36 (by decide) ?_
        refine lv_goto (tgt := 41) hx hb dX3_setCalendar_37 (by decide) ?_
        refine z_top (show nI 1 = bI ((nI 0 ≤ p1 ∧ p1 ≤ nI 127) ∧ (nI 0 ≤ p2 ∧ p2 ≤ nI 23) ∧ (p2 ≤ p3 ∧ p3 ≤ nI 23)) from (bI_t ⟨c5, c7, c9⟩).symm) ?_
        refine z_mV (qc := (RX3, TX3, 21)) (As := [.int (bI (zI 4 p0)), .int (bI ((nI 0 ≤ p1 ∧ p1 ≤ nI 127) ∧ (nI 0 ≤ p2 ∧ p2 ≤ nI 23) ∧ (p2 ≤ p3 ∧ p3 ≤ nI 23)))]) (rest := []) (0) F (c_X3_asked_ l D k bd M O th _ (zI 4 p0) ((nI 0 ≤ p1 ∧ p1 ≤ nI 127) ∧ (nI 0 ≤ p2 ∧ p2 ≤ nI 23) ∧ (p2 ≤ p3 ∧ p3 ≤ nI 23))) (cwV 2 hts gX3_setCalendar_X3_asked_ rfl rfl rfl (by decide +kernel) ⟨Nat.le_of_ble_eq_true rfl, Nat.le_of_ble_eq_true rfl⟩) hK hP hD hS hA (by omega) cM_0 rfl rfl hl.1 rfl (Nat.le_of_ble_eq_true rfl) dX3_setCalendar_41 ⟨Nat.le_of_ble_eq_true rfl, Nat.le_of_ble_eq_true rfl⟩ (fun r H locs hr0 hP hD hS => ?_)
        subst hr0
        refine z_ifb_ne (tgt := 49) F dX3_setCalendar_44 (by decide) (fun c11 => ?_) (fun c11 => ?_)
        · obtain ⟨i, hi, rfl⟩ := id (c11.1)
          try rw [ix_nI (show i < 2 ^ 31 by omega)]
          obtain ⟨b1, hb10, hb1, rfl⟩ := (zB_iff (by omega) (by decide)).mp (c11.2.1)
          try rw [ix_nI (show b1 < 2 ^ 31 by omega)]
          obtain ⟨b2, hb20, hb2, rfl⟩ := (zB_iff (by omega) (by decide)).mp (c11.2.2.1)
          try rw [ix_nI (show b2 < 2 ^ 31 by omega)]
          obtain ⟨b3, hb30, hb3, rfl⟩ := (zB_iff (by omega) (by decide)).mp (c11.2.2.2)
          try rw [ix_nI (show b3 < 2 ^ 31 by omega)]
          refine lv_aload_n hx hb dX3_setCalendar_49 rfl (lv_at hl 0 rfl) ?_
          refine z_get (C := RX3) (T := TX3) (N := 21) (ci := 3) (fs := mObj bd M (nI (y2 (zI 4 (nI i)) ((nI 0 ≤ (nI b1) ∧ (nI b1) ≤ nI 127) ∧ (nI 0 ≤ (nI b2) ∧ (nI b2) ≤ nI 23) ∧ ((nI b2) ≤ (nI b3) ∧ (nI b3) ≤ nI 23))))) (v := .ref (bd 1)) F hK hP hi3 rfl (0) 1 (by omega) cM_0 (by decide) rfl (by decide +kernel) dX3_setCalendar_50 ?_
          refine lv_iload_n hx hb dX3_setCalendar_53 rfl (lv_at hl 1 rfl) ?_
          refine z_iald (v := nI (M 1 i)) (cA := k 0) (len := 4) (g := mA M O 1) F hK hP (1) 0 (by omega) rfl rfl (i := nI i) i rfl hi (by decide) rfl dX3_setCalendar_54 ?_
          refine lv_istore (lv' := [(5, .int (nI (M 1 i))), (0, .ref (bd 0)), (1, .int (nI i)), (2, .int (nI b1)), (3, .int (nI b2)), (4, .int (nI b3))]) hx hb dX3_setCalendar_55 hl (by decide) rfl (fun ls hl => ?_)
          refine lv_aload_n hx hb dX3_setCalendar_57 rfl (lv_at hl 1 rfl) ?_
          refine z_get (C := RX3) (T := TX3) (N := 21) (ci := 3) (fs := mObj bd M (nI (y2 (zI 4 (nI i)) ((nI 0 ≤ (nI b1) ∧ (nI b1) ≤ nI 127) ∧ (nI 0 ≤ (nI b2) ∧ (nI b2) ≤ nI 23) ∧ ((nI b2) ≤ (nI b3) ∧ (nI b3) ≤ nI 23))))) (v := .ref (bd 1)) F hK hP hi3 rfl (0) 1 (by omega) cM_0 (by decide) rfl (by decide +kernel) dX3_setCalendar_58 ?_
          refine lv_iload_n hx hb dX3_setCalendar_61 rfl (lv_at hl 2 rfl) ?_
          refine lv_iload_n hx hb dX3_setCalendar_62 rfl (lv_at hl 3 rfl) ?_
          refine z_iast (f' := (cM k bd (zu M 1 i b1) O (nI (y2 (zI 4 (nI i)) ((nI 0 ≤ (nI b1) ∧ (nI b1) ≤ nI 127) ∧ (nI 0 ≤ (nI b2) ∧ (nI b2) ≤ nI 23) ∧ ((nI b2) ≤ (nI b3) ∧ (nI b3) ≤ nI 23)))))) (cA := k 0) (len := 4) (g := mA M O 1) F hK hP hD hS (1) 0 (by omega) rfl rfl (i := nI i) i rfl hi (by decide) (cM_urow 1 (by decide) (by decide) (by decide) (by decide) (by decide) _ _) dX3_setCalendar_63 (fun H locs hP hD hS => ?_)
          refine lv_aload_n hx hb dX3_setCalendar_64 rfl (lv_at hl 1 rfl) ?_
          refine z_get (C := RX3) (T := TX3) (N := 21) (ci := 3) (fs := mObj bd (zu M 1 i b1) (nI (y2 (zI 4 (nI i)) ((nI 0 ≤ (nI b1) ∧ (nI b1) ≤ nI 127) ∧ (nI 0 ≤ (nI b2) ∧ (nI b2) ≤ nI 23) ∧ ((nI b2) ≤ (nI b3) ∧ (nI b3) ≤ nI 23))))) (v := .ref (bd 2)) F hK hP hi3 rfl (0) 2 (by omega) cM_0 (by decide) rfl (by decide +kernel) dX3_setCalendar_65 ?_
          refine lv_iload_n hx hb dX3_setCalendar_68 rfl (lv_at hl 2 rfl) ?_
          refine lv_iload_n hx hb dX3_setCalendar_69 rfl (lv_at hl 4 rfl) ?_
          refine z_iast (f' := (cM k bd (zu (zu M 1 i b1) 2 i b2) O (nI (y2 (zI 4 (nI i)) ((nI 0 ≤ (nI b1) ∧ (nI b1) ≤ nI 127) ∧ (nI 0 ≤ (nI b2) ∧ (nI b2) ≤ nI 23) ∧ ((nI b2) ≤ (nI b3) ∧ (nI b3) ≤ nI 23)))))) (cA := k 0) (len := 4) (g := mA (zu M 1 i b1) O 2) F hK hP hD hS (2) 0 (by omega) rfl rfl (i := nI i) i rfl hi (by decide) (cM_urow 2 (by decide) (by decide) (by decide) (by decide) (by decide) _ _) dX3_setCalendar_70 (fun H locs hP hD hS => ?_)
          refine lv_aload_n hx hb dX3_setCalendar_71 rfl (lv_at hl 1 rfl) ?_
          refine z_get (C := RX3) (T := TX3) (N := 21) (ci := 3) (fs := mObj bd (zu (zu M 1 i b1) 2 i b2) (nI (y2 (zI 4 (nI i)) ((nI 0 ≤ (nI b1) ∧ (nI b1) ≤ nI 127) ∧ (nI 0 ≤ (nI b2) ∧ (nI b2) ≤ nI 23) ∧ ((nI b2) ≤ (nI b3) ∧ (nI b3) ≤ nI 23))))) (v := .ref (bd 3)) F hK hP hi3 rfl (0) 3 (by omega) cM_0 (by decide) rfl (by decide +kernel) dX3_setCalendar_72 ?_
          refine lv_iload_n hx hb dX3_setCalendar_75 rfl (lv_at hl 2 rfl) ?_
          refine lv_iload hx hb dX3_setCalendar_76 (lv_at hl 5 rfl) ?_
          refine z_iast (f' := (cM k bd (zu (zu (zu M 1 i b1) 2 i b2) 3 i b3) O (nI (y2 (zI 4 (nI i)) ((nI 0 ≤ (nI b1) ∧ (nI b1) ≤ nI 127) ∧ (nI 0 ≤ (nI b2) ∧ (nI b2) ≤ nI 23) ∧ ((nI b2) ≤ (nI b3) ∧ (nI b3) ≤ nI 23)))))) (cA := k 0) (len := 4) (g := mA (zu (zu M 1 i b1) 2 i b2) O 3) F hK hP hD hS (3) 0 (by omega) rfl rfl (i := nI i) i rfl hi (by decide) (cM_urow 3 (by decide) (by decide) (by decide) (by decide) (by decide) _ _) dX3_setCalendar_78 (fun H locs hP hD hS => ?_)
          refine lv_iload hx hb dX3_setCalendar_79 (lv_at hl 0 rfl) ?_
          have hx0 : (x3 (zI 4 (nI i)) ((nI 0 ≤ (nI b1) ∧ (nI b1) ≤ nI 127) ∧ (nI 0 ≤ (nI b2) ∧ (nI b2) ≤ nI 23) ∧ ((nI b2) ≤ (nI b3) ∧ (nI b3) ≤ nI 23)) (True)) = 0 := x3_0 c11.1 c11.2 trivial
          have eW : cM k bd (if (x3 (zI 4 (nI i)) ((nI 0 ≤ (nI b1) ∧ (nI b1) ≤ nI 127) ∧ (nI 0 ≤ (nI b2) ∧ (nI b2) ≤ nI 23) ∧ ((nI b2) ≤ (nI b3) ∧ (nI b3) ≤ nI 23)) (True)) = 0 then (zu (zu (zu M 1 (i) (b1)) 2 (i) (b2)) 3 (i) (b3)) else M) O (nI ((x3 (zI 4 (nI i)) ((nI 0 ≤ (nI b1) ∧ (nI b1) ≤ nI 127) ∧ (nI 0 ≤ (nI b2) ∧ (nI b2) ≤ nI 23) ∧ ((nI b2) ≤ (nI b3) ∧ (nI b3) ≤ nI 23)) (True)))) = cM k bd (zu (zu (zu M 1 i b1) 2 i b2) 3 i b3) O (nI (y2 (zI 4 (nI i)) ((nI 0 ≤ (nI b1) ∧ (nI b1) ≤ nI 127) ∧ (nI 0 ≤ (nI b2) ∧ (nI b2) ≤ nI 23) ∧ ((nI b2) ≤ (nI b3) ∧ (nI b3) ≤ nI 23)))) := by rw [if_pos hx0, ← y2_ab] <;> rfl
          rw [← eW] at hP hD
          refine W.widen (k := 0) (n := 0) (Nat.le_of_ble_eq_true rfl) (Nat.le_of_ble_eq_true rfl) ?_
          exact W.iret (v := nI (M 1 i)) hx hb hr (fun t ht hW => ⟨⟨nI (M 1 i), (), rfl, fun _ => rfl, ⟨by rw [ht]; exact hP, va_K.moved hW.alike hK⟩, hD⟩, hS.F ht⟩) hS.2.2 dX3_setCalendar_81
        · refine lv_iconst (v := nI 0) hx hb dX3_setCalendar_47 (by decide) ?_
          have hx0 : (x3 (zI 4 p0) ((nI 0 ≤ p1 ∧ p1 ≤ nI 127) ∧ (nI 0 ≤ p2 ∧ p2 ≤ nI 23) ∧ (p2 ≤ p3 ∧ p3 ≤ nI 23)) (True)) ≠ 0 := x3_no (fun zz1 => c11 ⟨zz1.1, zz1.2.1⟩)
          have eW : cM k bd (if (x3 (zI 4 p0) ((nI 0 ≤ p1 ∧ p1 ≤ nI 127) ∧ (nI 0 ≤ p2 ∧ p2 ≤ nI 23) ∧ (p2 ≤ p3 ∧ p3 ≤ nI 23)) (True)) = 0 then (zu (zu (zu M 1 (ix p0) (ix p1)) 2 (ix p0) (ix p2)) 3 (ix p0) (ix p3)) else M) O (nI ((x3 (zI 4 p0) ((nI 0 ≤ p1 ∧ p1 ≤ nI 127) ∧ (nI 0 ≤ p2 ∧ p2 ≤ nI 23) ∧ (p2 ≤ p3 ∧ p3 ≤ nI 23)) (True)))) = cM k bd M O (nI (y2 (zI 4 p0) ((nI 0 ≤ p1 ∧ p1 ≤ nI 127) ∧ (nI 0 ≤ p2 ∧ p2 ≤ nI 23) ∧ (p2 ≤ p3 ∧ p3 ≤ nI 23)))) := by rw [if_neg hx0, ← y2_ab] <;> rfl
          rw [← eW] at hP hD
          refine W.widen (k := 0) (n := 0) (Nat.le_of_ble_eq_true rfl) (Nat.le_of_ble_eq_true rfl) ?_
          exact W.iret (v := nI 0) hx hb hr (fun t ht hW => ⟨⟨nI 0, (), rfl, fun zz1 => absurd zz1 hx0, ⟨by rw [ht]; exact hP, va_K.moved hW.alike hK⟩, hD⟩, hS.F ht⟩) hS.2.2 dX3_setCalendar_48
set_option maxRecDepth 100000 in
set_option maxHeartbeats 1000000 in
theorem c_X3_setPromise (l : Launch) (D : va_G) (k : Nat → ClassId) (bd : Nat → Nat) (M : Nat → Nat → Nat) (O : Nat → Nat → Int32) (th : Int32) (sz : Nat) (hI : zInv M) (p0 p1 p2 : Int32) : Met l yX3_setPromise wsX3_setPromise ({ frames := 1, cells := 0, slots := 0, locals := 22 }) (va_Pc [.ref (bd 0), .int p0, .int p1, .int p2] (zG D k 19 bd (cM k bd M O th) sz)) (zQw D k 19 bd (cM k bd (if (x3 (True) ((nI 0 ≤ p0 ∧ p0 ≤ nI 2) ∧ (nI 0 ≤ p1 ∧ p1 ≤ nI 2) ∧ (nI 1 ≤ p2 ∧ p2 ≤ nI 1000)) (True)) = 0 then (zu M 8 (3 * ix p0 + ix p1) (ix p2)) else M) O (nI ((x3 (True) ((nI 0 ≤ p0 ∧ p0 ≤ nI 2) ∧ (nI 0 ≤ p1 ∧ p1 ≤ nI 2) ∧ (nI 1 ≤ p2 ∧ p2 ≤ nI 1000)) (True)) - 1))) (va_A (zw 19 bd (cM k bd M O th)) sz) (fun r => (x3 (True) ((nI 0 ≤ p0 ∧ p0 ≤ nI 2) ∧ (nI 0 ≤ p1 ∧ p1 ≤ nI 2) ∧ (nI 1 ≤ p2 ∧ p2 ≤ nI 1000)) (True)) = 0 → r = (nI (M 8 (3 * ix p0 + ix p1))))) 0 0 (va_A (zw 19 bd (cM k bd M O th)) sz) := by
  refine Met.ofW (cc := cX3_setPromise) (maxL := 5) (ret := (some .int)) (by decide) rfl ?_
  intro p e s m args below meth c s₁ B hml hv
  obtain ⟨rfl, hsz, ⟨hP, hK⟩, hD0⟩ := hv
  have hx := B.exec
  have hb := B.bytes
  have hr := B.returns
  have hts := atoms_spec (ws := wsX3_setPromise) B.pre
  have hown : s.vm.findClass RX3 = some m.cls := findClass_of_methodNamed B.named
  have hlocks := B.notSynchronized
  have F : CallFix p m c cX3_setPromise 5 s _ wsX3_setPromise RX3 := ⟨hx, hb, hml, hown, hts⟩
  subst hsz
  have hD := hD0.self (sz := s.heap.size)
  generalize hAe : va_A (zw 19 bd (cM k bd M O th)) s.heap.size = A at hD ⊢
  have hA : ∀ q : Nat, s.heap.size ≤ q → A q := fun q h => by rw [← hAe]; exact Or.inr h
  have hS : va_S A s.heap s.heap [] := va_S.rf
  have hl := lv_entry ([.ref (bd 0), .int p0, .int p1, .int p2]) (n := 5) (Nat.le_of_ble_eq_true rfl)
  rw [lg_entry_eq]
  generalize (lg_sl ([.ref (bd 0), .int p0, .int p1, .int p2]) ++ List.replicate (5 - (lg_sl ([.ref (bd 0), .int p0, .int p1, .int p2])).length) Slot.unset).toArray = ls at hl ⊢
  have hl : lv_has ls 5 [(0, .ref (bd 0)), (1, .int p0), (2, .int p1), (3, .int p2)] := hl
  have hi3 : ∀ w ∈ u_ws RX3 TX3 21, w ∈ wsX3_setPromise := by decide +kernel
  obtain ⟨hI1, hI2, hI3, hI4, hI5, hI6, hI7⟩ := id hI
  refine lv_aload_n hx hb dX3_setPromise_0 rfl (lv_at hl 0 rfl) ?_
  refine lv_iload_n hx hb dX3_setPromise_1 rfl (lv_at hl 1 rfl) ?_
  refine lv_iconst (v := nI 0) hx hb dX3_setPromise_2 (by decide) ?_
  refine lv_iconst (v := nI 2) hx hb dX3_setPromise_3 (by decide) ?_
  refine z_cS (As := [.int p0, .int (nI 0), .int (nI 2)]) (rest := [.ref (bd 0)]) F (c_X3_in l p0 (nI 0) (nI 2)) (va_cwS 3 hts gX3_setPromise_X3_in rfl rfl rfl (by decide +kernel) ⟨Nat.le_of_ble_eq_true rfl, Nat.le_of_ble_eq_true rfl⟩) rfl hl.1 rfl (Nat.le_of_ble_eq_true rfl) dX3_setPromise_4 ⟨Nat.le_of_ble_eq_true rfl, Nat.le_of_ble_eq_true rfl⟩ (fun r hr => ?_)
  subst hr
  refine z_ifb_eq (tgt := 34) F dX3_setPromise_7 (by decide) (fun c12 => ?_) (fun c12 => ?_)
  · refine lv_iconst (v := nI 0) hx hb dX3_setPromise_34 (by decide) ?_
    refine z_top (show nI 0 = bI ((nI 0 ≤ p0 ∧ p0 ≤ nI 2) ∧ (nI 0 ≤ p1 ∧ p1 ≤ nI 2) ∧ (nI 1 ≤ p2 ∧ p2 ≤ nI 1000)) from (bI_f (fun zz1 => by have zz2 := zz1.1; first | exact c12 zz2 | omega)).symm) ?_
    refine z_mV (qc := (RX3, TX3, 21)) (As := [.int (bI ((nI 0 ≤ p0 ∧ p0 ≤ nI 2) ∧ (nI 0 ≤ p1 ∧ p1 ≤ nI 2) ∧ (nI 1 ≤ p2 ∧ p2 ≤ nI 1000)))]) (rest := []) (0) F (c_X3_asked l D k bd M O th _ ((nI 0 ≤ p0 ∧ p0 ≤ nI 2) ∧ (nI 0 ≤ p1 ∧ p1 ≤ nI 2) ∧ (nI 1 ≤ p2 ∧ p2 ≤ nI 1000))) (cwV 1 hts gX3_setPromise_X3_asked rfl rfl rfl (by decide +kernel) ⟨Nat.le_of_ble_eq_true rfl, Nat.le_of_ble_eq_true rfl⟩) hK hP hD hS hA (by omega) cM_0 rfl rfl hl.1 rfl (Nat.le_of_ble_eq_true rfl) dX3_setPromise_35 ⟨Nat.le_of_ble_eq_true rfl, Nat.le_of_ble_eq_true rfl⟩ (fun r H locs hr0 hP hD hS => ?_)
    subst hr0
    refine z_ifb_ne (tgt := 43) F dX3_setPromise_38 (by decide) (fun c13 => ?_) (fun c13 => ?_)
    · obtain ⟨b0, hb00, hb0, rfl⟩ := (zB_iff (by omega) (by decide)).mp (c13.1)
      try rw [ix_nI (show b0 < 2 ^ 31 by omega)]
      obtain ⟨b1, hb10, hb1, rfl⟩ := (zB_iff (by omega) (by decide)).mp (c13.2.1)
      try rw [ix_nI (show b1 < 2 ^ 31 by omega)]
      obtain ⟨b2, hb20, hb2, rfl⟩ := (zB_iff (by omega) (by decide)).mp (c13.2.2)
      try rw [ix_nI (show b2 < 2 ^ 31 by omega)]
      refine lv_aload_n hx hb dX3_setPromise_43 rfl (lv_at hl 0 rfl) ?_
      refine z_get (C := RX3) (T := TX3) (N := 21) (ci := 3) (fs := mObj bd M (nI (y1 ((nI 0 ≤ (nI b0) ∧ (nI b0) ≤ nI 2) ∧ (nI 0 ≤ (nI b1) ∧ (nI b1) ≤ nI 2) ∧ (nI 1 ≤ (nI b2) ∧ (nI b2) ≤ nI 1000))))) (v := .ref (bd 8)) F hK hP hi3 rfl (0) 8 (by omega) cM_0 (by decide) rfl (by decide +kernel) dX3_setPromise_44 ?_
      refine lv_iconst (v := nI 3) hx hb dX3_setPromise_47 (by decide) ?_
      refine lv_iload_n hx hb dX3_setPromise_48 rfl (lv_at hl 1 rfl) ?_
      refine z_mul F dX3_setPromise_49 ?_
      refine lv_iload_n hx hb dX3_setPromise_50 rfl (lv_at hl 2 rfl) ?_
      refine z_add F dX3_setPromise_51 ?_
      refine z_iald (v := nI (M 8 ((3 * b0) + b1))) (cA := k 0) (len := 9) (g := mA M O 8) F hK hP (8) 0 (by omega) rfl rfl (i := nI ((3 * b0) + b1)) ((3 * b0) + b1) rfl (by omega) (by decide) rfl dX3_setPromise_52 ?_
      refine lv_istore (lv' := [(4, .int (nI (M 8 ((3 * b0) + b1)))), (0, .ref (bd 0)), (1, .int (nI b0)), (2, .int (nI b1)), (3, .int (nI b2))]) hx hb dX3_setPromise_53 hl (by decide) rfl (fun ls hl => ?_)
      refine lv_aload_n hx hb dX3_setPromise_55 rfl (lv_at hl 1 rfl) ?_
      refine z_get (C := RX3) (T := TX3) (N := 21) (ci := 3) (fs := mObj bd M (nI (y1 ((nI 0 ≤ (nI b0) ∧ (nI b0) ≤ nI 2) ∧ (nI 0 ≤ (nI b1) ∧ (nI b1) ≤ nI 2) ∧ (nI 1 ≤ (nI b2) ∧ (nI b2) ≤ nI 1000))))) (v := .ref (bd 8)) F hK hP hi3 rfl (0) 8 (by omega) cM_0 (by decide) rfl (by decide +kernel) dX3_setPromise_56 ?_
      refine lv_iconst (v := nI 3) hx hb dX3_setPromise_59 (by decide) ?_
      refine lv_iload_n hx hb dX3_setPromise_60 rfl (lv_at hl 2 rfl) ?_
      refine z_mul F dX3_setPromise_61 ?_
      refine lv_iload_n hx hb dX3_setPromise_62 rfl (lv_at hl 3 rfl) ?_
      refine z_add F dX3_setPromise_63 ?_
      refine lv_iload_n hx hb dX3_setPromise_64 rfl (lv_at hl 4 rfl) ?_
      refine z_iast (f' := (cM k bd (zu M 8 ((3 * b0) + b1) b2) O (nI (y1 ((nI 0 ≤ (nI b0) ∧ (nI b0) ≤ nI 2) ∧ (nI 0 ≤ (nI b1) ∧ (nI b1) ≤ nI 2) ∧ (nI 1 ≤ (nI b2) ∧ (nI b2) ≤ nI 1000)))))) (cA := k 0) (len := 9) (g := mA M O 8) F hK hP hD hS (8) 0 (by omega) rfl rfl (i := nI ((3 * b0) + b1)) ((3 * b0) + b1) rfl (by omega) (by decide) (cM_urow 8 (by decide) (by decide) (by decide) (by decide) (by decide) _ _) dX3_setPromise_65 (fun H locs hP hD hS => ?_)
      refine lv_iload hx hb dX3_setPromise_66 (lv_at hl 0 rfl) ?_
      have hx0 : (x3 (True) ((nI 0 ≤ (nI b0) ∧ (nI b0) ≤ nI 2) ∧ (nI 0 ≤ (nI b1) ∧ (nI b1) ≤ nI 2) ∧ (nI 1 ≤ (nI b2) ∧ (nI b2) ≤ nI 1000)) (True)) = 0 := x3_0 trivial c13 trivial
      have eW : cM k bd (if (x3 (True) ((nI 0 ≤ (nI b0) ∧ (nI b0) ≤ nI 2) ∧ (nI 0 ≤ (nI b1) ∧ (nI b1) ≤ nI 2) ∧ (nI 1 ≤ (nI b2) ∧ (nI b2) ≤ nI 1000)) (True)) = 0 then (zu M 8 (3 * b0 + b1) (b2)) else M) O (nI ((x3 (True) ((nI 0 ≤ (nI b0) ∧ (nI b0) ≤ nI 2) ∧ (nI 0 ≤ (nI b1) ∧ (nI b1) ≤ nI 2) ∧ (nI 1 ≤ (nI b2) ∧ (nI b2) ≤ nI 1000)) (True)) - 1)) = cM k bd (zu M 8 ((3 * b0) + b1) b2) O (nI (y1 ((nI 0 ≤ (nI b0) ∧ (nI b0) ≤ nI 2) ∧ (nI 0 ≤ (nI b1) ∧ (nI b1) ≤ nI 2) ∧ (nI 1 ≤ (nI b2) ∧ (nI b2) ≤ nI 1000)))) := by rw [if_pos hx0, ← y1_b] <;> rfl
      rw [← eW] at hP hD
      refine W.widen (k := 0) (n := 0) (Nat.le_of_ble_eq_true rfl) (Nat.le_of_ble_eq_true rfl) ?_
      exact W.iret (v := nI (M 8 ((3 * b0) + b1))) hx hb hr (fun t ht hW => ⟨⟨nI (M 8 ((3 * b0) + b1)), (), rfl, fun _ => rfl, ⟨by rw [ht]; exact hP, va_K.moved hW.alike hK⟩, hD⟩, hS.F ht⟩) hS.2.2 dX3_setPromise_68
    · refine lv_iconst (v := nI 0) hx hb dX3_setPromise_41 (by decide) ?_
      have hx0 : (x3 (True) ((nI 0 ≤ p0 ∧ p0 ≤ nI 2) ∧ (nI 0 ≤ p1 ∧ p1 ≤ nI 2) ∧ (nI 1 ≤ p2 ∧ p2 ≤ nI 1000)) (True)) ≠ 0 := x3_no (fun zz1 => c13 zz1.2.1)
      have eW : cM k bd (if (x3 (True) ((nI 0 ≤ p0 ∧ p0 ≤ nI 2) ∧ (nI 0 ≤ p1 ∧ p1 ≤ nI 2) ∧ (nI 1 ≤ p2 ∧ p2 ≤ nI 1000)) (True)) = 0 then (zu M 8 (3 * ix p0 + ix p1) (ix p2)) else M) O (nI ((x3 (True) ((nI 0 ≤ p0 ∧ p0 ≤ nI 2) ∧ (nI 0 ≤ p1 ∧ p1 ≤ nI 2) ∧ (nI 1 ≤ p2 ∧ p2 ≤ nI 1000)) (True)) - 1)) = cM k bd M O (nI (y1 ((nI 0 ≤ p0 ∧ p0 ≤ nI 2) ∧ (nI 0 ≤ p1 ∧ p1 ≤ nI 2) ∧ (nI 1 ≤ p2 ∧ p2 ≤ nI 1000)))) := by rw [if_neg hx0, ← y1_b] <;> rfl
      rw [← eW] at hP hD
      refine W.widen (k := 0) (n := 0) (Nat.le_of_ble_eq_true rfl) (Nat.le_of_ble_eq_true rfl) ?_
      exact W.iret (v := nI 0) hx hb hr (fun t ht hW => ⟨⟨nI 0, (), rfl, fun zz1 => absurd zz1 hx0, ⟨by rw [ht]; exact hP, va_K.moved hW.alike hK⟩, hD⟩, hS.F ht⟩) hS.2.2 dX3_setPromise_42
  · refine lv_iload_n hx hb dX3_setPromise_10 rfl (lv_at hl 2 rfl) ?_
    refine lv_iconst (v := nI 0) hx hb dX3_setPromise_11 (by decide) ?_
    refine lv_iconst (v := nI 2) hx hb dX3_setPromise_12 (by decide) ?_
    refine z_cS (As := [.int p1, .int (nI 0), .int (nI 2)]) (rest := [.ref (bd 0)]) F (c_X3_in l p1 (nI 0) (nI 2)) (va_cwS 3 hts gX3_setPromise_X3_in rfl rfl rfl (by decide +kernel) ⟨Nat.le_of_ble_eq_true rfl, Nat.le_of_ble_eq_true rfl⟩) rfl hl.1 rfl (Nat.le_of_ble_eq_true rfl) dX3_setPromise_13 ⟨Nat.le_of_ble_eq_true rfl, Nat.le_of_ble_eq_true rfl⟩ (fun r hr => ?_)
    subst hr
    refine z_ifb_eq (tgt := 34) F dX3_setPromise_16 (by decide) (fun c14 => ?_) (fun c14 => ?_)
    · refine lv_iconst (v := nI 0) hx hb dX3_setPromise_34 (by decide) ?_
      refine z_top (show nI 0 = bI ((nI 0 ≤ p0 ∧ p0 ≤ nI 2) ∧ (nI 0 ≤ p1 ∧ p1 ≤ nI 2) ∧ (nI 1 ≤ p2 ∧ p2 ≤ nI 1000)) from (bI_f (fun zz1 => by have zz2 := zz1.2.1; first | exact c14 zz2 | omega)).symm) ?_
      refine z_mV (qc := (RX3, TX3, 21)) (As := [.int (bI ((nI 0 ≤ p0 ∧ p0 ≤ nI 2) ∧ (nI 0 ≤ p1 ∧ p1 ≤ nI 2) ∧ (nI 1 ≤ p2 ∧ p2 ≤ nI 1000)))]) (rest := []) (0) F (c_X3_asked l D k bd M O th _ ((nI 0 ≤ p0 ∧ p0 ≤ nI 2) ∧ (nI 0 ≤ p1 ∧ p1 ≤ nI 2) ∧ (nI 1 ≤ p2 ∧ p2 ≤ nI 1000))) (cwV 1 hts gX3_setPromise_X3_asked rfl rfl rfl (by decide +kernel) ⟨Nat.le_of_ble_eq_true rfl, Nat.le_of_ble_eq_true rfl⟩) hK hP hD hS hA (by omega) cM_0 rfl rfl hl.1 rfl (Nat.le_of_ble_eq_true rfl) dX3_setPromise_35 ⟨Nat.le_of_ble_eq_true rfl, Nat.le_of_ble_eq_true rfl⟩ (fun r H locs hr0 hP hD hS => ?_)
      subst hr0
      refine z_ifb_ne (tgt := 43) F dX3_setPromise_38 (by decide) (fun c15 => ?_) (fun c15 => ?_)
      · obtain ⟨b0, hb00, hb0, rfl⟩ := (zB_iff (by omega) (by decide)).mp (c15.1)
        try rw [ix_nI (show b0 < 2 ^ 31 by omega)]
        obtain ⟨b1, hb10, hb1, rfl⟩ := (zB_iff (by omega) (by decide)).mp (c15.2.1)
        try rw [ix_nI (show b1 < 2 ^ 31 by omega)]
        obtain ⟨b2, hb20, hb2, rfl⟩ := (zB_iff (by omega) (by decide)).mp (c15.2.2)
        try rw [ix_nI (show b2 < 2 ^ 31 by omega)]
        refine lv_aload_n hx hb dX3_setPromise_43 rfl (lv_at hl 0 rfl) ?_
        refine z_get (C := RX3) (T := TX3) (N := 21) (ci := 3) (fs := mObj bd M (nI (y1 ((nI 0 ≤ (nI b0) ∧ (nI b0) ≤ nI 2) ∧ (nI 0 ≤ (nI b1) ∧ (nI b1) ≤ nI 2) ∧ (nI 1 ≤ (nI b2) ∧ (nI b2) ≤ nI 1000))))) (v := .ref (bd 8)) F hK hP hi3 rfl (0) 8 (by omega) cM_0 (by decide) rfl (by decide +kernel) dX3_setPromise_44 ?_
        refine lv_iconst (v := nI 3) hx hb dX3_setPromise_47 (by decide) ?_
        refine lv_iload_n hx hb dX3_setPromise_48 rfl (lv_at hl 1 rfl) ?_
        refine z_mul F dX3_setPromise_49 ?_
        refine lv_iload_n hx hb dX3_setPromise_50 rfl (lv_at hl 2 rfl) ?_
        refine z_add F dX3_setPromise_51 ?_
        refine z_iald (v := nI (M 8 ((3 * b0) + b1))) (cA := k 0) (len := 9) (g := mA M O 8) F hK hP (8) 0 (by omega) rfl rfl (i := nI ((3 * b0) + b1)) ((3 * b0) + b1) rfl (by omega) (by decide) rfl dX3_setPromise_52 ?_
        refine lv_istore (lv' := [(4, .int (nI (M 8 ((3 * b0) + b1)))), (0, .ref (bd 0)), (1, .int (nI b0)), (2, .int (nI b1)), (3, .int (nI b2))]) hx hb dX3_setPromise_53 hl (by decide) rfl (fun ls hl => ?_)
        refine lv_aload_n hx hb dX3_setPromise_55 rfl (lv_at hl 1 rfl) ?_
        refine z_get (C := RX3) (T := TX3) (N := 21) (ci := 3) (fs := mObj bd M (nI (y1 ((nI 0 ≤ (nI b0) ∧ (nI b0) ≤ nI 2) ∧ (nI 0 ≤ (nI b1) ∧ (nI b1) ≤ nI 2) ∧ (nI 1 ≤ (nI b2) ∧ (nI b2) ≤ nI 1000))))) (v := .ref (bd 8)) F hK hP hi3 rfl (0) 8 (by omega) cM_0 (by decide) rfl (by decide +kernel) dX3_setPromise_56 ?_
        refine lv_iconst (v := nI 3) hx hb dX3_setPromise_59 (by decide) ?_
        refine lv_iload_n hx hb dX3_setPromise_60 rfl (lv_at hl 2 rfl) ?_
        refine z_mul F dX3_setPromise_61 ?_
        refine lv_iload_n hx hb dX3_setPromise_62 rfl (lv_at hl 3 rfl) ?_
        refine z_add F dX3_setPromise_63 ?_
        refine lv_iload_n hx hb dX3_setPromise_64 rfl (lv_at hl 4 rfl) ?_
        refine z_iast (f' := (cM k bd (zu M 8 ((3 * b0) + b1) b2) O (nI (y1 ((nI 0 ≤ (nI b0) ∧ (nI b0) ≤ nI 2) ∧ (nI 0 ≤ (nI b1) ∧ (nI b1) ≤ nI 2) ∧ (nI 1 ≤ (nI b2) ∧ (nI b2) ≤ nI 1000)))))) (cA := k 0) (len := 9) (g := mA M O 8) F hK hP hD hS (8) 0 (by omega) rfl rfl (i := nI ((3 * b0) + b1)) ((3 * b0) + b1) rfl (by omega) (by decide) (cM_urow 8 (by decide) (by decide) (by decide) (by decide) (by decide) _ _) dX3_setPromise_65 (fun H locs hP hD hS => ?_)
        refine lv_iload hx hb dX3_setPromise_66 (lv_at hl 0 rfl) ?_
        have hx0 : (x3 (True) ((nI 0 ≤ (nI b0) ∧ (nI b0) ≤ nI 2) ∧ (nI 0 ≤ (nI b1) ∧ (nI b1) ≤ nI 2) ∧ (nI 1 ≤ (nI b2) ∧ (nI b2) ≤ nI 1000)) (True)) = 0 := x3_0 trivial c15 trivial
        have eW : cM k bd (if (x3 (True) ((nI 0 ≤ (nI b0) ∧ (nI b0) ≤ nI 2) ∧ (nI 0 ≤ (nI b1) ∧ (nI b1) ≤ nI 2) ∧ (nI 1 ≤ (nI b2) ∧ (nI b2) ≤ nI 1000)) (True)) = 0 then (zu M 8 (3 * b0 + b1) (b2)) else M) O (nI ((x3 (True) ((nI 0 ≤ (nI b0) ∧ (nI b0) ≤ nI 2) ∧ (nI 0 ≤ (nI b1) ∧ (nI b1) ≤ nI 2) ∧ (nI 1 ≤ (nI b2) ∧ (nI b2) ≤ nI 1000)) (True)) - 1)) = cM k bd (zu M 8 ((3 * b0) + b1) b2) O (nI (y1 ((nI 0 ≤ (nI b0) ∧ (nI b0) ≤ nI 2) ∧ (nI 0 ≤ (nI b1) ∧ (nI b1) ≤ nI 2) ∧ (nI 1 ≤ (nI b2) ∧ (nI b2) ≤ nI 1000)))) := by rw [if_pos hx0, ← y1_b] <;> rfl
        rw [← eW] at hP hD
        refine W.widen (k := 0) (n := 0) (Nat.le_of_ble_eq_true rfl) (Nat.le_of_ble_eq_true rfl) ?_
        exact W.iret (v := nI (M 8 ((3 * b0) + b1))) hx hb hr (fun t ht hW => ⟨⟨nI (M 8 ((3 * b0) + b1)), (), rfl, fun _ => rfl, ⟨by rw [ht]; exact hP, va_K.moved hW.alike hK⟩, hD⟩, hS.F ht⟩) hS.2.2 dX3_setPromise_68
      · refine lv_iconst (v := nI 0) hx hb dX3_setPromise_41 (by decide) ?_
        have hx0 : (x3 (True) ((nI 0 ≤ p0 ∧ p0 ≤ nI 2) ∧ (nI 0 ≤ p1 ∧ p1 ≤ nI 2) ∧ (nI 1 ≤ p2 ∧ p2 ≤ nI 1000)) (True)) ≠ 0 := x3_no (fun zz1 => c15 zz1.2.1)
        have eW : cM k bd (if (x3 (True) ((nI 0 ≤ p0 ∧ p0 ≤ nI 2) ∧ (nI 0 ≤ p1 ∧ p1 ≤ nI 2) ∧ (nI 1 ≤ p2 ∧ p2 ≤ nI 1000)) (True)) = 0 then (zu M 8 (3 * ix p0 + ix p1) (ix p2)) else M) O (nI ((x3 (True) ((nI 0 ≤ p0 ∧ p0 ≤ nI 2) ∧ (nI 0 ≤ p1 ∧ p1 ≤ nI 2) ∧ (nI 1 ≤ p2 ∧ p2 ≤ nI 1000)) (True)) - 1)) = cM k bd M O (nI (y1 ((nI 0 ≤ p0 ∧ p0 ≤ nI 2) ∧ (nI 0 ≤ p1 ∧ p1 ≤ nI 2) ∧ (nI 1 ≤ p2 ∧ p2 ≤ nI 1000)))) := by rw [if_neg hx0, ← y1_b] <;> rfl
        rw [← eW] at hP hD
        refine W.widen (k := 0) (n := 0) (Nat.le_of_ble_eq_true rfl) (Nat.le_of_ble_eq_true rfl) ?_
        exact W.iret (v := nI 0) hx hb hr (fun t ht hW => ⟨⟨nI 0, (), rfl, fun zz1 => absurd zz1 hx0, ⟨by rw [ht]; exact hP, va_K.moved hW.alike hK⟩, hD⟩, hS.F ht⟩) hS.2.2 dX3_setPromise_42
    · refine lv_iload_n hx hb dX3_setPromise_19 rfl (lv_at hl 3 rfl) ?_
      refine lv_iconst (v := nI 1) hx hb dX3_setPromise_20 (by decide) ?_
      refine lv_sipush (v := nI 1000) hx hb dX3_setPromise_21 (by decide) ?_
      refine z_cS (As := [.int p2, .int (nI 1), .int (nI 1000)]) (rest := [.ref (bd 0)]) F (c_X3_in l p2 (nI 1) (nI 1000)) (va_cwS 3 hts gX3_setPromise_X3_in rfl rfl rfl (by decide +kernel) ⟨Nat.le_of_ble_eq_true rfl, Nat.le_of_ble_eq_true rfl⟩) rfl hl.1 rfl (Nat.le_of_ble_eq_true rfl) dX3_setPromise_24 ⟨Nat.le_of_ble_eq_true rfl, Nat.le_of_ble_eq_true rfl⟩ (fun r hr => ?_)
      subst hr
      refine z_ifb_eq (tgt := 34) F dX3_setPromise_27 (by decide) (fun c16 => ?_) (fun c16 => ?_)
      · refine lv_iconst (v := nI 0) hx hb dX3_setPromise_34 (by decide) ?_
        refine z_top (show nI 0 = bI ((nI 0 ≤ p0 ∧ p0 ≤ nI 2) ∧ (nI 0 ≤ p1 ∧ p1 ≤ nI 2) ∧ (nI 1 ≤ p2 ∧ p2 ≤ nI 1000)) from (bI_f (fun zz1 => by have zz2 := zz1.2.2; first | exact c16 zz2 | omega)).symm) ?_
        refine z_mV (qc := (RX3, TX3, 21)) (As := [.int (bI ((nI 0 ≤ p0 ∧ p0 ≤ nI 2) ∧ (nI 0 ≤ p1 ∧ p1 ≤ nI 2) ∧ (nI 1 ≤ p2 ∧ p2 ≤ nI 1000)))]) (rest := []) (0) F (c_X3_asked l D k bd M O th _ ((nI 0 ≤ p0 ∧ p0 ≤ nI 2) ∧ (nI 0 ≤ p1 ∧ p1 ≤ nI 2) ∧ (nI 1 ≤ p2 ∧ p2 ≤ nI 1000))) (cwV 1 hts gX3_setPromise_X3_asked rfl rfl rfl (by decide +kernel) ⟨Nat.le_of_ble_eq_true rfl, Nat.le_of_ble_eq_true rfl⟩) hK hP hD hS hA (by omega) cM_0 rfl rfl hl.1 rfl (Nat.le_of_ble_eq_true rfl) dX3_setPromise_35 ⟨Nat.le_of_ble_eq_true rfl, Nat.le_of_ble_eq_true rfl⟩ (fun r H locs hr0 hP hD hS => ?_)
        subst hr0
        refine z_ifb_ne (tgt := 43) F dX3_setPromise_38 (by decide) (fun c17 => ?_) (fun c17 => ?_)
        · obtain ⟨b0, hb00, hb0, rfl⟩ := (zB_iff (by omega) (by decide)).mp (c17.1)
          try rw [ix_nI (show b0 < 2 ^ 31 by omega)]
          obtain ⟨b1, hb10, hb1, rfl⟩ := (zB_iff (by omega) (by decide)).mp (c17.2.1)
          try rw [ix_nI (show b1 < 2 ^ 31 by omega)]
          obtain ⟨b2, hb20, hb2, rfl⟩ := (zB_iff (by omega) (by decide)).mp (c17.2.2)
          try rw [ix_nI (show b2 < 2 ^ 31 by omega)]
          refine lv_aload_n hx hb dX3_setPromise_43 rfl (lv_at hl 0 rfl) ?_
          refine z_get (C := RX3) (T := TX3) (N := 21) (ci := 3) (fs := mObj bd M (nI (y1 ((nI 0 ≤ (nI b0) ∧ (nI b0) ≤ nI 2) ∧ (nI 0 ≤ (nI b1) ∧ (nI b1) ≤ nI 2) ∧ (nI 1 ≤ (nI b2) ∧ (nI b2) ≤ nI 1000))))) (v := .ref (bd 8)) F hK hP hi3 rfl (0) 8 (by omega) cM_0 (by decide) rfl (by decide +kernel) dX3_setPromise_44 ?_
          refine lv_iconst (v := nI 3) hx hb dX3_setPromise_47 (by decide) ?_
          refine lv_iload_n hx hb dX3_setPromise_48 rfl (lv_at hl 1 rfl) ?_
          refine z_mul F dX3_setPromise_49 ?_
          refine lv_iload_n hx hb dX3_setPromise_50 rfl (lv_at hl 2 rfl) ?_
          refine z_add F dX3_setPromise_51 ?_
          refine z_iald (v := nI (M 8 ((3 * b0) + b1))) (cA := k 0) (len := 9) (g := mA M O 8) F hK hP (8) 0 (by omega) rfl rfl (i := nI ((3 * b0) + b1)) ((3 * b0) + b1) rfl (by omega) (by decide) rfl dX3_setPromise_52 ?_
          refine lv_istore (lv' := [(4, .int (nI (M 8 ((3 * b0) + b1)))), (0, .ref (bd 0)), (1, .int (nI b0)), (2, .int (nI b1)), (3, .int (nI b2))]) hx hb dX3_setPromise_53 hl (by decide) rfl (fun ls hl => ?_)
          refine lv_aload_n hx hb dX3_setPromise_55 rfl (lv_at hl 1 rfl) ?_
          refine z_get (C := RX3) (T := TX3) (N := 21) (ci := 3) (fs := mObj bd M (nI (y1 ((nI 0 ≤ (nI b0) ∧ (nI b0) ≤ nI 2) ∧ (nI 0 ≤ (nI b1) ∧ (nI b1) ≤ nI 2) ∧ (nI 1 ≤ (nI b2) ∧ (nI b2) ≤ nI 1000))))) (v := .ref (bd 8)) F hK hP hi3 rfl (0) 8 (by omega) cM_0 (by decide) rfl (by decide +kernel) dX3_setPromise_56 ?_
          refine lv_iconst (v := nI 3) hx hb dX3_setPromise_59 (by decide) ?_
          refine lv_iload_n hx hb dX3_setPromise_60 rfl (lv_at hl 2 rfl) ?_
          refine z_mul F dX3_setPromise_61 ?_
          refine lv_iload_n hx hb dX3_setPromise_62 rfl (lv_at hl 3 rfl) ?_
          refine z_add F dX3_setPromise_63 ?_
          refine lv_iload_n hx hb dX3_setPromise_64 rfl (lv_at hl 4 rfl) ?_
          refine z_iast (f' := (cM k bd (zu M 8 ((3 * b0) + b1) b2) O (nI (y1 ((nI 0 ≤ (nI b0) ∧ (nI b0) ≤ nI 2) ∧ (nI 0 ≤ (nI b1) ∧ (nI b1) ≤ nI 2) ∧ (nI 1 ≤ (nI b2) ∧ (nI b2) ≤ nI 1000)))))) (cA := k 0) (len := 9) (g := mA M O 8) F hK hP hD hS (8) 0 (by omega) rfl rfl (i := nI ((3 * b0) + b1)) ((3 * b0) + b1) rfl (by omega) (by decide) (cM_urow 8 (by decide) (by decide) (by decide) (by decide) (by decide) _ _) dX3_setPromise_65 (fun H locs hP hD hS => ?_)
          refine lv_iload hx hb dX3_setPromise_66 (lv_at hl 0 rfl) ?_
          have hx0 : (x3 (True) ((nI 0 ≤ (nI b0) ∧ (nI b0) ≤ nI 2) ∧ (nI 0 ≤ (nI b1) ∧ (nI b1) ≤ nI 2) ∧ (nI 1 ≤ (nI b2) ∧ (nI b2) ≤ nI 1000)) (True)) = 0 := x3_0 trivial c17 trivial
          have eW : cM k bd (if (x3 (True) ((nI 0 ≤ (nI b0) ∧ (nI b0) ≤ nI 2) ∧ (nI 0 ≤ (nI b1) ∧ (nI b1) ≤ nI 2) ∧ (nI 1 ≤ (nI b2) ∧ (nI b2) ≤ nI 1000)) (True)) = 0 then (zu M 8 (3 * b0 + b1) (b2)) else M) O (nI ((x3 (True) ((nI 0 ≤ (nI b0) ∧ (nI b0) ≤ nI 2) ∧ (nI 0 ≤ (nI b1) ∧ (nI b1) ≤ nI 2) ∧ (nI 1 ≤ (nI b2) ∧ (nI b2) ≤ nI 1000)) (True)) - 1)) = cM k bd (zu M 8 ((3 * b0) + b1) b2) O (nI (y1 ((nI 0 ≤ (nI b0) ∧ (nI b0) ≤ nI 2) ∧ (nI 0 ≤ (nI b1) ∧ (nI b1) ≤ nI 2) ∧ (nI 1 ≤ (nI b2) ∧ (nI b2) ≤ nI 1000)))) := by rw [if_pos hx0, ← y1_b] <;> rfl
          rw [← eW] at hP hD
          refine W.widen (k := 0) (n := 0) (Nat.le_of_ble_eq_true rfl) (Nat.le_of_ble_eq_true rfl) ?_
          exact W.iret (v := nI (M 8 ((3 * b0) + b1))) hx hb hr (fun t ht hW => ⟨⟨nI (M 8 ((3 * b0) + b1)), (), rfl, fun _ => rfl, ⟨by rw [ht]; exact hP, va_K.moved hW.alike hK⟩, hD⟩, hS.F ht⟩) hS.2.2 dX3_setPromise_68
        · refine lv_iconst (v := nI 0) hx hb dX3_setPromise_41 (by decide) ?_
          have hx0 : (x3 (True) ((nI 0 ≤ p0 ∧ p0 ≤ nI 2) ∧ (nI 0 ≤ p1 ∧ p1 ≤ nI 2) ∧ (nI 1 ≤ p2 ∧ p2 ≤ nI 1000)) (True)) ≠ 0 := x3_no (fun zz1 => c17 zz1.2.1)
          have eW : cM k bd (if (x3 (True) ((nI 0 ≤ p0 ∧ p0 ≤ nI 2) ∧ (nI 0 ≤ p1 ∧ p1 ≤ nI 2) ∧ (nI 1 ≤ p2 ∧ p2 ≤ nI 1000)) (True)) = 0 then (zu M 8 (3 * ix p0 + ix p1) (ix p2)) else M) O (nI ((x3 (True) ((nI 0 ≤ p0 ∧ p0 ≤ nI 2) ∧ (nI 0 ≤ p1 ∧ p1 ≤ nI 2) ∧ (nI 1 ≤ p2 ∧ p2 ≤ nI 1000)) (True)) - 1)) = cM k bd M O (nI (y1 ((nI 0 ≤ p0 ∧ p0 ≤ nI 2) ∧ (nI 0 ≤ p1 ∧ p1 ≤ nI 2) ∧ (nI 1 ≤ p2 ∧ p2 ≤ nI 1000)))) := by rw [if_neg hx0, ← y1_b] <;> rfl
          rw [← eW] at hP hD
          refine W.widen (k := 0) (n := 0) (Nat.le_of_ble_eq_true rfl) (Nat.le_of_ble_eq_true rfl) ?_
          exact W.iret (v := nI 0) hx hb hr (fun t ht hW => ⟨⟨nI 0, (), rfl, fun zz1 => absurd zz1 hx0, ⟨by rw [ht]; exact hP, va_K.moved hW.alike hK⟩, hD⟩, hS.F ht⟩) hS.2.2 dX3_setPromise_42
      · refine lv_iconst (v := nI 1) hx hb dX3_setPromise_30 (by decide) ?_
        refine lv_goto (tgt := 35) hx hb dX3_setPromise_31 (by decide) ?_
        refine z_top (show nI 1 = bI ((nI 0 ≤ p0 ∧ p0 ≤ nI 2) ∧ (nI 0 ≤ p1 ∧ p1 ≤ nI 2) ∧ (nI 1 ≤ p2 ∧ p2 ≤ nI 1000)) from (bI_t ⟨c12, c14, c16⟩).symm) ?_
        refine z_mV (qc := (RX3, TX3, 21)) (As := [.int (bI ((nI 0 ≤ p0 ∧ p0 ≤ nI 2) ∧ (nI 0 ≤ p1 ∧ p1 ≤ nI 2) ∧ (nI 1 ≤ p2 ∧ p2 ≤ nI 1000)))]) (rest := []) (0) F (c_X3_asked l D k bd M O th _ ((nI 0 ≤ p0 ∧ p0 ≤ nI 2) ∧ (nI 0 ≤ p1 ∧ p1 ≤ nI 2) ∧ (nI 1 ≤ p2 ∧ p2 ≤ nI 1000))) (cwV 1 hts gX3_setPromise_X3_asked rfl rfl rfl (by decide +kernel) ⟨Nat.le_of_ble_eq_true rfl, Nat.le_of_ble_eq_true rfl⟩) hK hP hD hS hA (by omega) cM_0 rfl rfl hl.1 rfl (Nat.le_of_ble_eq_true rfl) dX3_setPromise_35 ⟨Nat.le_of_ble_eq_true rfl, Nat.le_of_ble_eq_true rfl⟩ (fun r H locs hr0 hP hD hS => ?_)
        subst hr0
        refine z_ifb_ne (tgt := 43) F dX3_setPromise_38 (by decide) (fun c18 => ?_) (fun c18 => ?_)
        · obtain ⟨b0, hb00, hb0, rfl⟩ := (zB_iff (by omega) (by decide)).mp (c18.1)
          try rw [ix_nI (show b0 < 2 ^ 31 by omega)]
          obtain ⟨b1, hb10, hb1, rfl⟩ := (zB_iff (by omega) (by decide)).mp (c18.2.1)
          try rw [ix_nI (show b1 < 2 ^ 31 by omega)]
          obtain ⟨b2, hb20, hb2, rfl⟩ := (zB_iff (by omega) (by decide)).mp (c18.2.2)
          try rw [ix_nI (show b2 < 2 ^ 31 by omega)]
          refine lv_aload_n hx hb dX3_setPromise_43 rfl (lv_at hl 0 rfl) ?_
          refine z_get (C := RX3) (T := TX3) (N := 21) (ci := 3) (fs := mObj bd M (nI (y1 ((nI 0 ≤ (nI b0) ∧ (nI b0) ≤ nI 2) ∧ (nI 0 ≤ (nI b1) ∧ (nI b1) ≤ nI 2) ∧ (nI 1 ≤ (nI b2) ∧ (nI b2) ≤ nI 1000))))) (v := .ref (bd 8)) F hK hP hi3 rfl (0) 8 (by omega) cM_0 (by decide) rfl (by decide +kernel) dX3_setPromise_44 ?_
          refine lv_iconst (v := nI 3) hx hb dX3_setPromise_47 (by decide) ?_
          refine lv_iload_n hx hb dX3_setPromise_48 rfl (lv_at hl 1 rfl) ?_
          refine z_mul F dX3_setPromise_49 ?_
          refine lv_iload_n hx hb dX3_setPromise_50 rfl (lv_at hl 2 rfl) ?_
          refine z_add F dX3_setPromise_51 ?_
          refine z_iald (v := nI (M 8 ((3 * b0) + b1))) (cA := k 0) (len := 9) (g := mA M O 8) F hK hP (8) 0 (by omega) rfl rfl (i := nI ((3 * b0) + b1)) ((3 * b0) + b1) rfl (by omega) (by decide) rfl dX3_setPromise_52 ?_
          refine lv_istore (lv' := [(4, .int (nI (M 8 ((3 * b0) + b1)))), (0, .ref (bd 0)), (1, .int (nI b0)), (2, .int (nI b1)), (3, .int (nI b2))]) hx hb dX3_setPromise_53 hl (by decide) rfl (fun ls hl => ?_)
          refine lv_aload_n hx hb dX3_setPromise_55 rfl (lv_at hl 1 rfl) ?_
          refine z_get (C := RX3) (T := TX3) (N := 21) (ci := 3) (fs := mObj bd M (nI (y1 ((nI 0 ≤ (nI b0) ∧ (nI b0) ≤ nI 2) ∧ (nI 0 ≤ (nI b1) ∧ (nI b1) ≤ nI 2) ∧ (nI 1 ≤ (nI b2) ∧ (nI b2) ≤ nI 1000))))) (v := .ref (bd 8)) F hK hP hi3 rfl (0) 8 (by omega) cM_0 (by decide) rfl (by decide +kernel) dX3_setPromise_56 ?_
          refine lv_iconst (v := nI 3) hx hb dX3_setPromise_59 (by decide) ?_
          refine lv_iload_n hx hb dX3_setPromise_60 rfl (lv_at hl 2 rfl) ?_
          refine z_mul F dX3_setPromise_61 ?_
          refine lv_iload_n hx hb dX3_setPromise_62 rfl (lv_at hl 3 rfl) ?_
          refine z_add F dX3_setPromise_63 ?_
          refine lv_iload_n hx hb dX3_setPromise_64 rfl (lv_at hl 4 rfl) ?_
          refine z_iast (f' := (cM k bd (zu M 8 ((3 * b0) + b1) b2) O (nI (y1 ((nI 0 ≤ (nI b0) ∧ (nI b0) ≤ nI 2) ∧ (nI 0 ≤ (nI b1) ∧ (nI b1) ≤ nI 2) ∧ (nI 1 ≤ (nI b2) ∧ (nI b2) ≤ nI 1000)))))) (cA := k 0) (len := 9) (g := mA M O 8) F hK hP hD hS (8) 0 (by omega) rfl rfl (i := nI ((3 * b0) + b1)) ((3 * b0) + b1) rfl (by omega) (by decide) (cM_urow 8 (by decide) (by decide) (by decide) (by decide) (by decide) _ _) dX3_setPromise_65 (fun H locs hP hD hS => ?_)
          refine lv_iload hx hb dX3_setPromise_66 (lv_at hl 0 rfl) ?_
          have hx0 : (x3 (True) ((nI 0 ≤ (nI b0) ∧ (nI b0) ≤ nI 2) ∧ (nI 0 ≤ (nI b1) ∧ (nI b1) ≤ nI 2) ∧ (nI 1 ≤ (nI b2) ∧ (nI b2) ≤ nI 1000)) (True)) = 0 := x3_0 trivial c18 trivial
          have eW : cM k bd (if (x3 (True) ((nI 0 ≤ (nI b0) ∧ (nI b0) ≤ nI 2) ∧ (nI 0 ≤ (nI b1) ∧ (nI b1) ≤ nI 2) ∧ (nI 1 ≤ (nI b2) ∧ (nI b2) ≤ nI 1000)) (True)) = 0 then (zu M 8 (3 * b0 + b1) (b2)) else M) O (nI ((x3 (True) ((nI 0 ≤ (nI b0) ∧ (nI b0) ≤ nI 2) ∧ (nI 0 ≤ (nI b1) ∧ (nI b1) ≤ nI 2) ∧ (nI 1 ≤ (nI b2) ∧ (nI b2) ≤ nI 1000)) (True)) - 1)) = cM k bd (zu M 8 ((3 * b0) + b1) b2) O (nI (y1 ((nI 0 ≤ (nI b0) ∧ (nI b0) ≤ nI 2) ∧ (nI 0 ≤ (nI b1) ∧ (nI b1) ≤ nI 2) ∧ (nI 1 ≤ (nI b2) ∧ (nI b2) ≤ nI 1000)))) := by rw [if_pos hx0, ← y1_b] <;> rfl
          rw [← eW] at hP hD
          refine W.widen (k := 0) (n := 0) (Nat.le_of_ble_eq_true rfl) (Nat.le_of_ble_eq_true rfl) ?_
          exact W.iret (v := nI (M 8 ((3 * b0) + b1))) hx hb hr (fun t ht hW => ⟨⟨nI (M 8 ((3 * b0) + b1)), (), rfl, fun _ => rfl, ⟨by rw [ht]; exact hP, va_K.moved hW.alike hK⟩, hD⟩, hS.F ht⟩) hS.2.2 dX3_setPromise_68
        · refine lv_iconst (v := nI 0) hx hb dX3_setPromise_41 (by decide) ?_
          have hx0 : (x3 (True) ((nI 0 ≤ p0 ∧ p0 ≤ nI 2) ∧ (nI 0 ≤ p1 ∧ p1 ≤ nI 2) ∧ (nI 1 ≤ p2 ∧ p2 ≤ nI 1000)) (True)) ≠ 0 := x3_no (fun zz1 => c18 zz1.2.1)
          have eW : cM k bd (if (x3 (True) ((nI 0 ≤ p0 ∧ p0 ≤ nI 2) ∧ (nI 0 ≤ p1 ∧ p1 ≤ nI 2) ∧ (nI 1 ≤ p2 ∧ p2 ≤ nI 1000)) (True)) = 0 then (zu M 8 (3 * ix p0 + ix p1) (ix p2)) else M) O (nI ((x3 (True) ((nI 0 ≤ p0 ∧ p0 ≤ nI 2) ∧ (nI 0 ≤ p1 ∧ p1 ≤ nI 2) ∧ (nI 1 ≤ p2 ∧ p2 ≤ nI 1000)) (True)) - 1)) = cM k bd M O (nI (y1 ((nI 0 ≤ p0 ∧ p0 ≤ nI 2) ∧ (nI 0 ≤ p1 ∧ p1 ≤ nI 2) ∧ (nI 1 ≤ p2 ∧ p2 ≤ nI 1000)))) := by rw [if_neg hx0, ← y1_b] <;> rfl
          rw [← eW] at hP hD
          refine W.widen (k := 0) (n := 0) (Nat.le_of_ble_eq_true rfl) (Nat.le_of_ble_eq_true rfl) ?_
          exact W.iret (v := nI 0) hx hb hr (fun t ht hW => ⟨⟨nI 0, (), rfl, fun zz1 => absurd zz1 hx0, ⟨by rw [ht]; exact hP, va_K.moved hW.alike hK⟩, hD⟩, hS.F ht⟩) hS.2.2 dX3_setPromise_42
set_option maxRecDepth 100000 in
set_option maxHeartbeats 1000000 in
theorem c_X3_isCovered (l : Launch) (D : va_G) (k : Nat → ClassId) (bd : Nat → Nat) (M : Nat → Nat → Nat) (O : Nat → Nat → Int32) (th : Int32) (sz : Nat) (hI : zInv M) (p0 p1 p2 : Int32) : Met l yX3_isCovered wsX3_isCovered ({ frames := 2, cells := 0, slots := 0, locals := 47 }) (va_Pc [.ref (bd 0), .int p0, .int p1, .int p2] (zG D k 19 bd (cM k bd M O th) sz)) (zQw D k 19 bd (cM k bd M O (nI ((x3 (zI 4 p0 ∧ zI 4 p1) (nI 0 ≤ p2 ∧ p2 ≤ nI 1000) (True))))) (va_A (zw 19 bd (cM k bd M O th)) sz) (fun r => (x3 (zI 4 p0 ∧ zI 4 p1) (nI 0 ≤ p2 ∧ p2 ≤ nI 1000) (True)) = 0 → r = (bI (cov M (ix p0) (ix p1) (ix p2))))) 0 0 (va_A (zw 19 bd (cM k bd M O th)) sz) := by
  refine Met.ofW (cc := cX3_isCovered) (maxL := 4) (ret := (some .boolean)) (by decide) rfl ?_
  intro p e s m args below meth c s₁ B hml hv
  obtain ⟨rfl, hsz, ⟨hP, hK⟩, hD0⟩ := hv
  have hx := B.exec
  have hb := B.bytes
  have hr := B.returns
  have hts := atoms_spec (ws := wsX3_isCovered) B.pre
  have hown : s.vm.findClass RX3 = some m.cls := findClass_of_methodNamed B.named
  have hlocks := B.notSynchronized
  have F : CallFix p m c cX3_isCovered 4 s _ wsX3_isCovered RX3 := ⟨hx, hb, hml, hown, hts⟩
  subst hsz
  have hD := hD0.self (sz := s.heap.size)
  generalize hAe : va_A (zw 19 bd (cM k bd M O th)) s.heap.size = A at hD ⊢
  have hA : ∀ q : Nat, s.heap.size ≤ q → A q := fun q h => by rw [← hAe]; exact Or.inr h
  have hS : va_S A s.heap s.heap [] := va_S.rf
  have hl := lv_entry ([.ref (bd 0), .int p0, .int p1, .int p2]) (n := 4) (Nat.le_of_ble_eq_true rfl)
  rw [lg_entry_eq]
  generalize (lg_sl ([.ref (bd 0), .int p0, .int p1, .int p2]) ++ List.replicate (4 - (lg_sl ([.ref (bd 0), .int p0, .int p1, .int p2])).length) Slot.unset).toArray = ls at hl ⊢
  have hl : lv_has ls 4 [(0, .ref (bd 0)), (1, .int p0), (2, .int p1), (3, .int p2)] := hl
  have hi3 : ∀ w ∈ u_ws RX3 TX3 21, w ∈ wsX3_isCovered := by decide +kernel
  obtain ⟨hI1, hI2, hI3, hI4, hI5, hI6, hI7⟩ := id hI
  refine lv_aload_n hx hb dX3_isCovered_0 rfl (lv_at hl 0 rfl) ?_
  refine lv_iload_n hx hb dX3_isCovered_1 rfl (lv_at hl 1 rfl) ?_
  refine z_cS (As := [.int p0]) (rest := [.ref (bd 0)]) F (c_X3_isSite l p0) (va_cwS 1 hts gX3_isCovered_X3_isSite rfl rfl rfl (by decide +kernel) ⟨Nat.le_of_ble_eq_true rfl, Nat.le_of_ble_eq_true rfl⟩) rfl hl.1 rfl (Nat.le_of_ble_eq_true rfl) dX3_isCovered_2 ⟨Nat.le_of_ble_eq_true rfl, Nat.le_of_ble_eq_true rfl⟩ (fun r hr => ?_)
  subst hr
  refine z_ifb_eq (tgt := 19) F dX3_isCovered_5 (by decide) (fun c19 => ?_) (fun c19 => ?_)
  · refine lv_iconst (v := nI 0) hx hb dX3_isCovered_19 (by decide) ?_
    refine z_top (show nI 0 = bI (zI 4 p0 ∧ zI 4 p1) from (bI_f (fun zz1 => by have zz2 := zz1.1; first | exact c19 zz2 | omega)).symm) ?_
    refine lv_iload_n hx hb dX3_isCovered_20 rfl (lv_at hl 3 rfl) ?_
    refine lv_iconst (v := nI 0) hx hb dX3_isCovered_21 (by decide) ?_
    refine lv_sipush (v := nI 1000) hx hb dX3_isCovered_22 (by decide) ?_
    refine z_cS (As := [.int p2, .int (nI 0), .int (nI 1000)]) (rest := [.int (bI (zI 4 p0 ∧ zI 4 p1)), .ref (bd 0)]) F (c_X3_in l p2 (nI 0) (nI 1000)) (va_cwS 3 hts gX3_isCovered_X3_in rfl rfl rfl (by decide +kernel) ⟨Nat.le_of_ble_eq_true rfl, Nat.le_of_ble_eq_true rfl⟩) rfl hl.1 rfl (Nat.le_of_ble_eq_true rfl) dX3_isCovered_25 ⟨Nat.le_of_ble_eq_true rfl, Nat.le_of_ble_eq_true rfl⟩ (fun r hr => ?_)
    subst hr
    refine z_mV (qc := (RX3, TX3, 21)) (As := [.int (bI (zI 4 p0 ∧ zI 4 p1)), .int (bI (nI 0 ≤ p2 ∧ p2 ≤ nI 1000))]) (rest := []) (0) F (c_X3_asked_ l D k bd M O th _ (zI 4 p0 ∧ zI 4 p1) (nI 0 ≤ p2 ∧ p2 ≤ nI 1000)) (cwV 2 hts gX3_isCovered_X3_asked_ rfl rfl rfl (by decide +kernel) ⟨Nat.le_of_ble_eq_true rfl, Nat.le_of_ble_eq_true rfl⟩) hK hP hD hS hA (by omega) cM_0 rfl rfl hl.1 rfl (Nat.le_of_ble_eq_true rfl) dX3_isCovered_28 ⟨Nat.le_of_ble_eq_true rfl, Nat.le_of_ble_eq_true rfl⟩ (fun r H locs hr0 hP hD hS => ?_)
    subst hr0
    refine z_ifb_eq (tgt := 48) F dX3_isCovered_31 (by decide) (fun c20 => ?_) (fun c20 => ?_)
    · refine lv_iconst (v := nI 0) hx hb dX3_isCovered_48 (by decide) ?_
      have hx0 : (x3 (zI 4 p0 ∧ zI 4 p1) (nI 0 ≤ p2 ∧ p2 ≤ nI 1000) (True)) ≠ 0 := x3_no (fun zz1 => c20 ⟨zz1.1, zz1.2.1⟩)
      have eW : cM k bd M O (nI ((x3 (zI 4 p0 ∧ zI 4 p1) (nI 0 ≤ p2 ∧ p2 ≤ nI 1000) (True)))) = cM k bd M O (nI (y2 (zI 4 p0 ∧ zI 4 p1) (nI 0 ≤ p2 ∧ p2 ≤ nI 1000))) := by rw [← y2_ab] <;> rfl
      rw [← eW] at hP hD
      refine W.widen (k := 0) (n := 0) (Nat.le_of_ble_eq_true rfl) (Nat.le_of_ble_eq_true rfl) ?_
      exact W.zret (v := nI 0) hx hb hr rfl (fun t ht hW => ⟨⟨nI 0, (), rfl, fun zz1 => absurd zz1 hx0, ⟨by rw [ht]; exact hP, va_K.moved hW.alike hK⟩, hD⟩, hS.F ht⟩) hS.2.2 dX3_isCovered_49
    · obtain ⟨i, hi, rfl⟩ := id (c20.1.1)
      try rw [ix_nI (show i < 2 ^ 31 by omega)]
      obtain ⟨kd, hkd, rfl⟩ := id (c20.1.2)
      try rw [ix_nI (show kd < 2 ^ 31 by omega)]
      obtain ⟨b2, hb20, hb2, rfl⟩ := (zB_iff (by omega) (by decide)).mp (c20.2)
      try rw [ix_nI (show b2 < 2 ^ 31 by omega)]
      obtain ⟨hs, hco⟩ := hI3 i hi
      refine lv_aload_n hx hb dX3_isCovered_34 rfl (lv_at hl 0 rfl) ?_
      refine lv_iload_n hx hb dX3_isCovered_35 rfl (lv_at hl 1 rfl) ?_
      refine lv_iload_n hx hb dX3_isCovered_36 rfl (lv_at hl 2 rfl) ?_
      refine lv_iload_n hx hb dX3_isCovered_37 rfl (lv_at hl 3 rfl) ?_
      refine z_cV (qc := (RX3, TX3, 21)) (As := [.int (nI i), .int (nI kd), .int (nI b2)]) (rest := []) (0) F (c_X3_covered l D k bd M O (nI (y2 (zI 4 (nI i) ∧ zI 4 (nI kd)) (nI 0 ≤ (nI b2) ∧ (nI b2) ≤ nI 1000))) i kd b2 hs hco hi hkd (by omega)) (cwV 3 hts gX3_isCovered_X3_covered rfl rfl rfl (by decide +kernel) ⟨Nat.le_of_ble_eq_true rfl, Nat.le_of_ble_eq_true rfl⟩) hK hP (by omega) cM_0 rfl rfl hl.1 rfl (Nat.le_of_ble_eq_true rfl) dX3_isCovered_38 ⟨Nat.le_of_ble_eq_true rfl, Nat.le_of_ble_eq_true rfl⟩ (fun r hr => ?_)
      subst hr
      refine z_ifb_eq (tgt := 48) F dX3_isCovered_41 (by decide) (fun c21 => ?_) (fun c21 => ?_)
      · refine lv_iconst (v := nI 0) hx hb dX3_isCovered_48 (by decide) ?_
        have hx0 : (x3 (zI 4 (nI i) ∧ zI 4 (nI kd)) (nI 0 ≤ (nI b2) ∧ (nI b2) ≤ nI 1000) (True)) = 0 := x3_0 c20.1 c20.2 trivial
        have eW : cM k bd M O (nI ((x3 (zI 4 (nI i) ∧ zI 4 (nI kd)) (nI 0 ≤ (nI b2) ∧ (nI b2) ≤ nI 1000) (True)))) = cM k bd M O (nI (y2 (zI 4 (nI i) ∧ zI 4 (nI kd)) (nI 0 ≤ (nI b2) ∧ (nI b2) ≤ nI 1000))) := by rw [← y2_ab] <;> rfl
        rw [← eW] at hP hD
        refine W.widen (k := 0) (n := 0) (Nat.le_of_ble_eq_true rfl) (Nat.le_of_ble_eq_true rfl) ?_
        exact W.zret (v := nI 0) hx hb hr rfl (fun t ht hW => ⟨⟨nI 0, (), rfl, fun _ => (bI_f c21).symm, ⟨by rw [ht]; exact hP, va_K.moved hW.alike hK⟩, hD⟩, hS.F ht⟩) hS.2.2 dX3_isCovered_49
      · refine lv_iconst (v := nI 1) hx hb dX3_isCovered_44 (by decide) ?_
        refine lv_goto (tgt := 49) hx hb dX3_isCovered_45 (by decide) ?_
        have hx0 : (x3 (zI 4 (nI i) ∧ zI 4 (nI kd)) (nI 0 ≤ (nI b2) ∧ (nI b2) ≤ nI 1000) (True)) = 0 := x3_0 c20.1 c20.2 trivial
        have eW : cM k bd M O (nI ((x3 (zI 4 (nI i) ∧ zI 4 (nI kd)) (nI 0 ≤ (nI b2) ∧ (nI b2) ≤ nI 1000) (True)))) = cM k bd M O (nI (y2 (zI 4 (nI i) ∧ zI 4 (nI kd)) (nI 0 ≤ (nI b2) ∧ (nI b2) ≤ nI 1000))) := by rw [← y2_ab] <;> rfl
        rw [← eW] at hP hD
        refine W.widen (k := 0) (n := 0) (Nat.le_of_ble_eq_true rfl) (Nat.le_of_ble_eq_true rfl) ?_
        exact W.zret (v := nI 1) hx hb hr rfl (fun t ht hW => ⟨⟨nI 1, (), rfl, fun _ => (bI_t c21).symm, ⟨by rw [ht]; exact hP, va_K.moved hW.alike hK⟩, hD⟩, hS.F ht⟩) hS.2.2 dX3_isCovered_49
  · refine lv_iload_n hx hb dX3_isCovered_8 rfl (lv_at hl 2 rfl) ?_
    refine z_cS (As := [.int p1]) (rest := [.ref (bd 0)]) F (c_X3_isKind l p1) (va_cwS 1 hts gX3_isCovered_X3_isKind rfl rfl rfl (by decide +kernel) ⟨Nat.le_of_ble_eq_true rfl, Nat.le_of_ble_eq_true rfl⟩) rfl hl.1 rfl (Nat.le_of_ble_eq_true rfl) dX3_isCovered_9 ⟨Nat.le_of_ble_eq_true rfl, Nat.le_of_ble_eq_true rfl⟩ (fun r hr => ?_)
    subst hr
    refine z_ifb_eq (tgt := 19) F dX3_isCovered_12 (by decide) (fun c22 => ?_) (fun c22 => ?_)
    · refine lv_iconst (v := nI 0) hx hb dX3_isCovered_19 (by decide) ?_
      refine z_top (show nI 0 = bI (zI 4 p0 ∧ zI 4 p1) from (bI_f (fun zz1 => by have zz2 := zz1.2; first | exact c22 zz2 | omega)).symm) ?_
      refine lv_iload_n hx hb dX3_isCovered_20 rfl (lv_at hl 3 rfl) ?_
      refine lv_iconst (v := nI 0) hx hb dX3_isCovered_21 (by decide) ?_
      refine lv_sipush (v := nI 1000) hx hb dX3_isCovered_22 (by decide) ?_
      refine z_cS (As := [.int p2, .int (nI 0), .int (nI 1000)]) (rest := [.int (bI (zI 4 p0 ∧ zI 4 p1)), .ref (bd 0)]) F (c_X3_in l p2 (nI 0) (nI 1000)) (va_cwS 3 hts gX3_isCovered_X3_in rfl rfl rfl (by decide +kernel) ⟨Nat.le_of_ble_eq_true rfl, Nat.le_of_ble_eq_true rfl⟩) rfl hl.1 rfl (Nat.le_of_ble_eq_true rfl) dX3_isCovered_25 ⟨Nat.le_of_ble_eq_true rfl, Nat.le_of_ble_eq_true rfl⟩ (fun r hr => ?_)
      subst hr
      refine z_mV (qc := (RX3, TX3, 21)) (As := [.int (bI (zI 4 p0 ∧ zI 4 p1)), .int (bI (nI 0 ≤ p2 ∧ p2 ≤ nI 1000))]) (rest := []) (0) F (c_X3_asked_ l D k bd M O th _ (zI 4 p0 ∧ zI 4 p1) (nI 0 ≤ p2 ∧ p2 ≤ nI 1000)) (cwV 2 hts gX3_isCovered_X3_asked_ rfl rfl rfl (by decide +kernel) ⟨Nat.le_of_ble_eq_true rfl, Nat.le_of_ble_eq_true rfl⟩) hK hP hD hS hA (by omega) cM_0 rfl rfl hl.1 rfl (Nat.le_of_ble_eq_true rfl) dX3_isCovered_28 ⟨Nat.le_of_ble_eq_true rfl, Nat.le_of_ble_eq_true rfl⟩ (fun r H locs hr0 hP hD hS => ?_)
      subst hr0
      refine z_ifb_eq (tgt := 48) F dX3_isCovered_31 (by decide) (fun c23 => ?_) (fun c23 => ?_)
      · refine lv_iconst (v := nI 0) hx hb dX3_isCovered_48 (by decide) ?_
        have hx0 : (x3 (zI 4 p0 ∧ zI 4 p1) (nI 0 ≤ p2 ∧ p2 ≤ nI 1000) (True)) ≠ 0 := x3_no (fun zz1 => c23 ⟨zz1.1, zz1.2.1⟩)
        have eW : cM k bd M O (nI ((x3 (zI 4 p0 ∧ zI 4 p1) (nI 0 ≤ p2 ∧ p2 ≤ nI 1000) (True)))) = cM k bd M O (nI (y2 (zI 4 p0 ∧ zI 4 p1) (nI 0 ≤ p2 ∧ p2 ≤ nI 1000))) := by rw [← y2_ab] <;> rfl
        rw [← eW] at hP hD
        refine W.widen (k := 0) (n := 0) (Nat.le_of_ble_eq_true rfl) (Nat.le_of_ble_eq_true rfl) ?_
        exact W.zret (v := nI 0) hx hb hr rfl (fun t ht hW => ⟨⟨nI 0, (), rfl, fun zz1 => absurd zz1 hx0, ⟨by rw [ht]; exact hP, va_K.moved hW.alike hK⟩, hD⟩, hS.F ht⟩) hS.2.2 dX3_isCovered_49
      · obtain ⟨i, hi, rfl⟩ := id (c23.1.1)
        try rw [ix_nI (show i < 2 ^ 31 by omega)]
        obtain ⟨kd, hkd, rfl⟩ := id (c23.1.2)
        try rw [ix_nI (show kd < 2 ^ 31 by omega)]
        obtain ⟨b2, hb20, hb2, rfl⟩ := (zB_iff (by omega) (by decide)).mp (c23.2)
        try rw [ix_nI (show b2 < 2 ^ 31 by omega)]
        obtain ⟨hs, hco⟩ := hI3 i hi
        refine lv_aload_n hx hb dX3_isCovered_34 rfl (lv_at hl 0 rfl) ?_
        refine lv_iload_n hx hb dX3_isCovered_35 rfl (lv_at hl 1 rfl) ?_
        refine lv_iload_n hx hb dX3_isCovered_36 rfl (lv_at hl 2 rfl) ?_
        refine lv_iload_n hx hb dX3_isCovered_37 rfl (lv_at hl 3 rfl) ?_
        refine z_cV (qc := (RX3, TX3, 21)) (As := [.int (nI i), .int (nI kd), .int (nI b2)]) (rest := []) (0) F (c_X3_covered l D k bd M O (nI (y2 (zI 4 (nI i) ∧ zI 4 (nI kd)) (nI 0 ≤ (nI b2) ∧ (nI b2) ≤ nI 1000))) i kd b2 hs hco hi hkd (by omega)) (cwV 3 hts gX3_isCovered_X3_covered rfl rfl rfl (by decide +kernel) ⟨Nat.le_of_ble_eq_true rfl, Nat.le_of_ble_eq_true rfl⟩) hK hP (by omega) cM_0 rfl rfl hl.1 rfl (Nat.le_of_ble_eq_true rfl) dX3_isCovered_38 ⟨Nat.le_of_ble_eq_true rfl, Nat.le_of_ble_eq_true rfl⟩ (fun r hr => ?_)
        subst hr
        refine z_ifb_eq (tgt := 48) F dX3_isCovered_41 (by decide) (fun c24 => ?_) (fun c24 => ?_)
        · refine lv_iconst (v := nI 0) hx hb dX3_isCovered_48 (by decide) ?_
          have hx0 : (x3 (zI 4 (nI i) ∧ zI 4 (nI kd)) (nI 0 ≤ (nI b2) ∧ (nI b2) ≤ nI 1000) (True)) = 0 := x3_0 c23.1 c23.2 trivial
          have eW : cM k bd M O (nI ((x3 (zI 4 (nI i) ∧ zI 4 (nI kd)) (nI 0 ≤ (nI b2) ∧ (nI b2) ≤ nI 1000) (True)))) = cM k bd M O (nI (y2 (zI 4 (nI i) ∧ zI 4 (nI kd)) (nI 0 ≤ (nI b2) ∧ (nI b2) ≤ nI 1000))) := by rw [← y2_ab] <;> rfl
          rw [← eW] at hP hD
          refine W.widen (k := 0) (n := 0) (Nat.le_of_ble_eq_true rfl) (Nat.le_of_ble_eq_true rfl) ?_
          exact W.zret (v := nI 0) hx hb hr rfl (fun t ht hW => ⟨⟨nI 0, (), rfl, fun _ => (bI_f c24).symm, ⟨by rw [ht]; exact hP, va_K.moved hW.alike hK⟩, hD⟩, hS.F ht⟩) hS.2.2 dX3_isCovered_49
        · refine lv_iconst (v := nI 1) hx hb dX3_isCovered_44 (by decide) ?_
          refine lv_goto (tgt := 49) hx hb dX3_isCovered_45 (by decide) ?_
          have hx0 : (x3 (zI 4 (nI i) ∧ zI 4 (nI kd)) (nI 0 ≤ (nI b2) ∧ (nI b2) ≤ nI 1000) (True)) = 0 := x3_0 c23.1 c23.2 trivial
          have eW : cM k bd M O (nI ((x3 (zI 4 (nI i) ∧ zI 4 (nI kd)) (nI 0 ≤ (nI b2) ∧ (nI b2) ≤ nI 1000) (True)))) = cM k bd M O (nI (y2 (zI 4 (nI i) ∧ zI 4 (nI kd)) (nI 0 ≤ (nI b2) ∧ (nI b2) ≤ nI 1000))) := by rw [← y2_ab] <;> rfl
          rw [← eW] at hP hD
          refine W.widen (k := 0) (n := 0) (Nat.le_of_ble_eq_true rfl) (Nat.le_of_ble_eq_true rfl) ?_
          exact W.zret (v := nI 1) hx hb hr rfl (fun t ht hW => ⟨⟨nI 1, (), rfl, fun _ => (bI_t c24).symm, ⟨by rw [ht]; exact hP, va_K.moved hW.alike hK⟩, hD⟩, hS.F ht⟩) hS.2.2 dX3_isCovered_49
    · refine lv_iconst (v := nI 1) hx hb dX3_isCovered_15 (by decide) ?_
      refine lv_goto (tgt := 20) hx hb dX3_isCovered_16 (by decide) ?_
      refine z_top (show nI 1 = bI (zI 4 p0 ∧ zI 4 p1) from (bI_t ⟨c19, c22⟩).symm) ?_
      refine lv_iload_n hx hb dX3_isCovered_20 rfl (lv_at hl 3 rfl) ?_
      refine lv_iconst (v := nI 0) hx hb dX3_isCovered_21 (by decide) ?_
      refine lv_sipush (v := nI 1000) hx hb dX3_isCovered_22 (by decide) ?_
      refine z_cS (As := [.int p2, .int (nI 0), .int (nI 1000)]) (rest := [.int (bI (zI 4 p0 ∧ zI 4 p1)), .ref (bd 0)]) F (c_X3_in l p2 (nI 0) (nI 1000)) (va_cwS 3 hts gX3_isCovered_X3_in rfl rfl rfl (by decide +kernel) ⟨Nat.le_of_ble_eq_true rfl, Nat.le_of_ble_eq_true rfl⟩) rfl hl.1 rfl (Nat.le_of_ble_eq_true rfl) dX3_isCovered_25 ⟨Nat.le_of_ble_eq_true rfl, Nat.le_of_ble_eq_true rfl⟩ (fun r hr => ?_)
      subst hr
      refine z_mV (qc := (RX3, TX3, 21)) (As := [.int (bI (zI 4 p0 ∧ zI 4 p1)), .int (bI (nI 0 ≤ p2 ∧ p2 ≤ nI 1000))]) (rest := []) (0) F (c_X3_asked_ l D k bd M O th _ (zI 4 p0 ∧ zI 4 p1) (nI 0 ≤ p2 ∧ p2 ≤ nI 1000)) (cwV 2 hts gX3_isCovered_X3_asked_ rfl rfl rfl (by decide +kernel) ⟨Nat.le_of_ble_eq_true rfl, Nat.le_of_ble_eq_true rfl⟩) hK hP hD hS hA (by omega) cM_0 rfl rfl hl.1 rfl (Nat.le_of_ble_eq_true rfl) dX3_isCovered_28 ⟨Nat.le_of_ble_eq_true rfl, Nat.le_of_ble_eq_true rfl⟩ (fun r H locs hr0 hP hD hS => ?_)
      subst hr0
      refine z_ifb_eq (tgt := 48) F dX3_isCovered_31 (by decide) (fun c25 => ?_) (fun c25 => ?_)
      · refine lv_iconst (v := nI 0) hx hb dX3_isCovered_48 (by decide) ?_
        have hx0 : (x3 (zI 4 p0 ∧ zI 4 p1) (nI 0 ≤ p2 ∧ p2 ≤ nI 1000) (True)) ≠ 0 := x3_no (fun zz1 => c25 ⟨zz1.1, zz1.2.1⟩)
        have eW : cM k bd M O (nI ((x3 (zI 4 p0 ∧ zI 4 p1) (nI 0 ≤ p2 ∧ p2 ≤ nI 1000) (True)))) = cM k bd M O (nI (y2 (zI 4 p0 ∧ zI 4 p1) (nI 0 ≤ p2 ∧ p2 ≤ nI 1000))) := by rw [← y2_ab] <;> rfl
        rw [← eW] at hP hD
        refine W.widen (k := 0) (n := 0) (Nat.le_of_ble_eq_true rfl) (Nat.le_of_ble_eq_true rfl) ?_
        exact W.zret (v := nI 0) hx hb hr rfl (fun t ht hW => ⟨⟨nI 0, (), rfl, fun zz1 => absurd zz1 hx0, ⟨by rw [ht]; exact hP, va_K.moved hW.alike hK⟩, hD⟩, hS.F ht⟩) hS.2.2 dX3_isCovered_49
      · obtain ⟨i, hi, rfl⟩ := id (c25.1.1)
        try rw [ix_nI (show i < 2 ^ 31 by omega)]
        obtain ⟨kd, hkd, rfl⟩ := id (c25.1.2)
        try rw [ix_nI (show kd < 2 ^ 31 by omega)]
        obtain ⟨b2, hb20, hb2, rfl⟩ := (zB_iff (by omega) (by decide)).mp (c25.2)
        try rw [ix_nI (show b2 < 2 ^ 31 by omega)]
        obtain ⟨hs, hco⟩ := hI3 i hi
        refine lv_aload_n hx hb dX3_isCovered_34 rfl (lv_at hl 0 rfl) ?_
        refine lv_iload_n hx hb dX3_isCovered_35 rfl (lv_at hl 1 rfl) ?_
        refine lv_iload_n hx hb dX3_isCovered_36 rfl (lv_at hl 2 rfl) ?_
        refine lv_iload_n hx hb dX3_isCovered_37 rfl (lv_at hl 3 rfl) ?_
        refine z_cV (qc := (RX3, TX3, 21)) (As := [.int (nI i), .int (nI kd), .int (nI b2)]) (rest := []) (0) F (c_X3_covered l D k bd M O (nI (y2 (zI 4 (nI i) ∧ zI 4 (nI kd)) (nI 0 ≤ (nI b2) ∧ (nI b2) ≤ nI 1000))) i kd b2 hs hco hi hkd (by omega)) (cwV 3 hts gX3_isCovered_X3_covered rfl rfl rfl (by decide +kernel) ⟨Nat.le_of_ble_eq_true rfl, Nat.le_of_ble_eq_true rfl⟩) hK hP (by omega) cM_0 rfl rfl hl.1 rfl (Nat.le_of_ble_eq_true rfl) dX3_isCovered_38 ⟨Nat.le_of_ble_eq_true rfl, Nat.le_of_ble_eq_true rfl⟩ (fun r hr => ?_)
        subst hr
        refine z_ifb_eq (tgt := 48) F dX3_isCovered_41 (by decide) (fun c26 => ?_) (fun c26 => ?_)
        · refine lv_iconst (v := nI 0) hx hb dX3_isCovered_48 (by decide) ?_
          have hx0 : (x3 (zI 4 (nI i) ∧ zI 4 (nI kd)) (nI 0 ≤ (nI b2) ∧ (nI b2) ≤ nI 1000) (True)) = 0 := x3_0 c25.1 c25.2 trivial
          have eW : cM k bd M O (nI ((x3 (zI 4 (nI i) ∧ zI 4 (nI kd)) (nI 0 ≤ (nI b2) ∧ (nI b2) ≤ nI 1000) (True)))) = cM k bd M O (nI (y2 (zI 4 (nI i) ∧ zI 4 (nI kd)) (nI 0 ≤ (nI b2) ∧ (nI b2) ≤ nI 1000))) := by rw [← y2_ab] <;> rfl
          rw [← eW] at hP hD
          refine W.widen (k := 0) (n := 0) (Nat.le_of_ble_eq_true rfl) (Nat.le_of_ble_eq_true rfl) ?_
          exact W.zret (v := nI 0) hx hb hr rfl (fun t ht hW => ⟨⟨nI 0, (), rfl, fun _ => (bI_f c26).symm, ⟨by rw [ht]; exact hP, va_K.moved hW.alike hK⟩, hD⟩, hS.F ht⟩) hS.2.2 dX3_isCovered_49
        · refine lv_iconst (v := nI 1) hx hb dX3_isCovered_44 (by decide) ?_
          refine lv_goto (tgt := 49) hx hb dX3_isCovered_45 (by decide) ?_
          have hx0 : (x3 (zI 4 (nI i) ∧ zI 4 (nI kd)) (nI 0 ≤ (nI b2) ∧ (nI b2) ≤ nI 1000) (True)) = 0 := x3_0 c25.1 c25.2 trivial
          have eW : cM k bd M O (nI ((x3 (zI 4 (nI i) ∧ zI 4 (nI kd)) (nI 0 ≤ (nI b2) ∧ (nI b2) ≤ nI 1000) (True)))) = cM k bd M O (nI (y2 (zI 4 (nI i) ∧ zI 4 (nI kd)) (nI 0 ≤ (nI b2) ∧ (nI b2) ≤ nI 1000))) := by rw [← y2_ab] <;> rfl
          rw [← eW] at hP hD
          refine W.widen (k := 0) (n := 0) (Nat.le_of_ble_eq_true rfl) (Nat.le_of_ble_eq_true rfl) ?_
          exact W.zret (v := nI 1) hx hb hr rfl (fun t ht hW => ⟨⟨nI 1, (), rfl, fun _ => (bI_t c26).symm, ⟨by rw [ht]; exact hP, va_K.moved hW.alike hK⟩, hD⟩, hS.F ht⟩) hS.2.2 dX3_isCovered_49
set_option maxRecDepth 100000 in
set_option maxHeartbeats 1000000 in
theorem c_X3_time (l : Launch) (D : va_G) (k : Nat → ClassId) (bd : Nat → Nat) (M : Nat → Nat → Nat) (O : Nat → Nat → Int32) (th : Int32) (sz : Nat) (hI : zInv M)  : Met l yX3_time wsX3_time ({ frames := 1, cells := 0, slots := 0, locals := 21 }) (va_Pc [.ref (bd 0)] (zG D k 19 bd (cM k bd M O th) sz)) (zQw D k 19 bd (cM k bd M O (nI ((x3 (True) (True) (True))))) (va_A (zw 19 bd (cM k bd M O th)) sz) (fun r => (x3 (True) (True) (True)) = 0 → r = (nI (M 0 0)))) 0 0 (va_A (zw 19 bd (cM k bd M O th)) sz) := by
  refine Met.ofW (cc := cX3_time) (maxL := 1) (ret := (some .int)) (by decide) rfl ?_
  intro p e s m args below meth c s₁ B hml hv
  obtain ⟨rfl, hsz, ⟨hP, hK⟩, hD0⟩ := hv
  have hx := B.exec
  have hb := B.bytes
  have hr := B.returns
  have hts := atoms_spec (ws := wsX3_time) B.pre
  have hown : s.vm.findClass RX3 = some m.cls := findClass_of_methodNamed B.named
  have hlocks := B.notSynchronized
  have F : CallFix p m c cX3_time 1 s _ wsX3_time RX3 := ⟨hx, hb, hml, hown, hts⟩
  subst hsz
  have hD := hD0.self (sz := s.heap.size)
  generalize hAe : va_A (zw 19 bd (cM k bd M O th)) s.heap.size = A at hD ⊢
  have hA : ∀ q : Nat, s.heap.size ≤ q → A q := fun q h => by rw [← hAe]; exact Or.inr h
  have hS : va_S A s.heap s.heap [] := va_S.rf
  have hl := lv_entry ([.ref (bd 0)]) (n := 1) (Nat.le_of_ble_eq_true rfl)
  rw [lg_entry_eq]
  generalize (lg_sl ([.ref (bd 0)]) ++ List.replicate (1 - (lg_sl ([.ref (bd 0)])).length) Slot.unset).toArray = ls at hl ⊢
  have hl : lv_has ls 1 [(0, .ref (bd 0))] := hl
  have hi3 : ∀ w ∈ u_ws RX3 TX3 21, w ∈ wsX3_time := by decide +kernel
  obtain ⟨hI1, hI2, hI3, hI4, hI5, hI6, hI7⟩ := id hI
  refine lv_aload_n hx hb dX3_time_0 rfl (lv_at hl 0 rfl) ?_
  refine lv_aload_n hx hb dX3_time_1 rfl (lv_at hl 0 rfl) ?_
  refine z_get (C := RX3) (T := TX3) (N := 21) (ci := 3) (fs := mObj bd M th) (v := .int (nI (M 0 0))) F hK hP hi3 rfl (0) 0 (by omega) cM_0 (by decide) rfl (by decide +kernel) dX3_time_2 ?_
  refine z_mV (qc := (RX3, TX3, 21)) (As := [.int (nI (M 0 0))]) (rest := []) (0) F (c_X3_told l D k bd M O th _ (nI (M 0 0))) (cwV 1 hts gX3_time_X3_told rfl rfl rfl (by decide +kernel) ⟨Nat.le_of_ble_eq_true rfl, Nat.le_of_ble_eq_true rfl⟩) hK hP hD hS hA (by omega) cM_0 rfl rfl hl.1 rfl (Nat.le_of_ble_eq_true rfl) dX3_time_5 ⟨Nat.le_of_ble_eq_true rfl, Nat.le_of_ble_eq_true rfl⟩ (fun r H locs hr0 hP hD hS => ?_)
  subst hr0
  have hx0 : (x3 (True) (True) (True)) = 0 := x3_0 trivial trivial trivial
  have eW : cM k bd M O (nI ((x3 (True) (True) (True)))) = cM k bd M O (nI 0) := by rw [x3_0 trivial trivial trivial] <;> rfl
  rw [← eW] at hP hD
  refine W.widen (k := 0) (n := 0) (Nat.le_of_ble_eq_true rfl) (Nat.le_of_ble_eq_true rfl) ?_
  exact W.iret (v := nI (M 0 0)) hx hb hr (fun t ht hW => ⟨⟨nI (M 0 0), (), rfl, fun _ => rfl, ⟨by rw [ht]; exact hP, va_K.moved hW.alike hK⟩, hD⟩, hS.F ht⟩) hS.2.2 dX3_time_8
set_option maxRecDepth 100000 in
set_option maxHeartbeats 1000000 in
theorem c_X3_clock (l : Launch) (D : va_G) (k : Nat → ClassId) (bd : Nat → Nat) (M : Nat → Nat → Nat) (O : Nat → Nat → Int32) (th : Int32) (sz : Nat) (hI : zInv M) (p0 p1 : Int32) : Met l yX3_clock wsX3_clock ({ frames := 2, cells := 0, slots := 0, locals := 43 }) (va_Pc [.ref (bd 0), .int p0, .int p1] (zG D k 19 bd (cM k bd M O th) sz)) (zQw D k 19 bd (cM k bd M O (nI ((x3 (zI (M 0 1) p0) (nI 0 ≤ p1 ∧ p1 ≤ nI 2) (True))))) (va_A (zw 19 bd (cM k bd M O th)) sz) (fun r => (x3 (zI (M 0 1) p0) (nI 0 ≤ p1 ∧ p1 ≤ nI 2) (True)) = 0 → r = (nI (M 15 (3 * ix p0 + ix p1))))) 0 0 (va_A (zw 19 bd (cM k bd M O th)) sz) := by
  refine Met.ofW (cc := cX3_clock) (maxL := 3) (ret := (some .int)) (by decide) rfl ?_
  intro p e s m args below meth c s₁ B hml hv
  obtain ⟨rfl, hsz, ⟨hP, hK⟩, hD0⟩ := hv
  have hx := B.exec
  have hb := B.bytes
  have hr := B.returns
  have hts := atoms_spec (ws := wsX3_clock) B.pre
  have hown : s.vm.findClass RX3 = some m.cls := findClass_of_methodNamed B.named
  have hlocks := B.notSynchronized
  have F : CallFix p m c cX3_clock 3 s _ wsX3_clock RX3 := ⟨hx, hb, hml, hown, hts⟩
  subst hsz
  have hD := hD0.self (sz := s.heap.size)
  generalize hAe : va_A (zw 19 bd (cM k bd M O th)) s.heap.size = A at hD ⊢
  have hA : ∀ q : Nat, s.heap.size ≤ q → A q := fun q h => by rw [← hAe]; exact Or.inr h
  have hS : va_S A s.heap s.heap [] := va_S.rf
  have hl := lv_entry ([.ref (bd 0), .int p0, .int p1]) (n := 3) (Nat.le_of_ble_eq_true rfl)
  rw [lg_entry_eq]
  generalize (lg_sl ([.ref (bd 0), .int p0, .int p1]) ++ List.replicate (3 - (lg_sl ([.ref (bd 0), .int p0, .int p1])).length) Slot.unset).toArray = ls at hl ⊢
  have hl : lv_has ls 3 [(0, .ref (bd 0)), (1, .int p0), (2, .int p1)] := hl
  have hi3 : ∀ w ∈ u_ws RX3 TX3 21, w ∈ wsX3_clock := by decide +kernel
  obtain ⟨hI1, hI2, hI3, hI4, hI5, hI6, hI7⟩ := id hI
  refine lv_aload_n hx hb dX3_clock_0 rfl (lv_at hl 0 rfl) ?_
  refine lv_aload_n hx hb dX3_clock_1 rfl (lv_at hl 0 rfl) ?_
  refine lv_iload_n hx hb dX3_clock_2 rfl (lv_at hl 1 rfl) ?_
  refine z_cV (qc := (RX3, TX3, 21)) (As := [.int p0]) (rest := [.ref (bd 0)]) (0) F (c_X3_isCase l D k bd M O th hI2 p0) (cwV 1 hts gX3_clock_X3_isCase rfl rfl rfl (by decide +kernel) ⟨Nat.le_of_ble_eq_true rfl, Nat.le_of_ble_eq_true rfl⟩) hK hP (by omega) cM_0 rfl rfl hl.1 rfl (Nat.le_of_ble_eq_true rfl) dX3_clock_3 ⟨Nat.le_of_ble_eq_true rfl, Nat.le_of_ble_eq_true rfl⟩ (fun r hr => ?_)
  subst hr
  refine lv_iload_n hx hb dX3_clock_6 rfl (lv_at hl 2 rfl) ?_
  refine z_cS (As := [.int p1]) (rest := [.int (bI (zI (M 0 1) p0)), .ref (bd 0)]) F (c_X3_isStage l p1) (va_cwS 1 hts gX3_clock_X3_isStage rfl rfl rfl (by decide +kernel) ⟨Nat.le_of_ble_eq_true rfl, Nat.le_of_ble_eq_true rfl⟩) rfl hl.1 rfl (Nat.le_of_ble_eq_true rfl) dX3_clock_7 ⟨Nat.le_of_ble_eq_true rfl, Nat.le_of_ble_eq_true rfl⟩ (fun r hr => ?_)
  subst hr
  refine z_mV (qc := (RX3, TX3, 21)) (As := [.int (bI (zI (M 0 1) p0)), .int (bI (nI 0 ≤ p1 ∧ p1 ≤ nI 2))]) (rest := []) (0) F (c_X3_asked_ l D k bd M O th _ (zI (M 0 1) p0) (nI 0 ≤ p1 ∧ p1 ≤ nI 2)) (cwV 2 hts gX3_clock_X3_asked_ rfl rfl rfl (by decide +kernel) ⟨Nat.le_of_ble_eq_true rfl, Nat.le_of_ble_eq_true rfl⟩) hK hP hD hS hA (by omega) cM_0 rfl rfl hl.1 rfl (Nat.le_of_ble_eq_true rfl) dX3_clock_10 ⟨Nat.le_of_ble_eq_true rfl, Nat.le_of_ble_eq_true rfl⟩ (fun r H locs hr0 hP hD hS => ?_)
  subst hr0
  refine z_ifb_eq (tgt := 29) F dX3_clock_13 (by decide) (fun c27 => ?_) (fun c27 => ?_)
  · refine lv_iconst (v := nI 0) hx hb dX3_clock_29 (by decide) ?_
    have hx0 : (x3 (zI (M 0 1) p0) (nI 0 ≤ p1 ∧ p1 ≤ nI 2) (True)) ≠ 0 := x3_no (fun zz1 => c27 ⟨zz1.1, zz1.2.1⟩)
    have eW : cM k bd M O (nI ((x3 (zI (M 0 1) p0) (nI 0 ≤ p1 ∧ p1 ≤ nI 2) (True)))) = cM k bd M O (nI (y2 (zI (M 0 1) p0) (nI 0 ≤ p1 ∧ p1 ≤ nI 2))) := by rw [← y2_ab] <;> rfl
    rw [← eW] at hP hD
    refine W.widen (k := 0) (n := 0) (Nat.le_of_ble_eq_true rfl) (Nat.le_of_ble_eq_true rfl) ?_
    exact W.iret (v := nI 0) hx hb hr (fun t ht hW => ⟨⟨nI 0, (), rfl, fun zz1 => absurd zz1 hx0, ⟨by rw [ht]; exact hP, va_K.moved hW.alike hK⟩, hD⟩, hS.F ht⟩) hS.2.2 dX3_clock_30
  · obtain ⟨i, hi, rfl⟩ := id (c27.1)
    try rw [ix_nI (show i < 2 ^ 31 by omega)]
    obtain ⟨st, hst0, hst, rfl⟩ := (zB_iff (by omega) (by decide)).mp (c27.2)
    try rw [ix_nI (show st < 2 ^ 31 by omega)]
    have hz := hI5 i hi
    have hk9 : ∀ x, x < 120 → M 15 x ≤ 24000 := fun x h => Nat.le_trans (hI6 x h) hI1
    refine lv_aload_n hx hb dX3_clock_16 rfl (lv_at hl 0 rfl) ?_
    refine z_get (C := RX3) (T := TX3) (N := 21) (ci := 3) (fs := mObj bd M (nI (y2 (zI (M 0 1) (nI i)) (nI 0 ≤ (nI st) ∧ (nI st) ≤ nI 2)))) (v := .ref (bd 15)) F hK hP hi3 rfl (0) 15 (by omega) cM_0 (by decide) rfl (by decide +kernel) dX3_clock_17 ?_
    refine lv_iconst (v := nI 3) hx hb dX3_clock_20 (by decide) ?_
    refine lv_iload_n hx hb dX3_clock_21 rfl (lv_at hl 1 rfl) ?_
    refine z_mul F dX3_clock_22 ?_
    refine lv_iload_n hx hb dX3_clock_23 rfl (lv_at hl 2 rfl) ?_
    refine z_add F dX3_clock_24 ?_
    refine z_iald (v := nI (M 15 ((3 * i) + st))) (cA := k 0) (len := 120) (g := mA M O 15) F hK hP (15) 0 (by omega) rfl rfl (i := nI ((3 * i) + st)) ((3 * i) + st) rfl (by omega) (by decide) rfl dX3_clock_25 ?_
    refine lv_goto (tgt := 30) hx hb dX3_clock_26 (by decide) ?_
    have hx0 : (x3 (zI (M 0 1) (nI i)) (nI 0 ≤ (nI st) ∧ (nI st) ≤ nI 2) (True)) = 0 := x3_0 c27.1 c27.2 trivial
    have eW : cM k bd M O (nI ((x3 (zI (M 0 1) (nI i)) (nI 0 ≤ (nI st) ∧ (nI st) ≤ nI 2) (True)))) = cM k bd M O (nI (y2 (zI (M 0 1) (nI i)) (nI 0 ≤ (nI st) ∧ (nI st) ≤ nI 2))) := by rw [← y2_ab] <;> rfl
    rw [← eW] at hP hD
    refine W.widen (k := 0) (n := 0) (Nat.le_of_ble_eq_true rfl) (Nat.le_of_ble_eq_true rfl) ?_
    exact W.iret (v := nI (M 15 ((3 * i) + st))) hx hb hr (fun t ht hW => ⟨⟨nI (M 15 ((3 * i) + st)), (), rfl, fun _ => rfl, ⟨by rw [ht]; exact hP, va_K.moved hW.alike hK⟩, hD⟩, hS.F ht⟩) hS.2.2 dX3_clock_30
set_option maxRecDepth 100000 in
set_option maxHeartbeats 1000000 in
theorem c_X3_isMissed (l : Launch) (D : va_G) (k : Nat → ClassId) (bd : Nat → Nat) (M : Nat → Nat → Nat) (O : Nat → Nat → Int32) (th : Int32) (sz : Nat) (hI : zInv M) (p0 p1 : Int32) : Met l yX3_isMissed wsX3_isMissed ({ frames := 2, cells := 0, slots := 0, locals := 43 }) (va_Pc [.ref (bd 0), .int p0, .int p1] (zG D k 19 bd (cM k bd M O th) sz)) (zQw D k 19 bd (cM k bd M O (nI ((x3 (zI (M 0 1) p0) (nI 0 ≤ p1 ∧ p1 ≤ nI 2) (True))))) (va_A (zw 19 bd (cM k bd M O th)) sz) (fun r => (x3 (zI (M 0 1) p0) (nI 0 ≤ p1 ∧ p1 ≤ nI 2) (True)) = 0 → r = (bI (M 8 (3 * M 11 (ix p0) + ix p1) < M 15 (3 * ix p0 + ix p1))))) 0 0 (va_A (zw 19 bd (cM k bd M O th)) sz) := by
  refine Met.ofW (cc := cX3_isMissed) (maxL := 3) (ret := (some .boolean)) (by decide) rfl ?_
  intro p e s m args below meth c s₁ B hml hv
  obtain ⟨rfl, hsz, ⟨hP, hK⟩, hD0⟩ := hv
  have hx := B.exec
  have hb := B.bytes
  have hr := B.returns
  have hts := atoms_spec (ws := wsX3_isMissed) B.pre
  have hown : s.vm.findClass RX3 = some m.cls := findClass_of_methodNamed B.named
  have hlocks := B.notSynchronized
  have F : CallFix p m c cX3_isMissed 3 s _ wsX3_isMissed RX3 := ⟨hx, hb, hml, hown, hts⟩
  subst hsz
  have hD := hD0.self (sz := s.heap.size)
  generalize hAe : va_A (zw 19 bd (cM k bd M O th)) s.heap.size = A at hD ⊢
  have hA : ∀ q : Nat, s.heap.size ≤ q → A q := fun q h => by rw [← hAe]; exact Or.inr h
  have hS : va_S A s.heap s.heap [] := va_S.rf
  have hl := lv_entry ([.ref (bd 0), .int p0, .int p1]) (n := 3) (Nat.le_of_ble_eq_true rfl)
  rw [lg_entry_eq]
  generalize (lg_sl ([.ref (bd 0), .int p0, .int p1]) ++ List.replicate (3 - (lg_sl ([.ref (bd 0), .int p0, .int p1])).length) Slot.unset).toArray = ls at hl ⊢
  have hl : lv_has ls 3 [(0, .ref (bd 0)), (1, .int p0), (2, .int p1)] := hl
  have hi3 : ∀ w ∈ u_ws RX3 TX3 21, w ∈ wsX3_isMissed := by decide +kernel
  obtain ⟨hI1, hI2, hI3, hI4, hI5, hI6, hI7⟩ := id hI
  refine lv_aload_n hx hb dX3_isMissed_0 rfl (lv_at hl 0 rfl) ?_
  refine lv_aload_n hx hb dX3_isMissed_1 rfl (lv_at hl 0 rfl) ?_
  refine lv_iload_n hx hb dX3_isMissed_2 rfl (lv_at hl 1 rfl) ?_
  refine z_cV (qc := (RX3, TX3, 21)) (As := [.int p0]) (rest := [.ref (bd 0)]) (0) F (c_X3_isCase l D k bd M O th hI2 p0) (cwV 1 hts gX3_isMissed_X3_isCase rfl rfl rfl (by decide +kernel) ⟨Nat.le_of_ble_eq_true rfl, Nat.le_of_ble_eq_true rfl⟩) hK hP (by omega) cM_0 rfl rfl hl.1 rfl (Nat.le_of_ble_eq_true rfl) dX3_isMissed_3 ⟨Nat.le_of_ble_eq_true rfl, Nat.le_of_ble_eq_true rfl⟩ (fun r hr => ?_)
  subst hr
  refine lv_iload_n hx hb dX3_isMissed_6 rfl (lv_at hl 2 rfl) ?_
  refine z_cS (As := [.int p1]) (rest := [.int (bI (zI (M 0 1) p0)), .ref (bd 0)]) F (c_X3_isStage l p1) (va_cwS 1 hts gX3_isMissed_X3_isStage rfl rfl rfl (by decide +kernel) ⟨Nat.le_of_ble_eq_true rfl, Nat.le_of_ble_eq_true rfl⟩) rfl hl.1 rfl (Nat.le_of_ble_eq_true rfl) dX3_isMissed_7 ⟨Nat.le_of_ble_eq_true rfl, Nat.le_of_ble_eq_true rfl⟩ (fun r hr => ?_)
  subst hr
  refine z_mV (qc := (RX3, TX3, 21)) (As := [.int (bI (zI (M 0 1) p0)), .int (bI (nI 0 ≤ p1 ∧ p1 ≤ nI 2))]) (rest := []) (0) F (c_X3_asked_ l D k bd M O th _ (zI (M 0 1) p0) (nI 0 ≤ p1 ∧ p1 ≤ nI 2)) (cwV 2 hts gX3_isMissed_X3_asked_ rfl rfl rfl (by decide +kernel) ⟨Nat.le_of_ble_eq_true rfl, Nat.le_of_ble_eq_true rfl⟩) hK hP hD hS hA (by omega) cM_0 rfl rfl hl.1 rfl (Nat.le_of_ble_eq_true rfl) dX3_isMissed_10 ⟨Nat.le_of_ble_eq_true rfl, Nat.le_of_ble_eq_true rfl⟩ (fun r H locs hr0 hP hD hS => ?_)
  subst hr0
  refine z_ifb_eq (tgt := 29) F dX3_isMissed_13 (by decide) (fun c28 => ?_) (fun c28 => ?_)
  · refine lv_iconst (v := nI 0) hx hb dX3_isMissed_29 (by decide) ?_
    have hx0 : (x3 (zI (M 0 1) p0) (nI 0 ≤ p1 ∧ p1 ≤ nI 2) (True)) ≠ 0 := x3_no (fun zz1 => c28 ⟨zz1.1, zz1.2.1⟩)
    have eW : cM k bd M O (nI ((x3 (zI (M 0 1) p0) (nI 0 ≤ p1 ∧ p1 ≤ nI 2) (True)))) = cM k bd M O (nI (y2 (zI (M 0 1) p0) (nI 0 ≤ p1 ∧ p1 ≤ nI 2))) := by rw [← y2_ab] <;> rfl
    rw [← eW] at hP hD
    refine W.widen (k := 0) (n := 0) (Nat.le_of_ble_eq_true rfl) (Nat.le_of_ble_eq_true rfl) ?_
    exact W.zret (v := nI 0) hx hb hr rfl (fun t ht hW => ⟨⟨nI 0, (), rfl, fun zz1 => absurd zz1 hx0, ⟨by rw [ht]; exact hP, va_K.moved hW.alike hK⟩, hD⟩, hS.F ht⟩) hS.2.2 dX3_isMissed_30
  · obtain ⟨i, hi, rfl⟩ := id (c28.1)
    try rw [ix_nI (show i < 2 ^ 31 by omega)]
    obtain ⟨st, hst0, hst, rfl⟩ := (zB_iff (by omega) (by decide)).mp (c28.2)
    try rw [ix_nI (show st < 2 ^ 31 by omega)]
    have hz := hI5 i hi
    have hk9 : ∀ x, x < 120 → M 15 x ≤ 24000 := fun x h => Nat.le_trans (hI6 x h) hI1
    refine lv_aload_n hx hb dX3_isMissed_16 rfl (lv_at hl 0 rfl) ?_
    refine lv_iload_n hx hb dX3_isMissed_17 rfl (lv_at hl 1 rfl) ?_
    refine lv_iload_n hx hb dX3_isMissed_18 rfl (lv_at hl 2 rfl) ?_
    refine z_cV (qc := (RX3, TX3, 21)) (As := [.int (nI i), .int (nI st)]) (rest := []) (0) F (c_X3_missed l D k bd M O (nI (y2 (zI (M 0 1) (nI i)) (nI 0 ≤ (nI st) ∧ (nI st) ≤ nI 2))) i hz (by omega) st (by omega) hI4 hk9) (cwV 2 hts gX3_isMissed_X3_missed rfl rfl rfl (by decide +kernel) ⟨Nat.le_of_ble_eq_true rfl, Nat.le_of_ble_eq_true rfl⟩) hK hP (by omega) cM_0 rfl rfl hl.1 rfl (Nat.le_of_ble_eq_true rfl) dX3_isMissed_19 ⟨Nat.le_of_ble_eq_true rfl, Nat.le_of_ble_eq_true rfl⟩ (fun r hr => ?_)
    subst hr
    refine z_ifb_eq (tgt := 29) F dX3_isMissed_22 (by decide) (fun c29 => ?_) (fun c29 => ?_)
    · refine lv_iconst (v := nI 0) hx hb dX3_isMissed_29 (by decide) ?_
      have hx0 : (x3 (zI (M 0 1) (nI i)) (nI 0 ≤ (nI st) ∧ (nI st) ≤ nI 2) (True)) = 0 := x3_0 c28.1 c28.2 trivial
      have eW : cM k bd M O (nI ((x3 (zI (M 0 1) (nI i)) (nI 0 ≤ (nI st) ∧ (nI st) ≤ nI 2) (True)))) = cM k bd M O (nI (y2 (zI (M 0 1) (nI i)) (nI 0 ≤ (nI st) ∧ (nI st) ≤ nI 2))) := by rw [← y2_ab] <;> rfl
      rw [← eW] at hP hD
      refine W.widen (k := 0) (n := 0) (Nat.le_of_ble_eq_true rfl) (Nat.le_of_ble_eq_true rfl) ?_
      exact W.zret (v := nI 0) hx hb hr rfl (fun t ht hW => ⟨⟨nI 0, (), rfl, fun _ => (bI_f c29).symm, ⟨by rw [ht]; exact hP, va_K.moved hW.alike hK⟩, hD⟩, hS.F ht⟩) hS.2.2 dX3_isMissed_30
    · refine lv_iconst (v := nI 1) hx hb dX3_isMissed_25 (by decide) ?_
      refine lv_goto (tgt := 30) hx hb dX3_isMissed_26 (by decide) ?_
      have hx0 : (x3 (zI (M 0 1) (nI i)) (nI 0 ≤ (nI st) ∧ (nI st) ≤ nI 2) (True)) = 0 := x3_0 c28.1 c28.2 trivial
      have eW : cM k bd M O (nI ((x3 (zI (M 0 1) (nI i)) (nI 0 ≤ (nI st) ∧ (nI st) ≤ nI 2) (True)))) = cM k bd M O (nI (y2 (zI (M 0 1) (nI i)) (nI 0 ≤ (nI st) ∧ (nI st) ≤ nI 2))) := by rw [← y2_ab] <;> rfl
      rw [← eW] at hP hD
      refine W.widen (k := 0) (n := 0) (Nat.le_of_ble_eq_true rfl) (Nat.le_of_ble_eq_true rfl) ?_
      exact W.zret (v := nI 1) hx hb hr rfl (fun t ht hW => ⟨⟨nI 1, (), rfl, fun _ => (bI_t c29).symm, ⟨by rw [ht]; exact hP, va_K.moved hW.alike hK⟩, hD⟩, hS.F ht⟩) hS.2.2 dX3_isMissed_30
