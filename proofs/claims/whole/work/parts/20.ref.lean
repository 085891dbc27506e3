/-! THE REFERENCE: its small helpers. -/
noncomputable def y1 (a : Prop) : Nat := cI a 0 1
noncomputable def y2 (a b : Prop) : Nat := cI a (cI b 0 2) 1
theorem mA_16 {M : Nat → Nat → Nat} {O : Nat → Nat → Int32} {c s : Nat} (h : s < 3) : mA M O 16 (3 * c + s) = bI (s < M 16 c) := by
  show nI (if (3 * c + s) % 3 < M 16 ((3 * c + s) / 3) then 1 else 0) = _
  rw [show (3 * c + s) % 3 = s by omega, show (3 * c + s) / 3 = c by omega]
  by_cases q : s < M 16 c
  · rw [if_pos q, bI_t q]; rfl
  · rw [if_neg q, bI_f q]; rfl
theorem in_case {n : Nat} (h : n ≤ 40) {p : Int32} : (nI 0 ≤ p ∧ p ≤ nI n - nI 1) ↔ zI n p := by
  by_cases h0 : n = 0
  · subst h0
    constructor
    · rintro ⟨h1, h2⟩
      exfalso
      have e1 : (nI 0 - nI 1 : Int32) = -1 := by decide
      rw [e1] at h2
      have h3 := Int32.le_iff_toInt_le.mp h1
      have h4 := Int32.le_iff_toInt_le.mp h2
      have e2 : (nI 0 : Int32).toInt = 0 := by decide
      have e3 : (-1 : Int32).toInt = -1 := by decide
      omega
    · rintro ⟨j, h1, -⟩; omega
  · rw [pk_sub (show 1 ≤ n by omega), zB_iff (by decide) (by omega)]
    exact (zI_zB (by omega)).symm
theorem in_04 {p : Int32} : (nI 0 ≤ p ∧ p ≤ nI 3) ↔ zI 4 p := by
  rw [zB_iff (by decide) (by decide)]
  exact (zI_zB (N := 4) (by decide)).symm
theorem cI_01 {a : Prop} : cI a 0 1 ≤ 1 := by
  by_cases h : a
  · rw [cI_t h]; exact Nat.zero_le 1
  · rw [cI_f h]; exact Nat.le_refl 1
set_option maxRecDepth 100000 in
set_option maxHeartbeats 1000000 in
theorem c_X3_in (l : Launch) (p0 p1 p2 : Int32) : Met l yX3_in wsX3_in ({ frames := 0, cells := 0, slots := 0, locals := 0 }) (va_Pc [.int p0, .int p1, .int p2] (fun _ => True)) (vp_Si (fun r => r = bI (p1 ≤ p0 ∧ p0 ≤ p2))) 0 0 (fun _ => False) := by
  refine Met.ofW (cc := cX3_in) (maxL := 3) (ret := (some .boolean)) (by decide) rfl ?_
  intro p e s m args below meth c s₁ B hml hv
  obtain ⟨rfl, -⟩ := hv
  have hx := B.exec
  have hb := B.bytes
  have hr := B.returns
  have hts := atoms_spec (ws := wsX3_in) B.pre
  have hown : s.vm.findClass RX3 = some m.cls := findClass_of_methodNamed B.named
  have hlocks := B.notSynchronized
  have F : CallFix p m c cX3_in 3 s _ wsX3_in RX3 := ⟨hx, hb, hml, hown, hts⟩
  have hl := lv_entry ([.int p0, .int p1, .int p2]) (n := 3) (Nat.le_of_ble_eq_true rfl)
  rw [lg_entry_eq]
  generalize (lg_sl ([.int p0, .int p1, .int p2]) ++ List.replicate (3 - (lg_sl ([.int p0, .int p1, .int p2])).length) Slot.unset).toArray = ls at hl ⊢
  have hl : lv_has ls 3 [(0, .int p0), (1, .int p1), (2, .int p2)] := hl
  refine lv_iload_n hx hb dX3_in_0 rfl (lv_at hl 0 rfl) ?_
  refine lv_iload_n hx hb dX3_in_1 rfl (lv_at hl 1 rfl) ?_
  refine lv_icmp_lt (tgt := 14) hx hb dX3_in_2 (by decide) (fun c1 => ?_) (fun c1 => ?_)
  · refine lv_iconst (v := nI 0) hx hb dX3_in_14 (by decide) ?_
    exact W.zret (v := nI 0) hx hb hr rfl (fun t ht hW => ⟨nI 0, rfl, (bI_f (fun zz1 => Int32.not_lt.mpr zz1.1 c1)).symm, ht⟩) (fun q h => by cases h) dX3_in_15
  · refine lv_iload_n hx hb dX3_in_5 rfl (lv_at hl 0 rfl) ?_
    refine lv_iload_n hx hb dX3_in_6 rfl (lv_at hl 2 rfl) ?_
    refine lv_icmp_gt (tgt := 14) hx hb dX3_in_7 (by decide) (fun c2 => ?_) (fun c2 => ?_)
    · refine lv_iconst (v := nI 0) hx hb dX3_in_14 (by decide) ?_
      exact W.zret (v := nI 0) hx hb hr rfl (fun t ht hW => ⟨nI 0, rfl, (bI_f (fun zz1 => Int32.not_lt.mpr zz1.2 c2)).symm, ht⟩) (fun q h => by cases h) dX3_in_15
    · refine lv_iconst (v := nI 1) hx hb dX3_in_10 (by decide) ?_
      refine lv_goto (tgt := 15) hx hb dX3_in_11 (by decide) ?_
      exact W.zret (v := nI 1) hx hb hr rfl (fun t ht hW => ⟨nI 1, rfl, (bI_t ⟨Int32.not_lt.mp c1, Int32.not_lt.mp c2⟩).symm, ht⟩) (fun q h => by cases h) dX3_in_15
set_option maxRecDepth 100000 in
set_option maxHeartbeats 1000000 in
theorem c_X3_isSite (l : Launch) (p0 : Int32) : Met l yX3_isSite wsX3_isSite ({ frames := 1, cells := 0, slots := 0, locals := 22 }) (va_Pc [.int p0] (fun _ => True)) (vp_Si (fun r => r = bI (zI 4 p0))) 0 0 (fun _ => False) := by
  refine Met.ofW (cc := cX3_isSite) (maxL := 1) (ret := (some .boolean)) (by decide) rfl ?_
  intro p e s m args below meth c s₁ B hml hv
  obtain ⟨rfl, -⟩ := hv
  have hx := B.exec
  have hb := B.bytes
  have hr := B.returns
  have hts := atoms_spec (ws := wsX3_isSite) B.pre
  have hown : s.vm.findClass RX3 = some m.cls := findClass_of_methodNamed B.named
  have hlocks := B.notSynchronized
  have F : CallFix p m c cX3_isSite 1 s _ wsX3_isSite RX3 := ⟨hx, hb, hml, hown, hts⟩
  have hl := lv_entry ([.int p0]) (n := 1) (Nat.le_of_ble_eq_true rfl)
  rw [lg_entry_eq]
  generalize (lg_sl ([.int p0]) ++ List.replicate (1 - (lg_sl ([.int p0])).length) Slot.unset).toArray = ls at hl ⊢
  have hl : lv_has ls 1 [(0, .int p0)] := hl
  refine lv_iload_n hx hb dX3_isSite_0 rfl (lv_at hl 0 rfl) ?_
  refine lv_iconst (v := nI 0) hx hb dX3_isSite_1 (by decide) ?_
  refine lv_iconst (v := nI 3) hx hb dX3_isSite_2 (by decide) ?_
  refine z_cS (As := [.int p0, .int (nI 0), .int (nI 3)]) (rest := []) F (c_X3_in l p0 (nI 0) (nI 3)) (va_cwS 3 hts gX3_isSite_X3_in rfl rfl rfl (by decide +kernel) ⟨Nat.le_of_ble_eq_true rfl, Nat.le_of_ble_eq_true rfl⟩) rfl hl.1 rfl (Nat.le_of_ble_eq_true rfl) dX3_isSite_3 ⟨Nat.le_of_ble_eq_true rfl, Nat.le_of_ble_eq_true rfl⟩ (fun r hr => ?_)
  subst hr
  exact W.zret (v := bI (nI 0 ≤ p0 ∧ p0 ≤ nI 3)) hx hb hr bI_n (fun t ht hW => ⟨bI (nI 0 ≤ p0 ∧ p0 ≤ nI 3), rfl, bI_c in_04, ht⟩) (fun q h => by cases h) dX3_isSite_6
set_option maxRecDepth 100000 in
set_option maxHeartbeats 1000000 in
theorem c_X3_isKind (l : Launch) (p0 : Int32) : Met l yX3_isKind wsX3_isKind ({ frames := 1, cells := 0, slots := 0, locals := 22 }) (va_Pc [.int p0] (fun _ => True)) (vp_Si (fun r => r = bI (zI 4 p0))) 0 0 (fun _ => False) := by
  refine Met.ofW (cc := cX3_isKind) (maxL := 1) (ret := (some .boolean)) (by decide) rfl ?_
  intro p e s m args below meth c s₁ B hml hv
  obtain ⟨rfl, -⟩ := hv
  have hx := B.exec
  have hb := B.bytes
  have hr := B.returns
  have hts := atoms_spec (ws := wsX3_isKind) B.pre
  have hown : s.vm.findClass RX3 = some m.cls := findClass_of_methodNamed B.named
  have hlocks := B.notSynchronized
  have F : CallFix p m c cX3_isKind 1 s _ wsX3_isKind RX3 := ⟨hx, hb, hml, hown, hts⟩
  have hl := lv_entry ([.int p0]) (n := 1) (Nat.le_of_ble_eq_true rfl)
  rw [lg_entry_eq]
  generalize (lg_sl ([.int p0]) ++ List.replicate (1 - (lg_sl ([.int p0])).length) Slot.unset).toArray = ls at hl ⊢
  have hl : lv_has ls 1 [(0, .int p0)] := hl
  refine lv_iload_n hx hb dX3_isKind_0 rfl (lv_at hl 0 rfl) ?_
  refine lv_iconst (v := nI 0) hx hb dX3_isKind_1 (by decide) ?_
  refine lv_iconst (v := nI 3) hx hb dX3_isKind_2 (by decide) ?_
  refine z_cS (As := [.int p0, .int (nI 0), .int (nI 3)]) (rest := []) F (c_X3_in l p0 (nI 0) (nI 3)) (va_cwS 3 hts gX3_isKind_X3_in rfl rfl rfl (by decide +kernel) ⟨Nat.le_of_ble_eq_true rfl, Nat.le_of_ble_eq_true rfl⟩) rfl hl.1 rfl (Nat.le_of_ble_eq_true rfl) dX3_isKind_3 ⟨Nat.le_of_ble_eq_true rfl, Nat.le_of_ble_eq_true rfl⟩ (fun r hr => ?_)
  subst hr
  exact W.zret (v := bI (nI 0 ≤ p0 ∧ p0 ≤ nI 3)) hx hb hr bI_n (fun t ht hW => ⟨bI (nI 0 ≤ p0 ∧ p0 ≤ nI 3), rfl, bI_c in_04, ht⟩) (fun q h => by cases h) dX3_isKind_6
set_option maxRecDepth 100000 in
set_option maxHeartbeats 1000000 in
theorem c_X3_isStage (l : Launch) (p0 : Int32) : Met l yX3_isStage wsX3_isStage ({ frames := 1, cells := 0, slots := 0, locals := 22 }) (va_Pc [.int p0] (fun _ => True)) (vp_Si (fun r => r = bI (nI 0 ≤ p0 ∧ p0 ≤ nI 2))) 0 0 (fun _ => False) := by
  refine Met.ofW (cc := cX3_isStage) (maxL := 1) (ret := (some .boolean)) (by decide) rfl ?_
  intro p e s m args below meth c s₁ B hml hv
  obtain ⟨rfl, -⟩ := hv
  have hx := B.exec
  have hb := B.bytes
  have hr := B.returns
  have hts := atoms_spec (ws := wsX3_isStage) B.pre
  have hown : s.vm.findClass RX3 = some m.cls := findClass_of_methodNamed B.named
  have hlocks := B.notSynchronized
  have F : CallFix p m c cX3_isStage 1 s _ wsX3_isStage RX3 := ⟨hx, hb, hml, hown, hts⟩
  have hl := lv_entry ([.int p0]) (n := 1) (Nat.le_of_ble_eq_true rfl)
  rw [lg_entry_eq]
  generalize (lg_sl ([.int p0]) ++ List.replicate (1 - (lg_sl ([.int p0])).length) Slot.unset).toArray = ls at hl ⊢
  have hl : lv_has ls 1 [(0, .int p0)] := hl
  refine lv_iload_n hx hb dX3_isStage_0 rfl (lv_at hl 0 rfl) ?_
  refine lv_iconst (v := nI 0) hx hb dX3_isStage_1 (by decide) ?_
  refine lv_iconst (v := nI 2) hx hb dX3_isStage_2 (by decide) ?_
  refine z_cS (As := [.int p0, .int (nI 0), .int (nI 2)]) (rest := []) F (c_X3_in l p0 (nI 0) (nI 2)) (va_cwS 3 hts gX3_isStage_X3_in rfl rfl rfl (by decide +kernel) ⟨Nat.le_of_ble_eq_true rfl, Nat.le_of_ble_eq_true rfl⟩) rfl hl.1 rfl (Nat.le_of_ble_eq_true rfl) dX3_isStage_3 ⟨Nat.le_of_ble_eq_true rfl, Nat.le_of_ble_eq_true rfl⟩ (fun r hr => ?_)
  subst hr
  exact W.zret (v := bI (nI 0 ≤ p0 ∧ p0 ≤ nI 2)) hx hb hr bI_n (fun t ht hW => ⟨bI (nI 0 ≤ p0 ∧ p0 ≤ nI 2), rfl, rfl, ht⟩) (fun q h => by cases h) dX3_isStage_6
set_option maxRecDepth 100000 in
set_option maxHeartbeats 1000000 in
theorem c_X3_isCase (l : Launch) (D : va_G) (k : Nat → ClassId) (bd : Nat → Nat) (M : Nat → Nat → Nat) (O : Nat → Nat → Int32) (th : Int32) (h40 : M 0 1 ≤ 40) (p0 : Int32) : Met l yX3_isCase wsX3_isCase ({ frames := 1, cells := 0, slots := 0, locals := 22 }) (va_Pc [.ref (bd 0), .int p0] (zR D k 19 bd (cM k bd M O th))) (vp_Si (fun r => r = bI (zI (M 0 1) p0))) 0 0 (fun _ => False) := by
  refine Met.ofW (cc := cX3_isCase) (maxL := 2) (ret := (some .boolean)) (by decide) rfl ?_
  intro p e s m args below meth c s₁ B hml hv
  obtain ⟨rfl, hP, hK⟩ := hv
  have hx := B.exec
  have hb := B.bytes
  have hr := B.returns
  have hts := atoms_spec (ws := wsX3_isCase) B.pre
  have hown : s.vm.findClass RX3 = some m.cls := findClass_of_methodNamed B.named
  have hlocks := B.notSynchronized
  have F : CallFix p m c cX3_isCase 2 s _ wsX3_isCase RX3 := ⟨hx, hb, hml, hown, hts⟩
  have hl := lv_entry ([.ref (bd 0), .int p0]) (n := 2) (Nat.le_of_ble_eq_true rfl)
  rw [lg_entry_eq]
  generalize (lg_sl ([.ref (bd 0), .int p0]) ++ List.replicate (2 - (lg_sl ([.ref (bd 0), .int p0])).length) Slot.unset).toArray = ls at hl ⊢
  have hl : lv_has ls 2 [(0, .ref (bd 0)), (1, .int p0)] := hl
  have hi3 : ∀ w ∈ u_ws RX3 TX3 21, w ∈ wsX3_isCase := by decide +kernel
  refine lv_iload_n hx hb dX3_isCase_0 rfl (lv_at hl 1 rfl) ?_
  refine lv_iconst (v := nI 0) hx hb dX3_isCase_1 (by decide) ?_
  refine lv_aload_n hx hb dX3_isCase_2 rfl (lv_at hl 0 rfl) ?_
  refine z_get (C := RX3) (T := TX3) (N := 21) (ci := 3) (fs := mObj bd M th) (v := .int (nI (M 0 1))) F hK hP hi3 rfl (0) 17 (by omega) cM_0 (by decide) rfl (by decide +kernel) dX3_isCase_3 ?_
  refine lv_iconst (v := nI 1) hx hb dX3_isCase_6 (by decide) ?_
  refine lv_isub hx hb dX3_isCase_7 ?_
  refine z_cS (As := [.int p0, .int (nI 0), .int ((nI (M 0 1)) - (nI 1))]) (rest := []) F (c_X3_in l p0 (nI 0) ((nI (M 0 1)) - (nI 1))) (va_cwS 3 hts gX3_isCase_X3_in rfl rfl rfl (by decide +kernel) ⟨Nat.le_of_ble_eq_true rfl, Nat.le_of_ble_eq_true rfl⟩) rfl hl.1 rfl (Nat.le_of_ble_eq_true rfl) dX3_isCase_8 ⟨Nat.le_of_ble_eq_true rfl, Nat.le_of_ble_eq_true rfl⟩ (fun r hr => ?_)
  subst hr
  exact W.zret (v := bI (nI 0 ≤ p0 ∧ p0 ≤ (nI (M 0 1)) - (nI 1))) hx hb hr bI_n (fun t ht hW => ⟨bI (nI 0 ≤ p0 ∧ p0 ≤ (nI (M 0 1)) - (nI 1)), rfl, bI_c (in_case h40), ht⟩) (fun q h => by cases h) dX3_isCase_11
set_option maxRecDepth 100000 in
set_option maxHeartbeats 1000000 in
theorem c_X3_thrown (l : Launch) (D : va_G) (k : Nat → ClassId) (bd : Nat → Nat) (M : Nat → Nat → Nat) (O : Nat → Nat → Int32) (th : Int32)  : Met l yX3_thrown wsX3_thrown ({ frames := 0, cells := 0, slots := 0, locals := 0 }) (va_Pc [.ref (bd 0)] (zR D k 19 bd (cM k bd M O th))) (vp_Si (fun r => r = th)) 0 0 (fun _ => False) := by
  refine Met.ofW (cc := cX3_thrown) (maxL := 1) (ret := (some .int)) (by decide) rfl ?_
  intro p e s m args below meth c s₁ B hml hv
  obtain ⟨rfl, hP, hK⟩ := hv
  have hx := B.exec
  have hb := B.bytes
  have hr := B.returns
  have hts := atoms_spec (ws := wsX3_thrown) B.pre
  have hown : s.vm.findClass RX3 = some m.cls := findClass_of_methodNamed B.named
  have hlocks := B.notSynchronized
  have F : CallFix p m c cX3_thrown 1 s _ wsX3_thrown RX3 := ⟨hx, hb, hml, hown, hts⟩
  have hl := lv_entry ([.ref (bd 0)]) (n := 1) (Nat.le_of_ble_eq_true rfl)
  rw [lg_entry_eq]
  generalize (lg_sl ([.ref (bd 0)]) ++ List.replicate (1 - (lg_sl ([.ref (bd 0)])).length) Slot.unset).toArray = ls at hl ⊢
  have hl : lv_has ls 1 [(0, .ref (bd 0))] := hl
  have hi3 : ∀ w ∈ u_ws RX3 TX3 21, w ∈ wsX3_thrown := by decide +kernel
  refine lv_aload_n hx hb dX3_thrown_0 rfl (lv_at hl 0 rfl) ?_
  refine z_get (C := RX3) (T := TX3) (N := 21) (ci := 3) (fs := mObj bd M th) (v := .int th) F hK hP hi3 rfl (0) 20 (by omega) cM_0 (by decide) rfl (by decide +kernel) dX3_thrown_1 ?_
  exact W.iret (v := th) hx hb hr (fun t ht hW => ⟨th, rfl, rfl, ht⟩) (fun q h => by cases h) dX3_thrown_4
set_option maxRecDepth 100000 in
set_option maxHeartbeats 1000000 in
theorem c_X3_asked (l : Launch) (D : va_G) (k : Nat → ClassId) (bd : Nat → Nat) (M : Nat → Nat → Nat) (O : Nat → Nat → Int32) (th : Int32) (sz : Nat) (a1 : Prop) : Met l yX3_asked wsX3_asked ({ frames := 0, cells := 0, slots := 0, locals := 0 }) (va_Pc [.ref (bd 0), .int (bI a1)] (zG D k 19 bd (cM k bd M O th) sz)) (zQw D k 19 bd (cM k bd M O (nI (y1 a1))) (va_A (zw 19 bd (cM k bd M O th)) sz) (fun r => r = bI a1)) 0 0 (va_A (zw 19 bd (cM k bd M O th)) sz) := by
  refine Met.ofW (cc := cX3_asked) (maxL := 2) (ret := (some .boolean)) (by decide) rfl ?_
  intro p e s m args below meth c s₁ B hml hv
  obtain ⟨rfl, hsz, ⟨hP, hK⟩, hD0⟩ := hv
  have hx := B.exec
  have hb := B.bytes
  have hr := B.returns
  have hts := atoms_spec (ws := wsX3_asked) B.pre
  have hown : s.vm.findClass RX3 = some m.cls := findClass_of_methodNamed B.named
  have hlocks := B.notSynchronized
  have F : CallFix p m c cX3_asked 2 s _ wsX3_asked RX3 := ⟨hx, hb, hml, hown, hts⟩
  subst hsz
  have hD := hD0.self (sz := s.heap.size)
  generalize hAe : va_A (zw 19 bd (cM k bd M O th)) s.heap.size = A at hD ⊢
  have hA : ∀ q : Nat, s.heap.size ≤ q → A q := fun q h => by rw [← hAe]; exact Or.inr h
  have hS : va_S A s.heap s.heap [] := va_S.rf
  have hl := lv_entry ([.ref (bd 0), .int (bI a1)]) (n := 2) (Nat.le_of_ble_eq_true rfl)
  rw [lg_entry_eq]
  generalize (lg_sl ([.ref (bd 0), .int (bI a1)]) ++ List.replicate (2 - (lg_sl ([.ref (bd 0), .int (bI a1)])).length) Slot.unset).toArray = ls at hl ⊢
  have hl : lv_has ls 2 [(0, .ref (bd 0)), (1, .int (bI a1))] := hl
  have hi3 : ∀ w ∈ u_ws RX3 TX3 21, w ∈ wsX3_asked := by decide +kernel
  refine lv_aload_n hx hb dX3_asked_0 rfl (lv_at hl 0 rfl) ?_
  refine lv_iload_n hx hb dX3_asked_1 rfl (lv_at hl 1 rfl) ?_
  refine z_ifb_eq (tgt := 9) F dX3_asked_2 (by decide) (fun c3 => ?_) (fun c3 => ?_)
  · refine lv_iconst (v := nI 1) hx hb dX3_asked_9 (by decide) ?_
    refine z_put (C := RX3) (T := TX3) (N := 21) (ci := 3) (fs := mObj bd M th) (f' := (cM k bd M O (nI 1))) F hK hP hD hS hi3 rfl tyX3 tyX3_ok nmX3 (0) 20 (by omega) cM_0 (by decide) (Nat.le_of_ble_eq_true rfl) (by decide +kernel) rfl rfl rfl rfl (cM_uth _) dX3_asked_10 (fun H locs hP hD hS => ?_)
    refine lv_iload_n hx hb dX3_asked_13 rfl (lv_at hl 1 rfl) ?_
    have eW : cM k bd M O (nI (y1 a1)) = cM k bd M O (nI 1) := by unfold y1; rw [cI_f c3]
    rw [← eW] at hP hD
    refine W.widen (k := 0) (n := 0) (Nat.le_of_ble_eq_true rfl) (Nat.le_of_ble_eq_true rfl) ?_
    exact W.zret (v := bI a1) hx hb hr bI_n (fun t ht hW => ⟨⟨bI a1, (), rfl, rfl, ⟨by rw [ht]; exact hP, va_K.moved hW.alike hK⟩, hD⟩, hS.F ht⟩) hS.2.2 dX3_asked_14
  · refine lv_iconst (v := nI 0) hx hb dX3_asked_5 (by decide) ?_
    refine lv_goto (tgt := 10) hx hb dX3_asked_6 (by decide) ?_
    refine z_put (C := RX3) (T := TX3) (N := 21) (ci := 3) (fs := mObj bd M th) (f' := (cM k bd M O (nI 0))) F hK hP hD hS hi3 rfl tyX3 tyX3_ok nmX3 (0) 20 (by omega) cM_0 (by decide) (Nat.le_of_ble_eq_true rfl) (by decide +kernel) rfl rfl rfl rfl (cM_uth _) dX3_asked_10 (fun H locs hP hD hS => ?_)
    refine lv_iload_n hx hb dX3_asked_13 rfl (lv_at hl 1 rfl) ?_
    have eW : cM k bd M O (nI (y1 a1)) = cM k bd M O (nI 0) := by unfold y1; rw [cI_t c3]
    rw [← eW] at hP hD
    refine W.widen (k := 0) (n := 0) (Nat.le_of_ble_eq_true rfl) (Nat.le_of_ble_eq_true rfl) ?_
    exact W.zret (v := bI a1) hx hb hr bI_n (fun t ht hW => ⟨⟨bI a1, (), rfl, rfl, ⟨by rw [ht]; exact hP, va_K.moved hW.alike hK⟩, hD⟩, hS.F ht⟩) hS.2.2 dX3_asked_14
set_option maxRecDepth 100000 in
set_option maxHeartbeats 1000000 in
theorem c_X3_asked_ (l : Launch) (D : va_G) (k : Nat → ClassId) (bd : Nat → Nat) (M : Nat → Nat → Nat) (O : Nat → Nat → Int32) (th : Int32) (sz : Nat) (a1 a2 : Prop) : Met l yX3_asked_ wsX3_asked_ ({ frames := 0, cells := 0, slots := 0, locals := 0 }) (va_Pc [.ref (bd 0), .int (bI a1), .int (bI a2)] (zG D k 19 bd (cM k bd M O th) sz)) (zQw D k 19 bd (cM k bd M O (nI (y2 a1 a2))) (va_A (zw 19 bd (cM k bd M O th)) sz) (fun r => r = bI (a1 ∧ a2))) 0 0 (va_A (zw 19 bd (cM k bd M O th)) sz) := by
  refine Met.ofW (cc := cX3_asked_) (maxL := 3) (ret := (some .boolean)) (by decide) rfl ?_
  intro p e s m args below meth c s₁ B hml hv
  obtain ⟨rfl, hsz, ⟨hP, hK⟩, hD0⟩ := hv
  have hx := B.exec
  have hb := B.bytes
  have hr := B.returns
  have hts := atoms_spec (ws := wsX3_asked_) B.pre
  have hown : s.vm.findClass RX3 = some m.cls := findClass_of_methodNamed B.named
  have hlocks := B.notSynchronized
  have F : CallFix p m c cX3_asked_ 3 s _ wsX3_asked_ RX3 := ⟨hx, hb, hml, hown, hts⟩
  subst hsz
  have hD := hD0.self (sz := s.heap.size)
  generalize hAe : va_A (zw 19 bd (cM k bd M O th)) s.heap.size = A at hD ⊢
  have hA : ∀ q : Nat, s.heap.size ≤ q → A q := fun q h => by rw [← hAe]; exact Or.inr h
  have hS : va_S A s.heap s.heap [] := va_S.rf
  have hl := lv_entry ([.ref (bd 0), .int (bI a1), .int (bI a2)]) (n := 3) (Nat.le_of_ble_eq_true rfl)
  rw [lg_entry_eq]
  generalize (lg_sl ([.ref (bd 0), .int (bI a1), .int (bI a2)]) ++ List.replicate (3 - (lg_sl ([.ref (bd 0), .int (bI a1), .int (bI a2)])).length) Slot.unset).toArray = ls at hl ⊢
  have hl : lv_has ls 3 [(0, .ref (bd 0)), (1, .int (bI a1)), (2, .int (bI a2))] := hl
  have hi3 : ∀ w ∈ u_ws RX3 TX3 21, w ∈ wsX3_asked_ := by decide +kernel
  refine lv_aload_n hx hb dX3_asked__0 rfl (lv_at hl 0 rfl) ?_
  refine lv_iload_n hx hb dX3_asked__1 rfl (lv_at hl 1 rfl) ?_
  refine z_ifb_ne (tgt := 9) F dX3_asked__2 (by decide) (fun c4 => ?_) (fun c4 => ?_)
  · refine lv_iload_n hx hb dX3_asked__9 rfl (lv_at hl 2 rfl) ?_
    refine z_ifb_eq (tgt := 17) F dX3_asked__10 (by decide) (fun c5 => ?_) (fun c5 => ?_)
    · refine lv_iconst (v := nI 2) hx hb dX3_asked__17 (by decide) ?_
      refine z_put (C := RX3) (T := TX3) (N := 21) (ci := 3) (fs := mObj bd M th) (f' := (cM k bd M O (nI 2))) F hK hP hD hS hi3 rfl tyX3 tyX3_ok nmX3 (0) 20 (by omega) cM_0 (by decide) (Nat.le_of_ble_eq_true rfl) (by decide +kernel) rfl rfl rfl rfl (cM_uth _) dX3_asked__18 (fun H locs hP hD hS => ?_)
      refine lv_aload_n hx hb dX3_asked__21 rfl (lv_at hl 0 rfl) ?_
      refine z_get (C := RX3) (T := TX3) (N := 21) (ci := 3) (fs := mObj bd M (nI 2)) (v := .int (nI 2)) F hK hP hi3 rfl (0) 20 (by omega) cM_0 (by decide) rfl (by decide +kernel) dX3_asked__22 ?_
      refine z_ifn_neT (tgt := 32) F (by decide) dX3_asked__25 (by decide) ?_
      refine lv_iconst (v := nI 0) hx hb dX3_asked__32 (by decide) ?_
      have eW : cM k bd M O (nI (y2 a1 a2)) = cM k bd M O (nI 2) := by unfold y2; rw [cI_t c4, cI_f c5]
      rw [← eW] at hP hD
      refine W.widen (k := 0) (n := 0) (Nat.le_of_ble_eq_true rfl) (Nat.le_of_ble_eq_true rfl) ?_
      exact W.zret (v := nI 0) hx hb hr rfl (fun t ht hW => ⟨⟨nI 0, (), rfl, (bI_f (fun zz1 => c5 zz1.2)).symm, ⟨by rw [ht]; exact hP, va_K.moved hW.alike hK⟩, hD⟩, hS.F ht⟩) hS.2.2 dX3_asked__33
    · refine lv_iconst (v := nI 0) hx hb dX3_asked__13 (by decide) ?_
      refine lv_goto (tgt := 18) hx hb dX3_asked__14 (by decide) ?_
      refine z_put (C := RX3) (T := TX3) (N := 21) (ci := 3) (fs := mObj bd M th) (f' := (cM k bd M O (nI 0))) F hK hP hD hS hi3 rfl tyX3 tyX3_ok nmX3 (0) 20 (by omega) cM_0 (by decide) (Nat.le_of_ble_eq_true rfl) (by decide +kernel) rfl rfl rfl rfl (cM_uth _) dX3_asked__18 (fun H locs hP hD hS => ?_)
      refine lv_aload_n hx hb dX3_asked__21 rfl (lv_at hl 0 rfl) ?_
      refine z_get (C := RX3) (T := TX3) (N := 21) (ci := 3) (fs := mObj bd M (nI 0)) (v := .int (nI 0)) F hK hP hi3 rfl (0) 20 (by omega) cM_0 (by decide) rfl (by decide +kernel) dX3_asked__22 ?_
      refine z_ifn_neF (tgt := 32) F dX3_asked__25 (by decide) ?_
      refine lv_iconst (v := nI 1) hx hb dX3_asked__28 (by decide) ?_
      refine lv_goto (tgt := 33) hx hb dX3_asked__29 (by decide) ?_
      have eW : cM k bd M O (nI (y2 a1 a2)) = cM k bd M O (nI 0) := by unfold y2; rw [cI_t c4, cI_t c5]
      rw [← eW] at hP hD
      refine W.widen (k := 0) (n := 0) (Nat.le_of_ble_eq_true rfl) (Nat.le_of_ble_eq_true rfl) ?_
      exact W.zret (v := nI 1) hx hb hr rfl (fun t ht hW => ⟨⟨nI 1, (), rfl, (bI_t ⟨c4, c5⟩).symm, ⟨by rw [ht]; exact hP, va_K.moved hW.alike hK⟩, hD⟩, hS.F ht⟩) hS.2.2 dX3_asked__33
  · refine lv_iconst (v := nI 1) hx hb dX3_asked__5 (by decide) ?_
    refine lv_goto (tgt := 18) hx hb dX3_asked__6 (by decide) ?_
    refine z_put (C := RX3) (T := TX3) (N := 21) (ci := 3) (fs := mObj bd M th) (f' := (cM k bd M O (nI 1))) F hK hP hD hS hi3 rfl tyX3 tyX3_ok nmX3 (0) 20 (by omega) cM_0 (by decide) (Nat.le_of_ble_eq_true rfl) (by decide +kernel) rfl rfl rfl rfl (cM_uth _) dX3_asked__18 (fun H locs hP hD hS => ?_)
    refine lv_aload_n hx hb dX3_asked__21 rfl (lv_at hl 0 rfl) ?_
    refine z_get (C := RX3) (T := TX3) (N := 21) (ci := 3) (fs := mObj bd M (nI 1)) (v := .int (nI 1)) F hK hP hi3 rfl (0) 20 (by omega) cM_0 (by decide) rfl (by decide +kernel) dX3_asked__22 ?_
    refine z_ifn_neT (tgt := 32) F (by decide) dX3_asked__25 (by decide) ?_
    refine lv_iconst (v := nI 0) hx hb dX3_asked__32 (by decide) ?_
    have eW : cM k bd M O (nI (y2 a1 a2)) = cM k bd M O (nI 1) := by unfold y2; rw [cI_f c4]
    rw [← eW] at hP hD
    refine W.widen (k := 0) (n := 0) (Nat.le_of_ble_eq_true rfl) (Nat.le_of_ble_eq_true rfl) ?_
    exact W.zret (v := nI 0) hx hb hr rfl (fun t ht hW => ⟨⟨nI 0, (), rfl, (bI_f (fun zz1 => c4 zz1.1)).symm, ⟨by rw [ht]; exact hP, va_K.moved hW.alike hK⟩, hD⟩, hS.F ht⟩) hS.2.2 dX3_asked__33
set_option maxRecDepth 100000 in
set_option maxHeartbeats 1000000 in
theorem c_X3_asked__ (l : Launch) (D : va_G) (k : Nat → ClassId) (bd : Nat → Nat) (M : Nat → Nat → Nat) (O : Nat → Nat → Int32) (th : Int32) (sz : Nat) (a1 a2 a3 : Prop) : Met l yX3_asked__ wsX3_asked__ ({ frames := 0, cells := 0, slots := 0, locals := 0 }) (va_Pc [.ref (bd 0), .int (bI a1), .int (bI a2), .int (bI a3)] (zG D k 19 bd (cM k bd M O th) sz)) (zQw D k 19 bd (cM k bd M O (nI (x3 a1 a2 a3))) (va_A (zw 19 bd (cM k bd M O th)) sz) (fun r => r = bI (a1 ∧ a2 ∧ a3))) 0 0 (va_A (zw 19 bd (cM k bd M O th)) sz) := by
  refine Met.ofW (cc := cX3_asked__) (maxL := 4) (ret := (some .boolean)) (by decide) rfl ?_
  intro p e s m args below meth c s₁ B hml hv
  obtain ⟨rfl, hsz, ⟨hP, hK⟩, hD0⟩ := hv
  have hx := B.exec
  have hb := B.bytes
  have hr := B.returns
  have hts := atoms_spec (ws := wsX3_asked__) B.pre
  have hown : s.vm.findClass RX3 = some m.cls := findClass_of_methodNamed B.named
  have hlocks := B.notSynchronized
  have F : CallFix p m c cX3_asked__ 4 s _ wsX3_asked__ RX3 := ⟨hx, hb, hml, hown, hts⟩
  subst hsz
  have hD := hD0.self (sz := s.heap.size)
  generalize hAe : va_A (zw 19 bd (cM k bd M O th)) s.heap.size = A at hD ⊢
  have hA : ∀ q : Nat, s.heap.size ≤ q → A q := fun q h => by rw [← hAe]; exact Or.inr h
  have hS : va_S A s.heap s.heap [] := va_S.rf
  have hl := lv_entry ([.ref (bd 0), .int (bI a1), .int (bI a2), .int (bI a3)]) (n := 4) (Nat.le_of_ble_eq_true rfl)
  rw [lg_entry_eq]
  generalize (lg_sl ([.ref (bd 0), .int (bI a1), .int (bI a2), .int (bI a3)]) ++ List.replicate (4 - (lg_sl ([.ref (bd 0), .int (bI a1), .int (bI a2), .int (bI a3)])).length) Slot.unset).toArray = ls at hl ⊢
  have hl : lv_has ls 4 [(0, .ref (bd 0)), (1, .int (bI a1)), (2, .int (bI a2)), (3, .int (bI a3))] := hl
  have hi3 : ∀ w ∈ u_ws RX3 TX3 21, w ∈ wsX3_asked__ := by decide +kernel
  refine lv_aload_n hx hb dX3_asked___0 rfl (lv_at hl 0 rfl) ?_
  refine lv_iload_n hx hb dX3_asked___1 rfl (lv_at hl 1 rfl) ?_
  refine z_ifb_ne (tgt := 9) F dX3_asked___2 (by decide) (fun c9 => ?_) (fun c9 => ?_)
  · refine lv_iload_n hx hb dX3_asked___9 rfl (lv_at hl 2 rfl) ?_
    refine z_ifb_ne (tgt := 17) F dX3_asked___10 (by decide) (fun c10 => ?_) (fun c10 => ?_)
    · refine lv_iload_n hx hb dX3_asked___17 rfl (lv_at hl 3 rfl) ?_
      refine z_ifb_eq (tgt := 25) F dX3_asked___18 (by decide) (fun c11 => ?_) (fun c11 => ?_)
      · refine lv_iconst (v := nI 3) hx hb dX3_asked___25 (by decide) ?_
        refine z_put (C := RX3) (T := TX3) (N := 21) (ci := 3) (fs := mObj bd M th) (f' := (cM k bd M O (nI 3))) F hK hP hD hS hi3 rfl tyX3 tyX3_ok nmX3 (0) 20 (by omega) cM_0 (by decide) (Nat.le_of_ble_eq_true rfl) (by decide +kernel) rfl rfl rfl rfl (cM_uth _) dX3_asked___26 (fun H locs hP hD hS => ?_)
        refine lv_aload_n hx hb dX3_asked___29 rfl (lv_at hl 0 rfl) ?_
        refine z_get (C := RX3) (T := TX3) (N := 21) (ci := 3) (fs := mObj bd M (nI 3)) (v := .int (nI 3)) F hK hP hi3 rfl (0) 20 (by omega) cM_0 (by decide) rfl (by decide +kernel) dX3_asked___30 ?_
        refine z_ifn_neT (tgt := 40) F (by decide) dX3_asked___33 (by decide) ?_
        refine lv_iconst (v := nI 0) hx hb dX3_asked___40 (by decide) ?_
        have eW : cM k bd M O (nI (x3 a1 a2 a3)) = cM k bd M O (nI 3) := by unfold x3; rw [cI_t c9, cI_t c10, cI_f c11]
        rw [← eW] at hP hD
        refine W.widen (k := 0) (n := 0) (Nat.le_of_ble_eq_true rfl) (Nat.le_of_ble_eq_true rfl) ?_
        exact W.zret (v := nI 0) hx hb hr rfl (fun t ht hW => ⟨⟨nI 0, (), rfl, (bI_f (fun zz1 => c11 zz1.2.2)).symm, ⟨by rw [ht]; exact hP, va_K.moved hW.alike hK⟩, hD⟩, hS.F ht⟩) hS.2.2 dX3_asked___41
      · refine lv_iconst (v := nI 0) hx hb dX3_asked___21 (by decide) ?_
        refine lv_goto (tgt := 26) hx hb dX3_asked___22 (by decide) ?_
        refine z_put (C := RX3) (T := TX3) (N := 21) (ci := 3) (fs := mObj bd M th) (f' := (cM k bd M O (nI 0))) F hK hP hD hS hi3 rfl tyX3 tyX3_ok nmX3 (0) 20 (by omega) cM_0 (by decide) (Nat.le_of_ble_eq_true rfl) (by decide +kernel) rfl rfl rfl rfl (cM_uth _) dX3_asked___26 (fun H locs hP hD hS => ?_)
        refine lv_aload_n hx hb dX3_asked___29 rfl (lv_at hl 0 rfl) ?_
        refine z_get (C := RX3) (T := TX3) (N := 21) (ci := 3) (fs := mObj bd M (nI 0)) (v := .int (nI 0)) F hK hP hi3 rfl (0) 20 (by omega) cM_0 (by decide) rfl (by decide +kernel) dX3_asked___30 ?_
        refine z_ifn_neF (tgt := 40) F dX3_asked___33 (by decide) ?_
        refine lv_iconst (v := nI 1) hx hb dX3_asked___36 (by decide) ?_
        refine lv_goto (tgt := 41) hx hb dX3_asked___37 (by decide) ?_
        have eW : cM k bd M O (nI (x3 a1 a2 a3)) = cM k bd M O (nI 0) := by unfold x3; rw [cI_t c9, cI_t c10, cI_t c11]
        rw [← eW] at hP hD
        refine W.widen (k := 0) (n := 0) (Nat.le_of_ble_eq_true rfl) (Nat.le_of_ble_eq_true rfl) ?_
        exact W.zret (v := nI 1) hx hb hr rfl (fun t ht hW => ⟨⟨nI 1, (), rfl, (bI_t ⟨c9, c10, c11⟩).symm, ⟨by rw [ht]; exact hP, va_K.moved hW.alike hK⟩, hD⟩, hS.F ht⟩) hS.2.2 dX3_asked___41
    · refine lv_iconst (v := nI 2) hx hb dX3_asked___13 (by decide) ?_
      refine lv_goto (tgt := 26) hx hb dX3_asked___14 (by decide) ?_
      refine z_put (C := RX3) (T := TX3) (N := 21) (ci := 3) (fs := mObj bd M th) (f' := (cM k bd M O (nI 2))) F hK hP hD hS hi3 rfl tyX3 tyX3_ok nmX3 (0) 20 (by omega) cM_0 (by decide) (Nat.le_of_ble_eq_true rfl) (by decide +kernel) rfl rfl rfl rfl (cM_uth _) dX3_asked___26 (fun H locs hP hD hS => ?_)
      refine lv_aload_n hx hb dX3_asked___29 rfl (lv_at hl 0 rfl) ?_
      refine z_get (C := RX3) (T := TX3) (N := 21) (ci := 3) (fs := mObj bd M (nI 2)) (v := .int (nI 2)) F hK hP hi3 rfl (0) 20 (by omega) cM_0 (by decide) rfl (by decide +kernel) dX3_asked___30 ?_
      refine z_ifn_neT (tgt := 40) F (by decide) dX3_asked___33 (by decide) ?_
      refine lv_iconst (v := nI 0) hx hb dX3_asked___40 (by decide) ?_
      have eW : cM k bd M O (nI (x3 a1 a2 a3)) = cM k bd M O (nI 2) := by unfold x3; rw [cI_t c9, cI_f c10]
      rw [← eW] at hP hD
      refine W.widen (k := 0) (n := 0) (Nat.le_of_ble_eq_true rfl) (Nat.le_of_ble_eq_true rfl) ?_
      exact W.zret (v := nI 0) hx hb hr rfl (fun t ht hW => ⟨⟨nI 0, (), rfl, (bI_f (fun zz1 => c10 zz1.2.1)).symm, ⟨by rw [ht]; exact hP, va_K.moved hW.alike hK⟩, hD⟩, hS.F ht⟩) hS.2.2 dX3_asked___41
  · refine lv_iconst (v := nI 1) hx hb dX3_asked___5 (by decide) ?_
    refine lv_goto (tgt := 26) hx hb dX3_asked___6 (by decide) ?_
    refine z_put (C := RX3) (T := TX3) (N := 21) (ci := 3) (fs := mObj bd M th) (f' := (cM k bd M O (nI 1))) F hK hP hD hS hi3 rfl tyX3 tyX3_ok nmX3 (0) 20 (by omega) cM_0 (by decide) (Nat.le_of_ble_eq_true rfl) (by decide +kernel) rfl rfl rfl rfl (cM_uth _) dX3_asked___26 (fun H locs hP hD hS => ?_)
    refine lv_aload_n hx hb dX3_asked___29 rfl (lv_at hl 0 rfl) ?_
    refine z_get (C := RX3) (T := TX3) (N := 21) (ci := 3) (fs := mObj bd M (nI 1)) (v := .int (nI 1)) F hK hP hi3 rfl (0) 20 (by omega) cM_0 (by decide) rfl (by decide +kernel) dX3_asked___30 ?_
    refine z_ifn_neT (tgt := 40) F (by decide) dX3_asked___33 (by decide) ?_
    refine lv_iconst (v := nI 0) hx hb dX3_asked___40 (by decide) ?_
    have eW : cM k bd M O (nI (x3 a1 a2 a3)) = cM k bd M O (nI 1) := by unfold x3; rw [cI_f c9]
    rw [← eW] at hP hD
    refine W.widen (k := 0) (n := 0) (Nat.le_of_ble_eq_true rfl) (Nat.le_of_ble_eq_true rfl) ?_
    exact W.zret (v := nI 0) hx hb hr rfl (fun t ht hW => ⟨⟨nI 0, (), rfl, (bI_f (fun zz1 => c9 zz1.1)).symm, ⟨by rw [ht]; exact hP, va_K.moved hW.alike hK⟩, hD⟩, hS.F ht⟩) hS.2.2 dX3_asked___41
set_option maxRecDepth 100000 in
set_option maxHeartbeats 1000000 in
theorem c_X3_told (l : Launch) (D : va_G) (k : Nat → ClassId) (bd : Nat → Nat) (M : Nat → Nat → Nat) (O : Nat → Nat → Int32) (th : Int32) (sz : Nat) (r0 : Int32) : Met l yX3_told wsX3_told ({ frames := 0, cells := 0, slots := 0, locals := 0 }) (va_Pc [.ref (bd 0), .int r0] (zG D k 19 bd (cM k bd M O th) sz)) (zQw D k 19 bd (cM k bd M O (nI 0)) (va_A (zw 19 bd (cM k bd M O th)) sz) (fun r => r = r0)) 0 0 (va_A (zw 19 bd (cM k bd M O th)) sz) := by
  refine Met.ofW (cc := cX3_told) (maxL := 2) (ret := (some .int)) (by decide) rfl ?_
  intro p e s m args below meth c s₁ B hml hv
  obtain ⟨rfl, hsz, ⟨hP, hK⟩, hD0⟩ := hv
  have hx := B.exec
  have hb := B.bytes
  have hr := B.returns
  have hts := atoms_spec (ws := wsX3_told) B.pre
  have hown : s.vm.findClass RX3 = some m.cls := findClass_of_methodNamed B.named
  have hlocks := B.notSynchronized
  have F : CallFix p m c cX3_told 2 s _ wsX3_told RX3 := ⟨hx, hb, hml, hown, hts⟩
  subst hsz
  have hD := hD0.self (sz := s.heap.size)
  generalize hAe : va_A (zw 19 bd (cM k bd M O th)) s.heap.size = A at hD ⊢
  have hA : ∀ q : Nat, s.heap.size ≤ q → A q := fun q h => by rw [← hAe]; exact Or.inr h
  have hS : va_S A s.heap s.heap [] := va_S.rf
  have hl := lv_entry ([.ref (bd 0), .int r0]) (n := 2) (Nat.le_of_ble_eq_true rfl)
  rw [lg_entry_eq]
  generalize (lg_sl ([.ref (bd 0), .int r0]) ++ List.replicate (2 - (lg_sl ([.ref (bd 0), .int r0])).length) Slot.unset).toArray = ls at hl ⊢
  have hl : lv_has ls 2 [(0, .ref (bd 0)), (1, .int r0)] := hl
  have hi3 : ∀ w ∈ u_ws RX3 TX3 21, w ∈ wsX3_told := by decide +kernel
  refine lv_aload_n hx hb dX3_told_0 rfl (lv_at hl 0 rfl) ?_
  refine lv_iconst (v := nI 0) hx hb dX3_told_1 (by decide) ?_
  refine z_put (C := RX3) (T := TX3) (N := 21) (ci := 3) (fs := mObj bd M th) (f' := (cM k bd M O (nI 0))) F hK hP hD hS hi3 rfl tyX3 tyX3_ok nmX3 (0) 20 (by omega) cM_0 (by decide) (Nat.le_of_ble_eq_true rfl) (by decide +kernel) rfl rfl rfl rfl (cM_uth _) dX3_told_2 (fun H locs hP hD hS => ?_)
  refine lv_iload_n hx hb dX3_told_5 rfl (lv_at hl 1 rfl) ?_
  refine W.widen (k := 0) (n := 0) (Nat.le_of_ble_eq_true rfl) (Nat.le_of_ble_eq_true rfl) ?_
  exact W.iret (v := r0) hx hb hr (fun t ht hW => ⟨⟨r0, (), rfl, rfl, ⟨by rw [ht]; exact hP, va_K.moved hW.alike hK⟩, hD⟩, hS.F ht⟩) hS.2.2 dX3_told_6
