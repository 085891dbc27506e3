/-! THE REFERENCE: addContract, open, work, join. -/
theorem kcM_y {M : Nat → Nat → Nat} {i kk fr to : Nat} (h : M 7 i < 8) : kcM M i kk fr to = zu (zu (zu (zu M 4 (8 * i + M 7 i) kk) 5 (8 * i + M 7 i) fr) 6 (8 * i + M 7 i) to) 7 i (M 7 i + 1) := if_pos h
theorem opM_zu {M : Nat → Nat → Nat} {i kd g : Nat} : opM M i kd g = zu (zu (zu (zu (zu (zu M 9 (M 0 1) i) 10 (M 0 1) kd) 11 (M 0 1) g) 12 (M 0 1) 0) 13 (M 0 1) 0) 0 1 (M 0 1 + 1) := by
  funext r x
  unfold opM zu
  by_cases h1 : r = 0 ∧ x = 1
  · rw [if_pos h1, if_pos h1]
  rw [if_neg h1, if_neg h1]
  by_cases h2 : x = M 0 1 ∧ 9 ≤ r ∧ r ≤ 13
  · rw [if_pos h2]
    obtain ⟨rfl, h3, h4⟩ := h2
    rcases (show r = 9 ∨ r = 10 ∨ r = 11 ∨ r = 12 ∨ r = 13 by omega) with rfl | rfl | rfl | rfl | rfl <;> simp
  · rw [if_neg h2, if_neg (by omega), if_neg (by omega), if_neg (by omega), if_neg (by omega), if_neg (by omega)]
set_option maxRecDepth 100000 in
set_option maxHeartbeats 1000000 in
theorem c_X3_addContract (l : Launch) (D : va_G) (k : Nat → ClassId) (bd : Nat → Nat) (M : Nat → Nat → Nat) (O : Nat → Nat → Int32) (th : Int32) (sz : Nat) (hI : zInv M) (p0 p1 p2 p3 : Int32) : Met l yX3_addContract wsX3_addContract ({ frames := 2, cells := 0, slots := 0, locals := 42 }) (va_Pc [.ref (bd 0), .int p0, .int p1, .int p2, .int p3] (zG D k 19 bd (cM k bd M O th) sz)) (zQw D k 19 bd (cM k bd (if (x3 (zI 4 p0) ((nI 1 ≤ p1 ∧ p1 ≤ nI 15) ∧ (nI 0 ≤ p2 ∧ p2 ≤ nI 1000) ∧ (p2 ≤ p3 ∧ p3 ≤ nI 1000)) (M 7 (ix p0) < 8)) = 0 then (kcM M (ix p0) (ix p1) (ix p2) (ix p3)) else M) O (nI ((x3 (zI 4 p0) ((nI 1 ≤ p1 ∧ p1 ≤ nI 15) ∧ (nI 0 ≤ p2 ∧ p2 ≤ nI 1000) ∧ (p2 ≤ p3 ∧ p3 ≤ nI 1000)) (M 7 (ix p0) < 8))))) (va_A (zw 19 bd (cM k bd M O th)) sz) (fun r => (x3 (zI 4 p0) ((nI 1 ≤ p1 ∧ p1 ≤ nI 15) ∧ (nI 0 ≤ p2 ∧ p2 ≤ nI 1000) ∧ (p2 ≤ p3 ∧ p3 ≤ nI 1000)) (M 7 (ix p0) < 8)) = 0 → r = (nI (kcM M (ix p0) (ix p1) (ix p2) (ix p3) 7 (ix p0))))) 0 0 (va_A (zw 19 bd (cM k bd M O th)) sz) := by
  refine Met.ofW (cc := cX3_addContract) (maxL := 7) (ret := (some .int)) (by decide) rfl ?_
  intro p e s m args below meth c s₁ B hml hv
  obtain ⟨rfl, hsz, ⟨hP, hK⟩, hD0⟩ := hv
  have hx := B.exec
  have hb := B.bytes
  have hr := B.returns
  have hts := atoms_spec (ws := wsX3_addContract) B.pre
  have hown : s.vm.findClass RX3 = some m.cls := findClass_of_methodNamed B.named
  have hlocks := B.notSynchronized
  have F : CallFix p m c cX3_addContract 7 s _ wsX3_addContract RX3 := ⟨hx, hb, hml, hown, hts⟩
  subst hsz
  have hD := hD0.self (sz := s.heap.size)
  generalize hAe : va_A (zw 19 bd (cM k bd M O th)) s.heap.size = A at hD ⊢
  have hA : ∀ q : Nat, s.heap.size ≤ q → A q := fun q h => by rw [← hAe]; exact Or.inr h
  have hS : va_S A s.heap s.heap [] := va_S.rf
  have hl := lv_entry ([.ref (bd 0), .int p0, .int p1, .int p2, .int p3]) (n := 7) (Nat.le_of_ble_eq_true rfl)
  rw [lg_entry_eq]
  generalize (lg_sl ([.ref (bd 0), .int p0, .int p1, .int p2, .int p3]) ++ List.replicate (7 - (lg_sl ([.ref (bd 0), .int p0, .int p1, .int p2, .int p3])).length) Slot.unset).toArray = ls at hl ⊢
  have hl : lv_has ls 7 [(0, .ref (bd 0)), (1, .int p0), (2, .int p1), (3, .int p2), (4, .int p3)] := hl
  have hi3 : ∀ w ∈ u_ws RX3 TX3 21, w ∈ wsX3_addContract := by decide +kernel
  obtain ⟨hI1, hI2, hI3, hI4, hI5, hI6, hI7⟩ := id hI
  refine lv_iload_n hx hb dX3_addContract_0 rfl (lv_at hl 1 rfl) ?_
  refine z_cS (As := [.int p0]) (rest := []) F (c_X3_isSite l p0) (va_cwS 1 hts gX3_addContract_X3_isSite rfl rfl rfl (by decide +kernel) ⟨Nat.le_of_ble_eq_true rfl, Nat.le_of_ble_eq_true rfl⟩) rfl hl.1 rfl (Nat.le_of_ble_eq_true rfl) dX3_addContract_1 ⟨Nat.le_of_ble_eq_true rfl, Nat.le_of_ble_eq_true rfl⟩ (fun r hr => ?_)
  subst hr
  refine lv_istore (lv' := [(5, .int (bI (zI 4 p0))), (0, .ref (bd 0)), (1, .int p0), (2, .int p1), (3, .int p2), (4, .int p3)]) hx hb dX3_addContract_4 hl (by decide) rfl (fun ls hl => ?_)
  refine lv_aload_n hx hb dX3_addContract_6 rfl (lv_at hl 1 rfl) ?_
  refine lv_iload hx hb dX3_addContract_7 (lv_at hl 0 rfl) ?_
  refine lv_iload_n hx hb dX3_addContract_9 rfl (lv_at hl 3 rfl) ?_
  refine lv_iconst (v := nI 1) hx hb dX3_addContract_10 (by decide) ?_
  refine lv_bipush (v := nI 15) hx hb dX3_addContract_11 (by decide) ?_
  refine z_cS (As := [.int p1, .int (nI 1), .int (nI 15)]) (rest := [.int (bI (zI 4 p0)), .ref (bd 0)]) F (c_X3_in l p1 (nI 1) (nI 15)) (va_cwS 3 hts gX3_addContract_X3_in rfl rfl rfl (by decide +kernel) ⟨Nat.le_of_ble_eq_true rfl, Nat.le_of_ble_eq_true rfl⟩) rfl hl.1 rfl (Nat.le_of_ble_eq_true rfl) dX3_addContract_13 ⟨Nat.le_of_ble_eq_true rfl, Nat.le_of_ble_eq_true rfl⟩ (fun r hr => ?_)
  subst hr
  refine z_ifb_eq (tgt := 46) F dX3_addContract_16 (by decide) (fun c1 => ?_) (fun c1 => ?_)
  · refine lv_iconst (v := nI 0) hx hb dX3_addContract_46 (by decide) ?_
    refine z_top (show nI 0 = bI ((nI 1 ≤ p1 ∧ p1 ≤ nI 15) ∧ (nI 0 ≤ p2 ∧ p2 ≤ nI 1000) ∧ (p2 ≤ p3 ∧ p3 ≤ nI 1000)) from (bI_f (fun zz1 => by have zz2 := zz1.1; first | exact c1 zz2 | omega)).symm) ?_
    refine lv_iload hx hb dX3_addContract_47 (lv_at hl 0 rfl) ?_
    refine z_ifb_eq (tgt := 67) F dX3_addContract_49 (by decide) (fun c2 => ?_) (fun c2 => ?_)
    · refine lv_iconst (v := nI 0) hx hb dX3_addContract_67 (by decide) ?_
      refine z_top (show nI 0 = bI (zI 4 p0 ∧ M 7 (ix p0) < 8) from (bI_f (fun zz1 => by have zz2 := zz1.1; first | exact c2 zz2 | omega)).symm) ?_
      refine z_mV (qc := (RX3, TX3, 21)) (As := [.int (bI (zI 4 p0)), .int (bI ((nI 1 ≤ p1 ∧ p1 ≤ nI 15) ∧ (nI 0 ≤ p2 ∧ p2 ≤ nI 1000) ∧ (p2 ≤ p3 ∧ p3 ≤ nI 1000))), .int (bI (zI 4 p0 ∧ M 7 (ix p0) < 8))]) (rest := []) (0) F (c_X3_asked__ l D k bd M O th _ (zI 4 p0) ((nI 1 ≤ p1 ∧ p1 ≤ nI 15) ∧ (nI 0 ≤ p2 ∧ p2 ≤ nI 1000) ∧ (p2 ≤ p3 ∧ p3 ≤ nI 1000)) (zI 4 p0 ∧ M 7 (ix p0) < 8)) (cwV 3 hts gX3_addContract_X3_asked__ rfl rfl rfl (by decide +kernel) ⟨Nat.le_of_ble_eq_true rfl, Nat.le_of_ble_eq_true rfl⟩) hK hP hD hS hA (by omega) cM_0 rfl rfl hl.1 rfl (Nat.le_of_ble_eq_true rfl) dX3_addContract_68 ⟨Nat.le_of_ble_eq_true rfl, Nat.le_of_ble_eq_true rfl⟩ (fun r H locs hr0 hP hD hS => ?_)
      subst hr0
      refine z_ifb_ne (tgt := 76) F dX3_addContract_71 (by decide) (fun c3 => ?_) (fun c3 => ?_)
      · first | exact absurd c3.1 c1 | exact absurd c3.1 c2
      · refine lv_iconst (v := nI 0) hx hb dX3_addContract_74 (by decide) ?_
        have hx0 : (x3 (zI 4 p0) ((nI 1 ≤ p1 ∧ p1 ≤ nI 15) ∧ (nI 0 ≤ p2 ∧ p2 ≤ nI 1000) ∧ (p2 ≤ p3 ∧ p3 ≤ nI 1000)) (M 7 (ix p0) < 8)) ≠ 0 := x3_no (fun zz1 => c3 ⟨zz1.1, zz1.2.1, zz1.1, zz1.2.2⟩)
        have eW : cM k bd (if (x3 (zI 4 p0) ((nI 1 ≤ p1 ∧ p1 ≤ nI 15) ∧ (nI 0 ≤ p2 ∧ p2 ≤ nI 1000) ∧ (p2 ≤ p3 ∧ p3 ≤ nI 1000)) (M 7 (ix p0) < 8)) = 0 then (kcM M (ix p0) (ix p1) (ix p2) (ix p3)) else M) O (nI ((x3 (zI 4 p0) ((nI 1 ≤ p1 ∧ p1 ≤ nI 15) ∧ (nI 0 ≤ p2 ∧ p2 ≤ nI 1000) ∧ (p2 ≤ p3 ∧ p3 ≤ nI 1000)) (M 7 (ix p0) < 8)))) = cM k bd M O (nI (x3 (zI 4 p0) ((nI 1 ≤ p1 ∧ p1 ≤ nI 15) ∧ (nI 0 ≤ p2 ∧ p2 ≤ nI 1000) ∧ (p2 ≤ p3 ∧ p3 ≤ nI 1000)) (zI 4 p0 ∧ M 7 (ix p0) < 8))) := by rw [if_neg hx0, ← x3_ac] <;> rfl
        rw [← eW] at hP hD
        refine W.widen (k := 0) (n := 0) (Nat.le_of_ble_eq_true rfl) (Nat.le_of_ble_eq_true rfl) ?_
        exact W.iret (v := nI 0) hx hb hr (fun t ht hW => ⟨⟨nI 0, (), rfl, fun zz1 => absurd zz1 hx0, ⟨by rw [ht]; exact hP, va_K.moved hW.alike hK⟩, hD⟩, hS.F ht⟩) hS.2.2 dX3_addContract_75
    · obtain ⟨i, hi, rfl⟩ := id (c2)
      try rw [ix_nI (show i < 2 ^ 31 by omega)]
      obtain ⟨hs, hco⟩ := hI3 i hi
      obtain ⟨hd1, hd2, hd3, hd4⟩ := id hs
      refine lv_aload_n hx hb dX3_addContract_52 rfl (lv_at hl 1 rfl) ?_
      refine z_get (C := RX3) (T := TX3) (N := 21) (ci := 3) (fs := mObj bd M th) (v := .ref (bd 7)) F hK hP hi3 rfl (0) 7 (by omega) cM_0 (by decide) rfl (by decide +kernel) dX3_addContract_53 ?_
      refine lv_iload_n hx hb dX3_addContract_56 rfl (lv_at hl 2 rfl) ?_
      refine z_iald (v := nI (M 7 i)) (cA := k 0) (len := 4) (g := mA M O 7) F hK hP (7) 0 (by omega) rfl rfl (i := nI i) i rfl hi (by decide) rfl dX3_addContract_57 ?_
      refine lv_bipush (v := nI 8) hx hb dX3_addContract_58 (by decide) ?_
      refine z_icmp_ge (tgt := 67) F (by omega) (by omega) dX3_addContract_60 (by decide) (fun c4 => ?_) (fun c4 => ?_)
      · refine lv_iconst (v := nI 0) hx hb dX3_addContract_67 (by decide) ?_
        refine z_top (show nI 0 = bI (zI 4 (nI i) ∧ M 7 (i) < 8) from (bI_f (fun zz1 => by have zz2 := zz1.2; first | exact c4 zz2 | omega)).symm) ?_
        refine z_mV (qc := (RX3, TX3, 21)) (As := [.int (bI (zI 4 (nI i))), .int (bI ((nI 1 ≤ p1 ∧ p1 ≤ nI 15) ∧ (nI 0 ≤ p2 ∧ p2 ≤ nI 1000) ∧ (p2 ≤ p3 ∧ p3 ≤ nI 1000))), .int (bI (zI 4 (nI i) ∧ M 7 (i) < 8))]) (rest := []) (0) F (c_X3_asked__ l D k bd M O th _ (zI 4 (nI i)) ((nI 1 ≤ p1 ∧ p1 ≤ nI 15) ∧ (nI 0 ≤ p2 ∧ p2 ≤ nI 1000) ∧ (p2 ≤ p3 ∧ p3 ≤ nI 1000)) (zI 4 (nI i) ∧ M 7 (i) < 8)) (cwV 3 hts gX3_addContract_X3_asked__ rfl rfl rfl (by decide +kernel) ⟨Nat.le_of_ble_eq_true rfl, Nat.le_of_ble_eq_true rfl⟩) hK hP hD hS hA (by omega) cM_0 rfl rfl hl.1 rfl (Nat.le_of_ble_eq_true rfl) dX3_addContract_68 ⟨Nat.le_of_ble_eq_true rfl, Nat.le_of_ble_eq_true rfl⟩ (fun r H locs hr0 hP hD hS => ?_)
        subst hr0
        refine z_ifb_ne (tgt := 76) F dX3_addContract_71 (by decide) (fun c5 => ?_) (fun c5 => ?_)
        · obtain ⟨b1, hb10, hb1, rfl⟩ := (zB_iff (by omega) (by decide)).mp (c5.2.1.1)
          try rw [ix_nI (show b1 < 2 ^ 31 by omega)]
          obtain ⟨b2, hb20, hb2, rfl⟩ := (zB_iff (by omega) (by decide)).mp (c5.2.1.2.1)
          try rw [ix_nI (show b2 < 2 ^ 31 by omega)]
          obtain ⟨b3, hb30, hb3, rfl⟩ := (zB_iff (by omega) (by decide)).mp (c5.2.1.2.2)
          try rw [ix_nI (show b3 < 2 ^ 31 by omega)]
          have hlt8 := c5.2.2.2
          refine lv_bipush (v := nI 8) hx hb dX3_addContract_76 (by decide) ?_
          refine lv_iload_n hx hb dX3_addContract_78 rfl (lv_at hl 2 rfl) ?_
          refine z_mul F dX3_addContract_79 ?_
          refine lv_aload_n hx hb dX3_addContract_80 rfl (lv_at hl 1 rfl) ?_
          refine z_get (C := RX3) (T := TX3) (N := 21) (ci := 3) (fs := mObj bd M (nI (x3 (zI 4 (nI i)) ((nI 1 ≤ (nI b1) ∧ (nI b1) ≤ nI 15) ∧ (nI 0 ≤ (nI b2) ∧ (nI b2) ≤ nI 1000) ∧ ((nI b2) ≤ (nI b3) ∧ (nI b3) ≤ nI 1000)) (zI 4 (nI i) ∧ M 7 (i) < 8)))) (v := .ref (bd 7)) F hK hP hi3 rfl (0) 7 (by omega) cM_0 (by decide) rfl (by decide +kernel) dX3_addContract_81 ?_
          refine lv_iload_n hx hb dX3_addContract_84 rfl (lv_at hl 2 rfl) ?_
          refine z_iald (v := nI (M 7 i)) (cA := k 0) (len := 4) (g := mA M O 7) F hK hP (7) 0 (by omega) rfl rfl (i := nI i) i rfl hi (by decide) rfl dX3_addContract_85 ?_
          refine z_add F dX3_addContract_86 ?_
          refine lv_istore (lv' := [(6, .int (nI ((8 * i) + (M 7 i)))), (5, .int (bI (zI 4 (nI i)))), (0, .ref (bd 0)), (1, .int (nI i)), (2, .int (nI b1)), (3, .int (nI b2)), (4, .int (nI b3))]) hx hb dX3_addContract_87 hl (by decide) rfl (fun ls hl => ?_)
          refine lv_aload_n hx hb dX3_addContract_89 rfl (lv_at hl 2 rfl) ?_
          refine z_get (C := RX3) (T := TX3) (N := 21) (ci := 3) (fs := mObj bd M (nI (x3 (zI 4 (nI i)) ((nI 1 ≤ (nI b1) ∧ (nI b1) ≤ nI 15) ∧ (nI 0 ≤ (nI b2) ∧ (nI b2) ≤ nI 1000) ∧ ((nI b2) ≤ (nI b3) ∧ (nI b3) ≤ nI 1000)) (zI 4 (nI i) ∧ M 7 (i) < 8)))) (v := .ref (bd 4)) F hK hP hi3 rfl (0) 4 (by omega) cM_0 (by decide) rfl (by decide +kernel) dX3_addContract_90 ?_
          refine lv_iload hx hb dX3_addContract_93 (lv_at hl 0 rfl) ?_
          refine lv_iload_n hx hb dX3_addContract_95 rfl (lv_at hl 4 rfl) ?_
          refine z_iast (f' := (cM k bd (zu M 4 ((8 * i) + (M 7 i)) b1) O (nI (x3 (zI 4 (nI i)) ((nI 1 ≤ (nI b1) ∧ (nI b1) ≤ nI 15) ∧ (nI 0 ≤ (nI b2) ∧ (nI b2) ≤ nI 1000) ∧ ((nI b2) ≤ (nI b3) ∧ (nI b3) ≤ nI 1000)) (zI 4 (nI i) ∧ M 7 (i) < 8))))) (cA := k 0) (len := 32) (g := mA M O 4) F hK hP hD hS (4) 0 (by omega) rfl rfl (i := nI ((8 * i) + (M 7 i))) ((8 * i) + (M 7 i)) rfl (by omega) (by decide) (cM_urow 4 (by decide) (by decide) (by decide) (by decide) (by decide) _ _) dX3_addContract_96 (fun H locs hP hD hS => ?_)
          refine lv_aload_n hx hb dX3_addContract_97 rfl (lv_at hl 2 rfl) ?_
          refine z_get (C := RX3) (T := TX3) (N := 21) (ci := 3) (fs := mObj bd (zu M 4 ((8 * i) + (M 7 i)) b1) (nI (x3 (zI 4 (nI i)) ((nI 1 ≤ (nI b1) ∧ (nI b1) ≤ nI 15) ∧ (nI 0 ≤ (nI b2) ∧ (nI b2) ≤ nI 1000) ∧ ((nI b2) ≤ (nI b3) ∧ (nI b3) ≤ nI 1000)) (zI 4 (nI i) ∧ M 7 (i) < 8)))) (v := .ref (bd 5)) F hK hP hi3 rfl (0) 5 (by omega) cM_0 (by decide) rfl (by decide +kernel) dX3_addContract_98 ?_
          refine lv_iload hx hb dX3_addContract_101 (lv_at hl 0 rfl) ?_
          refine lv_iload_n hx hb dX3_addContract_103 rfl (lv_at hl 5 rfl) ?_
          refine z_iast (f' := (cM k bd (zu (zu M 4 ((8 * i) + (M 7 i)) b1) 5 ((8 * i) + (M 7 i)) b2) O (nI (x3 (zI 4 (nI i)) ((nI 1 ≤ (nI b1) ∧ (nI b1) ≤ nI 15) ∧ (nI 0 ≤ (nI b2) ∧ (nI b2) ≤ nI 1000) ∧ ((nI b2) ≤ (nI b3) ∧ (nI b3) ≤ nI 1000)) (zI 4 (nI i) ∧ M 7 (i) < 8))))) (cA := k 0) (len := 32) (g := mA (zu M 4 ((8 * i) + (M 7 i)) b1) O 5) F hK hP hD hS (5) 0 (by omega) rfl rfl (i := nI ((8 * i) + (M 7 i))) ((8 * i) + (M 7 i)) rfl (by omega) (by decide) (cM_urow 5 (by decide) (by decide) (by decide) (by decide) (by decide) _ _) dX3_addContract_104 (fun H locs hP hD hS => ?_)
          refine lv_aload_n hx hb dX3_addContract_105 rfl (lv_at hl 2 rfl) ?_
          refine z_get (C := RX3) (T := TX3) (N := 21) (ci := 3) (fs := mObj bd (zu (zu M 4 ((8 * i) + (M 7 i)) b1) 5 ((8 * i) + (M 7 i)) b2) (nI (x3 (zI 4 (nI i)) ((nI 1 ≤ (nI b1) ∧ (nI b1) ≤ nI 15) ∧ (nI 0 ≤ (nI b2) ∧ (nI b2) ≤ nI 1000) ∧ ((nI b2) ≤ (nI b3) ∧ (nI b3) ≤ nI 1000)) (zI 4 (nI i) ∧ M 7 (i) < 8)))) (v := .ref (bd 6)) F hK hP hi3 rfl (0) 6 (by omega) cM_0 (by decide) rfl (by decide +kernel) dX3_addContract_106 ?_
          refine lv_iload hx hb dX3_addContract_109 (lv_at hl 0 rfl) ?_
          refine lv_iload hx hb dX3_addContract_111 (lv_at hl 6 rfl) ?_
          refine z_iast (f' := (cM k bd (zu (zu (zu M 4 ((8 * i) + (M 7 i)) b1) 5 ((8 * i) + (M 7 i)) b2) 6 ((8 * i) + (M 7 i)) b3) O (nI (x3 (zI 4 (nI i)) ((nI 1 ≤ (nI b1) ∧ (nI b1) ≤ nI 15) ∧ (nI 0 ≤ (nI b2) ∧ (nI b2) ≤ nI 1000) ∧ ((nI b2) ≤ (nI b3) ∧ (nI b3) ≤ nI 1000)) (zI 4 (nI i) ∧ M 7 (i) < 8))))) (cA := k 0) (len := 32) (g := mA (zu (zu M 4 ((8 * i) + (M 7 i)) b1) 5 ((8 * i) + (M 7 i)) b2) O 6) F hK hP hD hS (6) 0 (by omega) rfl rfl (i := nI ((8 * i) + (M 7 i))) ((8 * i) + (M 7 i)) rfl (by omega) (by decide) (cM_urow 6 (by decide) (by decide) (by decide) (by decide) (by decide) _ _) dX3_addContract_113 (fun H locs hP hD hS => ?_)
          refine lv_aload_n hx hb dX3_addContract_114 rfl (lv_at hl 2 rfl) ?_
          refine z_get (C := RX3) (T := TX3) (N := 21) (ci := 3) (fs := mObj bd (zu (zu (zu M 4 ((8 * i) + (M 7 i)) b1) 5 ((8 * i) + (M 7 i)) b2) 6 ((8 * i) + (M 7 i)) b3) (nI (x3 (zI 4 (nI i)) ((nI 1 ≤ (nI b1) ∧ (nI b1) ≤ nI 15) ∧ (nI 0 ≤ (nI b2) ∧ (nI b2) ≤ nI 1000) ∧ ((nI b2) ≤ (nI b3) ∧ (nI b3) ≤ nI 1000)) (zI 4 (nI i) ∧ M 7 (i) < 8)))) (v := .ref (bd 7)) F hK hP hi3 rfl (0) 7 (by omega) cM_0 (by decide) rfl (by decide +kernel) dX3_addContract_115 ?_
          refine lv_iload_n hx hb dX3_addContract_118 rfl (lv_at hl 3 rfl) ?_
          refine lv_dup2_11 hx hb dX3_addContract_119 rfl rfl ?_
          refine z_iald (v := nI (M 7 i)) (cA := k 0) (len := 4) (g := mA (zu (zu (zu M 4 ((8 * i) + (M 7 i)) b1) 5 ((8 * i) + (M 7 i)) b2) 6 ((8 * i) + (M 7 i)) b3) O 7) F hK hP (7) 0 (by omega) rfl rfl (i := nI i) i rfl hi (by decide) (by first | rfl | (show nI _ = nI _; simp [zu])) dX3_addContract_120 ?_
          refine lv_iconst (v := nI 1) hx hb dX3_addContract_121 (by decide) ?_
          refine z_add F dX3_addContract_122 ?_
          refine z_iast (f' := (cM k bd (zu (zu (zu (zu M 4 ((8 * i) + (M 7 i)) b1) 5 ((8 * i) + (M 7 i)) b2) 6 ((8 * i) + (M 7 i)) b3) 7 i ((M 7 i) + 1)) O (nI (x3 (zI 4 (nI i)) ((nI 1 ≤ (nI b1) ∧ (nI b1) ≤ nI 15) ∧ (nI 0 ≤ (nI b2) ∧ (nI b2) ≤ nI 1000) ∧ ((nI b2) ≤ (nI b3) ∧ (nI b3) ≤ nI 1000)) (zI 4 (nI i) ∧ M 7 (i) < 8))))) (cA := k 0) (len := 4) (g := mA (zu (zu (zu M 4 ((8 * i) + (M 7 i)) b1) 5 ((8 * i) + (M 7 i)) b2) 6 ((8 * i) + (M 7 i)) b3) O 7) F hK hP hD hS (7) 0 (by omega) rfl rfl (i := nI i) i rfl hi (by decide) (cM_urow 7 (by decide) (by decide) (by decide) (by decide) (by decide) _ _) dX3_addContract_123 (fun H locs hP hD hS => ?_)
          refine lv_aload_n hx hb dX3_addContract_124 rfl (lv_at hl 2 rfl) ?_
          refine z_get (C := RX3) (T := TX3) (N := 21) (ci := 3) (fs := mObj bd (zu (zu (zu (zu M 4 ((8 * i) + (M 7 i)) b1) 5 ((8 * i) + (M 7 i)) b2) 6 ((8 * i) + (M 7 i)) b3) 7 i ((M 7 i) + 1)) (nI (x3 (zI 4 (nI i)) ((nI 1 ≤ (nI b1) ∧ (nI b1) ≤ nI 15) ∧ (nI 0 ≤ (nI b2) ∧ (nI b2) ≤ nI 1000) ∧ ((nI b2) ≤ (nI b3) ∧ (nI b3) ≤ nI 1000)) (zI 4 (nI i) ∧ M 7 (i) < 8)))) (v := .ref (bd 7)) F hK hP hi3 rfl (0) 7 (by omega) cM_0 (by decide) rfl (by decide +kernel) dX3_addContract_125 ?_
          refine lv_iload_n hx hb dX3_addContract_128 rfl (lv_at hl 3 rfl) ?_
          refine z_iald (v := nI ((M 7 i) + 1)) (cA := k 0) (len := 4) (g := mA (zu (zu (zu (zu M 4 ((8 * i) + (M 7 i)) b1) 5 ((8 * i) + (M 7 i)) b2) 6 ((8 * i) + (M 7 i)) b3) 7 i ((M 7 i) + 1)) O 7) F hK hP (7) 0 (by omega) rfl rfl (i := nI i) i rfl hi (by decide) (by first | rfl | (show nI _ = nI _; simp [zu])) dX3_addContract_129 ?_
          have hx0 : (x3 (zI 4 (nI i)) ((nI 1 ≤ (nI b1) ∧ (nI b1) ≤ nI 15) ∧ (nI 0 ≤ (nI b2) ∧ (nI b2) ≤ nI 1000) ∧ ((nI b2) ≤ (nI b3) ∧ (nI b3) ≤ nI 1000)) (M 7 (i) < 8)) = 0 := x3_0 c5.1 c5.2.1 c5.2.2.2
          have eW : cM k bd (if (x3 (zI 4 (nI i)) ((nI 1 ≤ (nI b1) ∧ (nI b1) ≤ nI 15) ∧ (nI 0 ≤ (nI b2) ∧ (nI b2) ≤ nI 1000) ∧ ((nI b2) ≤ (nI b3) ∧ (nI b3) ≤ nI 1000)) (M 7 (i) < 8)) = 0 then (kcM M (i) (b1) (b2) (b3)) else M) O (nI ((x3 (zI 4 (nI i)) ((nI 1 ≤ (nI b1) ∧ (nI b1) ≤ nI 15) ∧ (nI 0 ≤ (nI b2) ∧ (nI b2) ≤ nI 1000) ∧ ((nI b2) ≤ (nI b3) ∧ (nI b3) ≤ nI 1000)) (M 7 (i) < 8)))) = cM k bd (zu (zu (zu (zu M 4 ((8 * i) + (M 7 i)) b1) 5 ((8 * i) + (M 7 i)) b2) 6 ((8 * i) + (M 7 i)) b3) 7 i ((M 7 i) + 1)) O (nI (x3 (zI 4 (nI i)) ((nI 1 ≤ (nI b1) ∧ (nI b1) ≤ nI 15) ∧ (nI 0 ≤ (nI b2) ∧ (nI b2) ≤ nI 1000) ∧ ((nI b2) ≤ (nI b3) ∧ (nI b3) ≤ nI 1000)) (zI 4 (nI i) ∧ M 7 (i) < 8))) := by rw [if_pos hx0, ← x3_ac, kcM_y c5.2.2.2] <;> rfl
          rw [← eW] at hP hD
          refine W.widen (k := 0) (n := 0) (Nat.le_of_ble_eq_true rfl) (Nat.le_of_ble_eq_true rfl) ?_
          exact W.iret (v := nI ((M 7 i) + 1)) hx hb hr (fun t ht hW => ⟨⟨nI ((M 7 i) + 1), (), rfl, fun _ => (by rw [kcM_y c5.2.2.2, zu_s]), ⟨by rw [ht]; exact hP, va_K.moved hW.alike hK⟩, hD⟩, hS.F ht⟩) hS.2.2 dX3_addContract_130
        · refine lv_iconst (v := nI 0) hx hb dX3_addContract_74 (by decide) ?_
          have hx0 : (x3 (zI 4 (nI i)) ((nI 1 ≤ p1 ∧ p1 ≤ nI 15) ∧ (nI 0 ≤ p2 ∧ p2 ≤ nI 1000) ∧ (p2 ≤ p3 ∧ p3 ≤ nI 1000)) (M 7 (i) < 8)) ≠ 0 := x3_no (fun zz1 => c5 ⟨zz1.1, zz1.2.1, zz1.1, zz1.2.2⟩)
          have eW : cM k bd (if (x3 (zI 4 (nI i)) ((nI 1 ≤ p1 ∧ p1 ≤ nI 15) ∧ (nI 0 ≤ p2 ∧ p2 ≤ nI 1000) ∧ (p2 ≤ p3 ∧ p3 ≤ nI 1000)) (M 7 (i) < 8)) = 0 then (kcM M (i) (ix p1) (ix p2) (ix p3)) else M) O (nI ((x3 (zI 4 (nI i)) ((nI 1 ≤ p1 ∧ p1 ≤ nI 15) ∧ (nI 0 ≤ p2 ∧ p2 ≤ nI 1000) ∧ (p2 ≤ p3 ∧ p3 ≤ nI 1000)) (M 7 (i) < 8)))) = cM k bd M O (nI (x3 (zI 4 (nI i)) ((nI 1 ≤ p1 ∧ p1 ≤ nI 15) ∧ (nI 0 ≤ p2 ∧ p2 ≤ nI 1000) ∧ (p2 ≤ p3 ∧ p3 ≤ nI 1000)) (zI 4 (nI i) ∧ M 7 (i) < 8))) := by rw [if_neg hx0, ← x3_ac] <;> rfl
          rw [← eW] at hP hD
          refine W.widen (k := 0) (n := 0) (Nat.le_of_ble_eq_true rfl) (Nat.le_of_ble_eq_true rfl) ?_
          exact W.iret (v := nI 0) hx hb hr (fun t ht hW => ⟨⟨nI 0, (), rfl, fun zz1 => absurd zz1 hx0, ⟨by rw [ht]; exact hP, va_K.moved hW.alike hK⟩, hD⟩, hS.F ht⟩) hS.2.2 dX3_addContract_75
      · refine lv_iconst (v := nI 1) hx hb dX3_addContract_63 (by decide) ?_
        refine lv_goto (tgt := 68) hx hb dX3_addContract_64 (by decide) ?_
        refine z_top (show nI 1 = bI (zI 4 (nI i) ∧ M 7 (i) < 8) from (bI_t ⟨c2, c4⟩).symm) ?_
        refine z_mV (qc := (RX3, TX3, 21)) (As := [.int (bI (zI 4 (nI i))), .int (bI ((nI 1 ≤ p1 ∧ p1 ≤ nI 15) ∧ (nI 0 ≤ p2 ∧ p2 ≤ nI 1000) ∧ (p2 ≤ p3 ∧ p3 ≤ nI 1000))), .int (bI (zI 4 (nI i) ∧ M 7 (i) < 8))]) (rest := []) (0) F (c_X3_asked__ l D k bd M O th _ (zI 4 (nI i)) ((nI 1 ≤ p1 ∧ p1 ≤ nI 15) ∧ (nI 0 ≤ p2 ∧ p2 ≤ nI 1000) ∧ (p2 ≤ p3 ∧ p3 ≤ nI 1000)) (zI 4 (nI i) ∧ M 7 (i) < 8)) (cwV 3 hts gX3_addContract_X3_asked__ rfl rfl rfl (by decide +kernel) ⟨Nat.le_of_ble_eq_true rfl, Nat.le_of_ble_eq_true rfl⟩) hK hP hD hS hA (by omega) cM_0 rfl rfl hl.1 rfl (Nat.le_of_ble_eq_true rfl) dX3_addContract_68 ⟨Nat.le_of_ble_eq_true rfl, Nat.le_of_ble_eq_true rfl⟩ (fun r H locs hr0 hP hD hS => ?_)
        subst hr0
        refine z_ifb_ne (tgt := 76) F dX3_addContract_71 (by decide) (fun c6 => ?_) (fun c6 => ?_)
        · obtain ⟨b1, hb10, hb1, rfl⟩ := (zB_iff (by omega) (by decide)).mp (c6.2.1.1)
          try rw [ix_nI (show b1 < 2 ^ 31 by omega)]
          obtain ⟨b2, hb20, hb2, rfl⟩ := (zB_iff (by omega) (by decide)).mp (c6.2.1.2.1)
          try rw [ix_nI (show b2 < 2 ^ 31 by omega)]
          obtain ⟨b3, hb30, hb3, rfl⟩ := (zB_iff (by omega) (by decide)).mp (c6.2.1.2.2)
          try rw [ix_nI (show b3 < 2 ^ 31 by omega)]
          have hlt8 := c6.2.2.2
          refine lv_bipush (v := nI 8) hx hb dX3_addContract_76 (by decide) ?_
          refine lv_iload_n hx hb dX3_addContract_78 rfl (lv_at hl 2 rfl) ?_
          refine z_mul F dX3_addContract_79 ?_
          refine lv_aload_n hx hb dX3_addContract_80 rfl (lv_at hl 1 rfl) ?_
          refine z_get (C := RX3) (T := TX3) (N := 21) (ci := 3) (fs := mObj bd M (nI (x3 (zI 4 (nI i)) ((nI 1 ≤ (nI b1) ∧ (nI b1) ≤ nI 15) ∧ (nI 0 ≤ (nI b2) ∧ (nI b2) ≤ nI 1000) ∧ ((nI b2) ≤ (nI b3) ∧ (nI b3) ≤ nI 1000)) (zI 4 (nI i) ∧ M 7 (i) < 8)))) (v := .ref (bd 7)) F hK hP hi3 rfl (0) 7 (by omega) cM_0 (by decide) rfl (by decide +kernel) dX3_addContract_81 ?_
          refine lv_iload_n hx hb dX3_addContract_84 rfl (lv_at hl 2 rfl) ?_
          refine z_iald (v := nI (M 7 i)) (cA := k 0) (len := 4) (g := mA M O 7) F hK hP (7) 0 (by omega) rfl rfl (i := nI i) i rfl hi (by decide) rfl dX3_addContract_85 ?_
          refine z_add F dX3_addContract_86 ?_
          refine lv_istore (lv' := [(6, .int (nI ((8 * i) + (M 7 i)))), (5, .int (bI (zI 4 (nI i)))), (0, .ref (bd 0)), (1, .int (nI i)), (2, .int (nI b1)), (3, .int (nI b2)), (4, .int (nI b3))]) hx hb dX3_addContract_87 hl (by decide) rfl (fun ls hl => ?_)
          refine lv_aload_n hx hb dX3_addContract_89 rfl (lv_at hl 2 rfl) ?_
          refine z_get (C := RX3) (T := TX3) (N := 21) (ci := 3) (fs := mObj bd M (nI (x3 (zI 4 (nI i)) ((nI 1 ≤ (nI b1) ∧ (nI b1) ≤ nI 15) ∧ (nI 0 ≤ (nI b2) ∧ (nI b2) ≤ nI 1000) ∧ ((nI b2) ≤ (nI b3) ∧ (nI b3) ≤ nI 1000)) (zI 4 (nI i) ∧ M 7 (i) < 8)))) (v := .ref (bd 4)) F hK hP hi3 rfl (0) 4 (by omega) cM_0 (by decide) rfl (by decide +kernel) dX3_addContract_90 ?_
          refine lv_iload hx hb dX3_addContract_93 (lv_at hl 0 rfl) ?_
          refine lv_iload_n hx hb dX3_addContract_95 rfl (lv_at hl 4 rfl) ?_
          refine z_iast (f' := (cM k bd (zu M 4 ((8 * i) + (M 7 i)) b1) O (nI (x3 (zI 4 (nI i)) ((nI 1 ≤ (nI b1) ∧ (nI b1) ≤ nI 15) ∧ (nI 0 ≤ (nI b2) ∧ (nI b2) ≤ nI 1000) ∧ ((nI b2) ≤ (nI b3) ∧ (nI b3) ≤ nI 1000)) (zI 4 (nI i) ∧ M 7 (i) < 8))))) (cA := k 0) (len := 32) (g := mA M O 4) F hK hP hD hS (4) 0 (by omega) rfl rfl (i := nI ((8 * i) + (M 7 i))) ((8 * i) + (M 7 i)) rfl (by omega) (by decide) (cM_urow 4 (by decide) (by decide) (by decide) (by decide) (by decide) _ _) dX3_addContract_96 (fun H locs hP hD hS => ?_)
          refine lv_aload_n hx hb dX3_addContract_97 rfl (lv_at hl 2 rfl) ?_
          refine z_get (C := RX3) (T := TX3) (N := 21) (ci := 3) (fs := mObj bd (zu M 4 ((8 * i) + (M 7 i)) b1) (nI (x3 (zI 4 (nI i)) ((nI 1 ≤ (nI b1) ∧ (nI b1) ≤ nI 15) ∧ (nI 0 ≤ (nI b2) ∧ (nI b2) ≤ nI 1000) ∧ ((nI b2) ≤ (nI b3) ∧ (nI b3) ≤ nI 1000)) (zI 4 (nI i) ∧ M 7 (i) < 8)))) (v := .ref (bd 5)) F hK hP hi3 rfl (0) 5 (by omega) cM_0 (by decide) rfl (by decide +kernel) dX3_addContract_98 ?_
          refine lv_iload hx hb dX3_addContract_101 (lv_at hl 0 rfl) ?_
          refine lv_iload_n hx hb dX3_addContract_103 rfl (lv_at hl 5 rfl) ?_
          refine z_iast (f' := (cM k bd (zu (zu M 4 ((8 * i) + (M 7 i)) b1) 5 ((8 * i) + (M 7 i)) b2) O (nI (x3 (zI 4 (nI i)) ((nI 1 ≤ (nI b1) ∧ (nI b1) ≤ nI 15) ∧ (nI 0 ≤ (nI b2) ∧ (nI b2) ≤ nI 1000) ∧ ((nI b2) ≤ (nI b3) ∧ (nI b3) ≤ nI 1000)) (zI 4 (nI i) ∧ M 7 (i) < 8))))) (cA := k 0) (len := 32) (g := mA (zu M 4 ((8 * i) + (M 7 i)) b1) O 5) F hK hP hD hS (5) 0 (by omega) rfl rfl (i := nI ((8 * i) + (M 7 i))) ((8 * i) + (M 7 i)) rfl (by omega) (by decide) (cM_urow 5 (by decide) (by decide) (by decide) (by decide) (by decide) _ _) dX3_addContract_104 (fun H locs hP hD hS => ?_)
          refine lv_aload_n hx hb dX3_addContract_105 rfl (lv_at hl 2 rfl) ?_
          refine z_get (C := RX3) (T := TX3) (N := 21) (ci := 3) (fs := mObj bd (zu (zu M 4 ((8 * i) + (M 7 i)) b1) 5 ((8 * i) + (M 7 i)) b2) (nI (x3 (zI 4 (nI i)) ((nI 1 ≤ (nI b1) ∧ (nI b1) ≤ nI 15) ∧ (nI 0 ≤ (nI b2) ∧ (nI b2) ≤ nI 1000) ∧ ((nI b2) ≤ (nI b3) ∧ (nI b3) ≤ nI 1000)) (zI 4 (nI i) ∧ M 7 (i) < 8)))) (v := .ref (bd 6)) F hK hP hi3 rfl (0) 6 (by omega) cM_0 (by decide) rfl (by decide +kernel) dX3_addContract_106 ?_
          refine lv_iload hx hb dX3_addContract_109 (lv_at hl 0 rfl) ?_
          refine lv_iload hx hb dX3_addContract_111 (lv_at hl 6 rfl) ?_
          refine z_iast (f' := (cM k bd (zu (zu (zu M 4 ((8 * i) + (M 7 i)) b1) 5 ((8 * i) + (M 7 i)) b2) 6 ((8 * i) + (M 7 i)) b3) O (nI (x3 (zI 4 (nI i)) ((nI 1 ≤ (nI b1) ∧ (nI b1) ≤ nI 15) ∧ (nI 0 ≤ (nI b2) ∧ (nI b2) ≤ nI 1000) ∧ ((nI b2) ≤ (nI b3) ∧ (nI b3) ≤ nI 1000)) (zI 4 (nI i) ∧ M 7 (i) < 8))))) (cA := k 0) (len := 32) (g := mA (zu (zu M 4 ((8 * i) + (M 7 i)) b1) 5 ((8 * i) + (M 7 i)) b2) O 6) F hK hP hD hS (6) 0 (by omega) rfl rfl (i := nI ((8 * i) + (M 7 i))) ((8 * i) + (M 7 i)) rfl (by omega) (by decide) (cM_urow 6 (by decide) (by decide) (by decide) (by decide) (by decide) _ _) dX3_addContract_113 (fun H locs hP hD hS => ?_)
          refine lv_aload_n hx hb dX3_addContract_114 rfl (lv_at hl 2 rfl) ?_
          refine z_get (C := RX3) (T := TX3) (N := 21) (ci := 3) (fs := mObj bd (zu (zu (zu M 4 ((8 * i) + (M 7 i)) b1) 5 ((8 * i) + (M 7 i)) b2) 6 ((8 * i) + (M 7 i)) b3) (nI (x3 (zI 4 (nI i)) ((nI 1 ≤ (nI b1) ∧ (nI b1) ≤ nI 15) ∧ (nI 0 ≤ (nI b2) ∧ (nI b2) ≤ nI 1000) ∧ ((nI b2) ≤ (nI b3) ∧ (nI b3) ≤ nI 1000)) (zI 4 (nI i) ∧ M 7 (i) < 8)))) (v := .ref (bd 7)) F hK hP hi3 rfl (0) 7 (by omega) cM_0 (by decide) rfl (by decide +kernel) dX3_addContract_115 ?_
          refine lv_iload_n hx hb dX3_addContract_118 rfl (lv_at hl 3 rfl) ?_
          refine lv_dup2_11 hx hb dX3_addContract_119 rfl rfl ?_
          refine z_iald (v := nI (M 7 i)) (cA := k 0) (len := 4) (g := mA (zu (zu (zu M 4 ((8 * i) + (M 7 i)) b1) 5 ((8 * i) + (M 7 i)) b2) 6 ((8 * i) + (M 7 i)) b3) O 7) F hK hP (7) 0 (by omega) rfl rfl (i := nI i) i rfl hi (by decide) (by first | rfl | (show nI _ = nI _; simp [zu])) dX3_addContract_120 ?_
          refine lv_iconst (v := nI 1) hx hb dX3_addContract_121 (by decide) ?_
          refine z_add F dX3_addContract_122 ?_
          refine z_iast (f' := (cM k bd (zu (zu (zu (zu M 4 ((8 * i) + (M 7 i)) b1) 5 ((8 * i) + (M 7 i)) b2) 6 ((8 * i) + (M 7 i)) b3) 7 i ((M 7 i) + 1)) O (nI (x3 (zI 4 (nI i)) ((nI 1 ≤ (nI b1) ∧ (nI b1) ≤ nI 15) ∧ (nI 0 ≤ (nI b2) ∧ (nI b2) ≤ nI 1000) ∧ ((nI b2) ≤ (nI b3) ∧ (nI b3) ≤ nI 1000)) (zI 4 (nI i) ∧ M 7 (i) < 8))))) (cA := k 0) (len := 4) (g := mA (zu (zu (zu M 4 ((8 * i) + (M 7 i)) b1) 5 ((8 * i) + (M 7 i)) b2) 6 ((8 * i) + (M 7 i)) b3) O 7) F hK hP hD hS (7) 0 (by omega) rfl rfl (i := nI i) i rfl hi (by decide) (cM_urow 7 (by decide) (by decide) (by decide) (by decide) (by decide) _ _) dX3_addContract_123 (fun H locs hP hD hS => ?_)
          refine lv_aload_n hx hb dX3_addContract_124 rfl (lv_at hl 2 rfl) ?_
          refine z_get (C := RX3) (T := TX3) (N := 21) (ci := 3) (fs := mObj bd (zu (zu (zu (zu M 4 ((8 * i) + (M 7 i)) b1) 5 ((8 * i) + (M 7 i)) b2) 6 ((8 * i) + (M 7 i)) b3) 7 i ((M 7 i) + 1)) (nI (x3 (zI 4 (nI i)) ((nI 1 ≤ (nI b1) ∧ (nI b1) ≤ nI 15) ∧ (nI 0 ≤ (nI b2) ∧ (nI b2) ≤ nI 1000) ∧ ((nI b2) ≤ (nI b3) ∧ (nI b3) ≤ nI 1000)) (zI 4 (nI i) ∧ M 7 (i) < 8)))) (v := .ref (bd 7)) F hK hP hi3 rfl (0) 7 (by omega) cM_0 (by decide) rfl (by decide +kernel) dX3_addContract_125 ?_
          refine lv_iload_n hx hb dX3_addContract_128 rfl (lv_at hl 3 rfl) ?_
          refine z_iald (v := nI ((M 7 i) + 1)) (cA := k 0) (len := 4) (g := mA (zu (zu (zu (zu M 4 ((8 * i) + (M 7 i)) b1) 5 ((8 * i) + (M 7 i)) b2) 6 ((8 * i) + (M 7 i)) b3) 7 i ((M 7 i) + 1)) O 7) F hK hP (7) 0 (by omega) rfl rfl (i := nI i) i rfl hi (by decide) (by first | rfl | (show nI _ = nI _; simp [zu])) dX3_addContract_129 ?_
          have hx0 : (x3 (zI 4 (nI i)) ((nI 1 ≤ (nI b1) ∧ (nI b1) ≤ nI 15) ∧ (nI 0 ≤ (nI b2) ∧ (nI b2) ≤ nI 1000) ∧ ((nI b2) ≤ (nI b3) ∧ (nI b3) ≤ nI 1000)) (M 7 (i) < 8)) = 0 := x3_0 c6.1 c6.2.1 c6.2.2.2
          have eW : cM k bd (if (x3 (zI 4 (nI i)) ((nI 1 ≤ (nI b1) ∧ (nI b1) ≤ nI 15) ∧ (nI 0 ≤ (nI b2) ∧ (nI b2) ≤ nI 1000) ∧ ((nI b2) ≤ (nI b3) ∧ (nI b3) ≤ nI 1000)) (M 7 (i) < 8)) = 0 then (kcM M (i) (b1) (b2) (b3)) else M) O (nI ((x3 (zI 4 (nI i)) ((nI 1 ≤ (nI b1) ∧ (nI b1) ≤ nI 15) ∧ (nI 0 ≤ (nI b2) ∧ (nI b2) ≤ nI 1000) ∧ ((nI b2) ≤ (nI b3) ∧ (nI b3) ≤ nI 1000)) (M 7 (i) < 8)))) = cM k bd (zu (zu (zu (zu M 4 ((8 * i) + (M 7 i)) b1) 5 ((8 * i) + (M 7 i)) b2) 6 ((8 * i) + (M 7 i)) b3) 7 i ((M 7 i) + 1)) O (nI (x3 (zI 4 (nI i)) ((nI 1 ≤ (nI b1) ∧ (nI b1) ≤ nI 15) ∧ (nI 0 ≤ (nI b2) ∧ (nI b2) ≤ nI 1000) ∧ ((nI b2) ≤ (nI b3) ∧ (nI b3) ≤ nI 1000)) (zI 4 (nI i) ∧ M 7 (i) < 8))) := by rw [if_pos hx0, ← x3_ac, kcM_y c6.2.2.2] <;> rfl
          rw [← eW] at hP hD
          refine W.widen (k := 0) (n := 0) (Nat.le_of_ble_eq_true rfl) (Nat.le_of_ble_eq_true rfl) ?_
          exact W.iret (v := nI ((M 7 i) + 1)) hx hb hr (fun t ht hW => ⟨⟨nI ((M 7 i) + 1), (), rfl, fun _ => (by rw [kcM_y c6.2.2.2, zu_s]), ⟨by rw [ht]; exact hP, va_K.moved hW.alike hK⟩, hD⟩, hS.F ht⟩) hS.2.2 dX3_addContract_130
        · refine lv_iconst (v := nI 0) hx hb dX3_addContract_74 (by decide) ?_
          have hx0 : (x3 (zI 4 (nI i)) ((nI 1 ≤ p1 ∧ p1 ≤ nI 15) ∧ (nI 0 ≤ p2 ∧ p2 ≤ nI 1000) ∧ (p2 ≤ p3 ∧ p3 ≤ nI 1000)) (M 7 (i) < 8)) ≠ 0 := x3_no (fun zz1 => c6 ⟨zz1.1, zz1.2.1, zz1.1, zz1.2.2⟩)
          have eW : cM k bd (if (x3 (zI 4 (nI i)) ((nI 1 ≤ p1 ∧ p1 ≤ nI 15) ∧ (nI 0 ≤ p2 ∧ p2 ≤ nI 1000) ∧ (p2 ≤ p3 ∧ p3 ≤ nI 1000)) (M 7 (i) < 8)) = 0 then (kcM M (i) (ix p1) (ix p2) (ix p3)) else M) O (nI ((x3 (zI 4 (nI i)) ((nI 1 ≤ p1 ∧ p1 ≤ nI 15) ∧ (nI 0 ≤ p2 ∧ p2 ≤ nI 1000) ∧ (p2 ≤ p3 ∧ p3 ≤ nI 1000)) (M 7 (i) < 8)))) = cM k bd M O (nI (x3 (zI 4 (nI i)) ((nI 1 ≤ p1 ∧ p1 ≤ nI 15) ∧ (nI 0 ≤ p2 ∧ p2 ≤ nI 1000) ∧ (p2 ≤ p3 ∧ p3 ≤ nI 1000)) (zI 4 (nI i) ∧ M 7 (i) < 8))) := by rw [if_neg hx0, ← x3_ac] <;> rfl
          rw [← eW] at hP hD
          refine W.widen (k := 0) (n := 0) (Nat.le_of_ble_eq_true rfl) (Nat.le_of_ble_eq_true rfl) ?_
          exact W.iret (v := nI 0) hx hb hr (fun t ht hW => ⟨⟨nI 0, (), rfl, fun zz1 => absurd zz1 hx0, ⟨by rw [ht]; exact hP, va_K.moved hW.alike hK⟩, hD⟩, hS.F ht⟩) hS.2.2 dX3_addContract_75
  · refine lv_iload_n hx hb dX3_addContract_19 rfl (lv_at hl 4 rfl) ?_
    refine lv_iconst (v := nI 0) hx hb dX3_addContract_20 (by decide) ?_
    refine lv_sipush (v := nI 1000) hx hb dX3_addContract_21 (by decide) ?_
    refine z_cS (As := [.int p2, .int (nI 0), .int (nI 1000)]) (rest := [.int (bI (zI 4 p0)), .ref (bd 0)]) F (c_X3_in l p2 (nI 0) (nI 1000)) (va_cwS 3 hts gX3_addContract_X3_in rfl rfl rfl (by decide +kernel) ⟨Nat.le_of_ble_eq_true rfl, Nat.le_of_ble_eq_true rfl⟩) rfl hl.1 rfl (Nat.le_of_ble_eq_true rfl) dX3_addContract_24 ⟨Nat.le_of_ble_eq_true rfl, Nat.le_of_ble_eq_true rfl⟩ (fun r hr => ?_)
    subst hr
    refine z_ifb_eq (tgt := 46) F dX3_addContract_27 (by decide) (fun c7 => ?_) (fun c7 => ?_)
    · refine lv_iconst (v := nI 0) hx hb dX3_addContract_46 (by decide) ?_
      refine z_top (show nI 0 = bI ((nI 1 ≤ p1 ∧ p1 ≤ nI 15) ∧ (nI 0 ≤ p2 ∧ p2 ≤ nI 1000) ∧ (p2 ≤ p3 ∧ p3 ≤ nI 1000)) from (bI_f (fun zz1 => by have zz2 := zz1.2.1; first | exact c7 zz2 | omega)).symm) ?_
      refine lv_iload hx hb dX3_addContract_47 (lv_at hl 0 rfl) ?_
      refine z_ifb_eq (tgt := 67) F dX3_addContract_49 (by decide) (fun c8 => ?_) (fun c8 => ?_)
      · refine lv_iconst (v := nI 0) hx hb dX3_addContract_67 (by decide) ?_
        refine z_top (show nI 0 = bI (zI 4 p0 ∧ M 7 (ix p0) < 8) from (bI_f (fun zz1 => by have zz2 := zz1.1; first | exact c8 zz2 | omega)).symm) ?_
        refine z_mV (qc := (RX3, TX3, 21)) (As := [.int (bI (zI 4 p0)), .int (bI ((nI 1 ≤ p1 ∧ p1 ≤ nI 15) ∧ (nI 0 ≤ p2 ∧ p2 ≤ nI 1000) ∧ (p2 ≤ p3 ∧ p3 ≤ nI 1000))), .int (bI (zI 4 p0 ∧ M 7 (ix p0) < 8))]) (rest := []) (0) F (c_X3_asked__ l D k bd M O th _ (zI 4 p0) ((nI 1 ≤ p1 ∧ p1 ≤ nI 15) ∧ (nI 0 ≤ p2 ∧ p2 ≤ nI 1000) ∧ (p2 ≤ p3 ∧ p3 ≤ nI 1000)) (zI 4 p0 ∧ M 7 (ix p0) < 8)) (cwV 3 hts gX3_addContract_X3_asked__ rfl rfl rfl (by decide +kernel) ⟨Nat.le_of_ble_eq_true rfl, Nat.le_of_ble_eq_true rfl⟩) hK hP hD hS hA (by omega) cM_0 rfl rfl hl.1 rfl (Nat.le_of_ble_eq_true rfl) dX3_addContract_68 ⟨Nat.le_of_ble_eq_true rfl, Nat.le_of_ble_eq_true rfl⟩ (fun r H locs hr0 hP hD hS => ?_)
        subst hr0
        refine z_ifb_ne (tgt := 76) F dX3_addContract_71 (by decide) (fun c9 => ?_) (fun c9 => ?_)
        · first | exact absurd c9.1 c1 | exact absurd c9.1 c7 | exact absurd c9.1 c8
        · refine lv_iconst (v := nI 0) hx hb dX3_addContract_74 (by decide) ?_
          have hx0 : (x3 (zI 4 p0) ((nI 1 ≤ p1 ∧ p1 ≤ nI 15) ∧ (nI 0 ≤ p2 ∧ p2 ≤ nI 1000) ∧ (p2 ≤ p3 ∧ p3 ≤ nI 1000)) (M 7 (ix p0) < 8)) ≠ 0 := x3_no (fun zz1 => c9 ⟨zz1.1, zz1.2.1, zz1.1, zz1.2.2⟩)
          have eW : cM k bd (if (x3 (zI 4 p0) ((nI 1 ≤ p1 ∧ p1 ≤ nI 15) ∧ (nI 0 ≤ p2 ∧ p2 ≤ nI 1000) ∧ (p2 ≤ p3 ∧ p3 ≤ nI 1000)) (M 7 (ix p0) < 8)) = 0 then (kcM M (ix p0) (ix p1) (ix p2) (ix p3)) else M) O (nI ((x3 (zI 4 p0) ((nI 1 ≤ p1 ∧ p1 ≤ nI 15) ∧ (nI 0 ≤ p2 ∧ p2 ≤ nI 1000) ∧ (p2 ≤ p3 ∧ p3 ≤ nI 1000)) (M 7 (ix p0) < 8)))) = cM k bd M O (nI (x3 (zI 4 p0) ((nI 1 ≤ p1 ∧ p1 ≤ nI 15) ∧ (nI 0 ≤ p2 ∧ p2 ≤ nI 1000) ∧ (p2 ≤ p3 ∧ p3 ≤ nI 1000)) (zI 4 p0 ∧ M 7 (ix p0) < 8))) := by rw [if_neg hx0, ← x3_ac] <;> rfl
          rw [← eW] at hP hD
          refine W.widen (k := 0) (n := 0) (Nat.le_of_ble_eq_true rfl) (Nat.le_of_ble_eq_true rfl) ?_
          exact W.iret (v := nI 0) hx hb hr (fun t ht hW => ⟨⟨nI 0, (), rfl, fun zz1 => absurd zz1 hx0, ⟨by rw [ht]; exact hP, va_K.moved hW.alike hK⟩, hD⟩, hS.F ht⟩) hS.2.2 dX3_addContract_75
      · obtain ⟨i, hi, rfl⟩ := id (c8)
        try rw [ix_nI (show i < 2 ^ 31 by omega)]
        obtain ⟨hs, hco⟩ := hI3 i hi
        obtain ⟨hd1, hd2, hd3, hd4⟩ := id hs
        refine lv_aload_n hx hb dX3_addContract_52 rfl (lv_at hl 1 rfl) ?_
        refine z_get (C := RX3) (T := TX3) (N := 21) (ci := 3) (fs := mObj bd M th) (v := .ref (bd 7)) F hK hP hi3 rfl (0) 7 (by omega) cM_0 (by decide) rfl (by decide +kernel) dX3_addContract_53 ?_
        refine lv_iload_n hx hb dX3_addContract_56 rfl (lv_at hl 2 rfl) ?_
        refine z_iald (v := nI (M 7 i)) (cA := k 0) (len := 4) (g := mA M O 7) F hK hP (7) 0 (by omega) rfl rfl (i := nI i) i rfl hi (by decide) rfl dX3_addContract_57 ?_
        refine lv_bipush (v := nI 8) hx hb dX3_addContract_58 (by decide) ?_
        refine z_icmp_ge (tgt := 67) F (by omega) (by omega) dX3_addContract_60 (by decide) (fun c10 => ?_) (fun c10 => ?_)
        · refine lv_iconst (v := nI 0) hx hb dX3_addContract_67 (by decide) ?_
          refine z_top (show nI 0 = bI (zI 4 (nI i) ∧ M 7 (i) < 8) from (bI_f (fun zz1 => by have zz2 := zz1.2; first | exact c10 zz2 | omega)).symm) ?_
          refine z_mV (qc := (RX3, TX3, 21)) (As := [.int (bI (zI 4 (nI i))), .int (bI ((nI 1 ≤ p1 ∧ p1 ≤ nI 15) ∧ (nI 0 ≤ p2 ∧ p2 ≤ nI 1000) ∧ (p2 ≤ p3 ∧ p3 ≤ nI 1000))), .int (bI (zI 4 (nI i) ∧ M 7 (i) < 8))]) (rest := []) (0) F (c_X3_asked__ l D k bd M O th _ (zI 4 (nI i)) ((nI 1 ≤ p1 ∧ p1 ≤ nI 15) ∧ (nI 0 ≤ p2 ∧ p2 ≤ nI 1000) ∧ (p2 ≤ p3 ∧ p3 ≤ nI 1000)) (zI 4 (nI i) ∧ M 7 (i) < 8)) (cwV 3 hts gX3_addContract_X3_asked__ rfl rfl rfl (by decide +kernel) ⟨Nat.le_of_ble_eq_true rfl, Nat.le_of_ble_eq_true rfl⟩) hK hP hD hS hA (by omega) cM_0 rfl rfl hl.1 rfl (Nat.le_of_ble_eq_true rfl) dX3_addContract_68 ⟨Nat.le_of_ble_eq_true rfl, Nat.le_of_ble_eq_true rfl⟩ (fun r H locs hr0 hP hD hS => ?_)
          subst hr0
          refine z_ifb_ne (tgt := 76) F dX3_addContract_71 (by decide) (fun c11 => ?_) (fun c11 => ?_)
          · obtain ⟨b1, hb10, hb1, rfl⟩ := (zB_iff (by omega) (by decide)).mp (c11.2.1.1)
            try rw [ix_nI (show b1 < 2 ^ 31 by omega)]
            obtain ⟨b2, hb20, hb2, rfl⟩ := (zB_iff (by omega) (by decide)).mp (c11.2.1.2.1)
            try rw [ix_nI (show b2 < 2 ^ 31 by omega)]
            obtain ⟨b3, hb30, hb3, rfl⟩ := (zB_iff (by omega) (by decide)).mp (c11.2.1.2.2)
            try rw [ix_nI (show b3 < 2 ^ 31 by omega)]
            have hlt8 := c11.2.2.2
            refine lv_bipush (v := nI 8) hx hb dX3_addContract_76 (by decide) ?_
            refine lv_iload_n hx hb dX3_addContract_78 rfl (lv_at hl 2 rfl) ?_
            refine z_mul F dX3_addContract_79 ?_
            refine lv_aload_n hx hb dX3_addContract_80 rfl (lv_at hl 1 rfl) ?_
            refine z_get (C := RX3) (T := TX3) (N := 21) (ci := 3) (fs := mObj bd M (nI (x3 (zI 4 (nI i)) ((nI 1 ≤ (nI b1) ∧ (nI b1) ≤ nI 15) ∧ (nI 0 ≤ (nI b2) ∧ (nI b2) ≤ nI 1000) ∧ ((nI b2) ≤ (nI b3) ∧ (nI b3) ≤ nI 1000)) (zI 4 (nI i) ∧ M 7 (i) < 8)))) (v := .ref (bd 7)) F hK hP hi3 rfl (0) 7 (by omega) cM_0 (by decide) rfl (by decide +kernel) dX3_addContract_81 ?_
            refine lv_iload_n hx hb dX3_addContract_84 rfl (lv_at hl 2 rfl) ?_
            refine z_iald (v := nI (M 7 i)) (cA := k 0) (len := 4) (g := mA M O 7) F hK hP (7) 0 (by omega) rfl rfl (i := nI i) i rfl hi (by decide) rfl dX3_addContract_85 ?_
            refine z_add F dX3_addContract_86 ?_
            refine lv_istore (lv' := [(6, .int (nI ((8 * i) + (M 7 i)))), (5, .int (bI (zI 4 (nI i)))), (0, .ref (bd 0)), (1, .int (nI i)), (2, .int (nI b1)), (3, .int (nI b2)), (4, .int (nI b3))]) hx hb dX3_addContract_87 hl (by decide) rfl (fun ls hl => ?_)
            refine lv_aload_n hx hb dX3_addContract_89 rfl (lv_at hl 2 rfl) ?_
            refine z_get (C := RX3) (T := TX3) (N := 21) (ci := 3) (fs := mObj bd M (nI (x3 (zI 4 (nI i)) ((nI 1 ≤ (nI b1) ∧ (nI b1) ≤ nI 15) ∧ (nI 0 ≤ (nI b2) ∧ (nI b2) ≤ nI 1000) ∧ ((nI b2) ≤ (nI b3) ∧ (nI b3) ≤ nI 1000)) (zI 4 (nI i) ∧ M 7 (i) < 8)))) (v := .ref (bd 4)) F hK hP hi3 rfl (0) 4 (by omega) cM_0 (by decide) rfl (by decide +kernel) dX3_addContract_90 ?_
            refine lv_iload hx hb dX3_addContract_93 (lv_at hl 0 rfl) ?_
            refine lv_iload_n hx hb dX3_addContract_95 rfl (lv_at hl 4 rfl) ?_
            refine z_iast (f' := (cM k bd (zu M 4 ((8 * i) + (M 7 i)) b1) O (nI (x3 (zI 4 (nI i)) ((nI 1 ≤ (nI b1) ∧ (nI b1) ≤ nI 15) ∧ (nI 0 ≤ (nI b2) ∧ (nI b2) ≤ nI 1000) ∧ ((nI b2) ≤ (nI b3) ∧ (nI b3) ≤ nI 1000)) (zI 4 (nI i) ∧ M 7 (i) < 8))))) (cA := k 0) (len := 32) (g := mA M O 4) F hK hP hD hS (4) 0 (by omega) rfl rfl (i := nI ((8 * i) + (M 7 i))) ((8 * i) + (M 7 i)) rfl (by omega) (by decide) (cM_urow 4 (by decide) (by decide) (by decide) (by decide) (by decide) _ _) dX3_addContract_96 (fun H locs hP hD hS => ?_)
            refine lv_aload_n hx hb dX3_addContract_97 rfl (lv_at hl 2 rfl) ?_
            refine z_get (C := RX3) (T := TX3) (N := 21) (ci := 3) (fs := mObj bd (zu M 4 ((8 * i) + (M 7 i)) b1) (nI (x3 (zI 4 (nI i)) ((nI 1 ≤ (nI b1) ∧ (nI b1) ≤ nI 15) ∧ (nI 0 ≤ (nI b2) ∧ (nI b2) ≤ nI 1000) ∧ ((nI b2) ≤ (nI b3) ∧ (nI b3) ≤ nI 1000)) (zI 4 (nI i) ∧ M 7 (i) < 8)))) (v := .ref (bd 5)) F hK hP hi3 rfl (0) 5 (by omega) cM_0 (by decide) rfl (by decide +kernel) dX3_addContract_98 ?_
            refine lv_iload hx hb dX3_addContract_101 (lv_at hl 0 rfl) ?_
            refine lv_iload_n hx hb dX3_addContract_103 rfl (lv_at hl 5 rfl) ?_
            refine z_iast (f' := (cM k bd (zu (zu M 4 ((8 * i) + (M 7 i)) b1) 5 ((8 * i) + (M 7 i)) b2) O (nI (x3 (zI 4 (nI i)) ((nI 1 ≤ (nI b1) ∧ (nI b1) ≤ nI 15) ∧ (nI 0 ≤ (nI b2) ∧ (nI b2) ≤ nI 1000) ∧ ((nI b2) ≤ (nI b3) ∧ (nI b3) ≤ nI 1000)) (zI 4 (nI i) ∧ M 7 (i) < 8))))) (cA := k 0) (len := 32) (g := mA (zu M 4 ((8 * i) + (M 7 i)) b1) O 5) F hK hP hD hS (5) 0 (by omega) rfl rfl (i := nI ((8 * i) + (M 7 i))) ((8 * i) + (M 7 i)) rfl (by omega) (by decide) (cM_urow 5 (by decide) (by decide) (by decide) (by decide) (by decide) _ _) dX3_addContract_104 (fun H locs hP hD hS => ?_)
            refine lv_aload_n hx hb dX3_addContract_105 rfl (lv_at hl 2 rfl) ?_
            refine z_get (C := RX3) (T := TX3) (N := 21) (ci := 3) (fs := mObj bd (zu (zu M 4 ((8 * i) + (M 7 i)) b1) 5 ((8 * i) + (M 7 i)) b2) (nI (x3 (zI 4 (nI i)) ((nI 1 ≤ (nI b1) ∧ (nI b1) ≤ nI 15) ∧ (nI 0 ≤ (nI b2) ∧ (nI b2) ≤ nI 1000) ∧ ((nI b2) ≤ (nI b3) ∧ (nI b3) ≤ nI 1000)) (zI 4 (nI i) ∧ M 7 (i) < 8)))) (v := .ref (bd 6)) F hK hP hi3 rfl (0) 6 (by omega) cM_0 (by decide) rfl (by decide +kernel) dX3_addContract_106 ?_
            refine lv_iload hx hb dX3_addContract_109 (lv_at hl 0 rfl) ?_
            refine lv_iload hx hb dX3_addContract_111 (lv_at hl 6 rfl) ?_
            refine z_iast (f' := (cM k bd (zu (zu (zu M 4 ((8 * i) + (M 7 i)) b1) 5 ((8 * i) + (M 7 i)) b2) 6 ((8 * i) + (M 7 i)) b3) O (nI (x3 (zI 4 (nI i)) ((nI 1 ≤ (nI b1) ∧ (nI b1) ≤ nI 15) ∧ (nI 0 ≤ (nI b2) ∧ (nI b2) ≤ nI 1000) ∧ ((nI b2) ≤ (nI b3) ∧ (nI b3) ≤ nI 1000)) (zI 4 (nI i) ∧ M 7 (i) < 8))))) (cA := k 0) (len := 32) (g := mA (zu (zu M 4 ((8 * i) + (M 7 i)) b1) 5 ((8 * i) + (M 7 i)) b2) O 6) F hK hP hD hS (6) 0 (by omega) rfl rfl (i := nI ((8 * i) + (M 7 i))) ((8 * i) + (M 7 i)) rfl (by omega) (by decide) (cM_urow 6 (by decide) (by decide) (by decide) (by decide) (by decide) _ _) dX3_addContract_113 (fun H locs hP hD hS => ?_)
            refine lv_aload_n hx hb dX3_addContract_114 rfl (lv_at hl 2 rfl) ?_
            refine z_get (C := RX3) (T := TX3) (N := 21) (ci := 3) (fs := mObj bd (zu (zu (zu M 4 ((8 * i) + (M 7 i)) b1) 5 ((8 * i) + (M 7 i)) b2) 6 ((8 * i) + (M 7 i)) b3) (nI (x3 (zI 4 (nI i)) ((nI 1 ≤ (nI b1) ∧ (nI b1) ≤ nI 15) ∧ (nI 0 ≤ (nI b2) ∧ (nI b2) ≤ nI 1000) ∧ ((nI b2) ≤ (nI b3) ∧ (nI b3) ≤ nI 1000)) (zI 4 (nI i) ∧ M 7 (i) < 8)))) (v := .ref (bd 7)) F hK hP hi3 rfl (0) 7 (by omega) cM_0 (by decide) rfl (by decide +kernel) dX3_addContract_115 ?_
            refine lv_iload_n hx hb dX3_addContract_118 rfl (lv_at hl 3 rfl) ?_
            refine lv_dup2_11 hx hb dX3_addContract_119 rfl rfl ?_
            refine z_iald (v := nI (M 7 i)) (cA := k 0) (len := 4) (g := mA (zu (zu (zu M 4 ((8 * i) + (M 7 i)) b1) 5 ((8 * i) + (M 7 i)) b2) 6 ((8 * i) + (M 7 i)) b3) O 7) F hK hP (7) 0 (by omega) rfl rfl (i := nI i) i rfl hi (by decide) (by first | rfl | (show nI _ = nI _; simp [zu])) dX3_addContract_120 ?_
            refine lv_iconst (v := nI 1) hx hb dX3_addContract_121 (by decide) ?_
            refine z_add F dX3_addContract_122 ?_
            refine z_iast (f' := (cM k bd (zu (zu (zu (zu M 4 ((8 * i) + (M 7 i)) b1) 5 ((8 * i) + (M 7 i)) b2) 6 ((8 * i) + (M 7 i)) b3) 7 i ((M 7 i) + 1)) O (nI (x3 (zI 4 (nI i)) ((nI 1 ≤ (nI b1) ∧ (nI b1) ≤ nI 15) ∧ (nI 0 ≤ (nI b2) ∧ (nI b2) ≤ nI 1000) ∧ ((nI b2) ≤ (nI b3) ∧ (nI b3) ≤ nI 1000)) (zI 4 (nI i) ∧ M 7 (i) < 8))))) (cA := k 0) (len := 4) (g := mA (zu (zu (zu M 4 ((8 * i) + (M 7 i)) b1) 5 ((8 * i) + (M 7 i)) b2) 6 ((8 * i) + (M 7 i)) b3) O 7) F hK hP hD hS (7) 0 (by omega) rfl rfl (i := nI i) i rfl hi (by decide) (cM_urow 7 (by decide) (by decide) (by decide) (by decide) (by decide) _ _) dX3_addContract_123 (fun H locs hP hD hS => ?_)
            refine lv_aload_n hx hb dX3_addContract_124 rfl (lv_at hl 2 rfl) ?_
            refine z_get (C := RX3) (T := TX3) (N := 21) (ci := 3) (fs := mObj bd (zu (zu (zu (zu M 4 ((8 * i) + (M 7 i)) b1) 5 ((8 * i) + (M 7 i)) b2) 6 ((8 * i) + (M 7 i)) b3) 7 i ((M 7 i) + 1)) (nI (x3 (zI 4 (nI i)) ((nI 1 ≤ (nI b1) ∧ (nI b1) ≤ nI 15) ∧ (nI 0 ≤ (nI b2) ∧ (nI b2) ≤ nI 1000) ∧ ((nI b2) ≤ (nI b3) ∧ (nI b3) ≤ nI 1000)) (zI 4 (nI i) ∧ M 7 (i) < 8)))) (v := .ref (bd 7)) F hK hP hi3 rfl (0) 7 (by omega) cM_0 (by decide) rfl (by decide +kernel) dX3_addContract_125 ?_
            refine lv_iload_n hx hb dX3_addContract_128 rfl (lv_at hl 3 rfl) ?_
            refine z_iald (v := nI ((M 7 i) + 1)) (cA := k 0) (len := 4) (g := mA (zu (zu (zu (zu M 4 ((8 * i) + (M 7 i)) b1) 5 ((8 * i) + (M 7 i)) b2) 6 ((8 * i) + (M 7 i)) b3) 7 i ((M 7 i) + 1)) O 7) F hK hP (7) 0 (by omega) rfl rfl (i := nI i) i rfl hi (by decide) (by first | rfl | (show nI _ = nI _; simp [zu])) dX3_addContract_129 ?_
            have hx0 : (x3 (zI 4 (nI i)) ((nI 1 ≤ (nI b1) ∧ (nI b1) ≤ nI 15) ∧ (nI 0 ≤ (nI b2) ∧ (nI b2) ≤ nI 1000) ∧ ((nI b2) ≤ (nI b3) ∧ (nI b3) ≤ nI 1000)) (M 7 (i) < 8)) = 0 := x3_0 c11.1 c11.2.1 c11.2.2.2
            have eW : cM k bd (if (x3 (zI 4 (nI i)) ((nI 1 ≤ (nI b1) ∧ (nI b1) ≤ nI 15) ∧ (nI 0 ≤ (nI b2) ∧ (nI b2) ≤ nI 1000) ∧ ((nI b2) ≤ (nI b3) ∧ (nI b3) ≤ nI 1000)) (M 7 (i) < 8)) = 0 then (kcM M (i) (b1) (b2) (b3)) else M) O (nI ((x3 (zI 4 (nI i)) ((nI 1 ≤ (nI b1) ∧ (nI b1) ≤ nI 15) ∧ (nI 0 ≤ (nI b2) ∧ (nI b2) ≤ nI 1000) ∧ ((nI b2) ≤ (nI b3) ∧ (nI b3) ≤ nI 1000)) (M 7 (i) < 8)))) = cM k bd (zu (zu (zu (zu M 4 ((8 * i) + (M 7 i)) b1) 5 ((8 * i) + (M 7 i)) b2) 6 ((8 * i) + (M 7 i)) b3) 7 i ((M 7 i) + 1)) O (nI (x3 (zI 4 (nI i)) ((nI 1 ≤ (nI b1) ∧ (nI b1) ≤ nI 15) ∧ (nI 0 ≤ (nI b2) ∧ (nI b2) ≤ nI 1000) ∧ ((nI b2) ≤ (nI b3) ∧ (nI b3) ≤ nI 1000)) (zI 4 (nI i) ∧ M 7 (i) < 8))) := by rw [if_pos hx0, ← x3_ac, kcM_y c11.2.2.2] <;> rfl
            rw [← eW] at hP hD
            refine W.widen (k := 0) (n := 0) (Nat.le_of_ble_eq_true rfl) (Nat.le_of_ble_eq_true rfl) ?_
            exact W.iret (v := nI ((M 7 i) + 1)) hx hb hr (fun t ht hW => ⟨⟨nI ((M 7 i) + 1), (), rfl, fun _ => (by rw [kcM_y c11.2.2.2, zu_s]), ⟨by rw [ht]; exact hP, va_K.moved hW.alike hK⟩, hD⟩, hS.F ht⟩) hS.2.2 dX3_addContract_130
          · refine lv_iconst (v := nI 0) hx hb dX3_addContract_74 (by decide) ?_
            have hx0 : (x3 (zI 4 (nI i)) ((nI 1 ≤ p1 ∧ p1 ≤ nI 15) ∧ (nI 0 ≤ p2 ∧ p2 ≤ nI 1000) ∧ (p2 ≤ p3 ∧ p3 ≤ nI 1000)) (M 7 (i) < 8)) ≠ 0 := x3_no (fun zz1 => c11 ⟨zz1.1, zz1.2.1, zz1.1, zz1.2.2⟩)
            have eW : cM k bd (if (x3 (zI 4 (nI i)) ((nI 1 ≤ p1 ∧ p1 ≤ nI 15) ∧ (nI 0 ≤ p2 ∧ p2 ≤ nI 1000) ∧ (p2 ≤ p3 ∧ p3 ≤ nI 1000)) (M 7 (i) < 8)) = 0 then (kcM M (i) (ix p1) (ix p2) (ix p3)) else M) O (nI ((x3 (zI 4 (nI i)) ((nI 1 ≤ p1 ∧ p1 ≤ nI 15) ∧ (nI 0 ≤ p2 ∧ p2 ≤ nI 1000) ∧ (p2 ≤ p3 ∧ p3 ≤ nI 1000)) (M 7 (i) < 8)))) = cM k bd M O (nI (x3 (zI 4 (nI i)) ((nI 1 ≤ p1 ∧ p1 ≤ nI 15) ∧ (nI 0 ≤ p2 ∧ p2 ≤ nI 1000) ∧ (p2 ≤ p3 ∧ p3 ≤ nI 1000)) (zI 4 (nI i) ∧ M 7 (i) < 8))) := by rw [if_neg hx0, ← x3_ac] <;> rfl
            rw [← eW] at hP hD
            refine W.widen (k := 0) (n := 0) (Nat.le_of_ble_eq_true rfl) (Nat.le_of_ble_eq_true rfl) ?_
            exact W.iret (v := nI 0) hx hb hr (fun t ht hW => ⟨⟨nI 0, (), rfl, fun zz1 => absurd zz1 hx0, ⟨by rw [ht]; exact hP, va_K.moved hW.alike hK⟩, hD⟩, hS.F ht⟩) hS.2.2 dX3_addContract_75
        · refine lv_iconst (v := nI 1) hx hb dX3_addContract_63 (by decide) ?_
          refine lv_goto (tgt := 68) hx hb dX3_addContract_64 (by decide) ?_
          refine z_top (show nI 1 = bI (zI 4 (nI i) ∧ M 7 (i) < 8) from (bI_t ⟨c8, c10⟩).symm) ?_
          refine z_mV (qc := (RX3, TX3, 21)) (As := [.int (bI (zI 4 (nI i))), .int (bI ((nI 1 ≤ p1 ∧ p1 ≤ nI 15) ∧ (nI 0 ≤ p2 ∧ p2 ≤ nI 1000) ∧ (p2 ≤ p3 ∧ p3 ≤ nI 1000))), .int (bI (zI 4 (nI i) ∧ M 7 (i) < 8))]) (rest := []) (0) F (c_X3_asked__ l D k bd M O th _ (zI 4 (nI i)) ((nI 1 ≤ p1 ∧ p1 ≤ nI 15) ∧ (nI 0 ≤ p2 ∧ p2 ≤ nI 1000) ∧ (p2 ≤ p3 ∧ p3 ≤ nI 1000)) (zI 4 (nI i) ∧ M 7 (i) < 8)) (cwV 3 hts gX3_addContract_X3_asked__ rfl rfl rfl (by decide +kernel) ⟨Nat.le_of_ble_eq_true rfl, Nat.le_of_ble_eq_true rfl⟩) hK hP hD hS hA (by omega) cM_0 rfl rfl hl.1 rfl (Nat.le_of_ble_eq_true rfl) dX3_addContract_68 ⟨Nat.le_of_ble_eq_true rfl, Nat.le_of_ble_eq_true rfl⟩ (fun r H locs hr0 hP hD hS => ?_)
          subst hr0
          refine z_ifb_ne (tgt := 76) F dX3_addContract_71 (by decide) (fun c12 => ?_) (fun c12 => ?_)
          · obtain ⟨b1, hb10, hb1, rfl⟩ := (zB_iff (by omega) (by decide)).mp (c12.2.1.1)
            try rw [ix_nI (show b1 < 2 ^ 31 by omega)]
            obtain ⟨b2, hb20, hb2, rfl⟩ := (zB_iff (by omega) (by decide)).mp (c12.2.1.2.1)
            try rw [ix_nI (show b2 < 2 ^ 31 by omega)]
            obtain ⟨b3, hb30, hb3, rfl⟩ := (zB_iff (by omega) (by decide)).mp (c12.2.1.2.2)
            try rw [ix_nI (show b3 < 2 ^ 31 by omega)]
            have hlt8 := c12.2.2.2
            refine lv_bipush (v := nI 8) hx hb dX3_addContract_76 (by decide) ?_
            refine lv_iload_n hx hb dX3_addContract_78 rfl (lv_at hl 2 rfl) ?_
            refine z_mul F dX3_addContract_79 ?_
            refine lv_aload_n hx hb dX3_addContract_80 rfl (lv_at hl 1 rfl) ?_
            refine z_get (C := RX3) (T := TX3) (N := 21) (ci := 3) (fs := mObj bd M (nI (x3 (zI 4 (nI i)) ((nI 1 ≤ (nI b1) ∧ (nI b1) ≤ nI 15) ∧ (nI 0 ≤ (nI b2) ∧ (nI b2) ≤ nI 1000) ∧ ((nI b2) ≤ (nI b3) ∧ (nI b3) ≤ nI 1000)) (zI 4 (nI i) ∧ M 7 (i) < 8)))) (v := .ref (bd 7)) F hK hP hi3 rfl (0) 7 (by omega) cM_0 (by decide) rfl (by decide +kernel) dX3_addContract_81 ?_
            refine lv_iload_n hx hb dX3_addContract_84 rfl (lv_at hl 2 rfl) ?_
            refine z_iald (v := nI (M 7 i)) (cA := k 0) (len := 4) (g := mA M O 7) F hK hP (7) 0 (by omega) rfl rfl (i := nI i) i rfl hi (by decide) rfl dX3_addContract_85 ?_
            refine z_add F dX3_addContract_86 ?_
            refine lv_istore (lv' := [(6, .int (nI ((8 * i) + (M 7 i)))), (5, .int (bI (zI 4 (nI i)))), (0, .ref (bd 0)), (1, .int (nI i)), (2, .int (nI b1)), (3, .int (nI b2)), (4, .int (nI b3))]) hx hb dX3_addContract_87 hl (by decide) rfl (fun ls hl => ?_)
            refine lv_aload_n hx hb dX3_addContract_89 rfl (lv_at hl 2 rfl) ?_
            refine z_get (C := RX3) (T := TX3) (N := 21) (ci := 3) (fs := mObj bd M (nI (x3 (zI 4 (nI i)) ((nI 1 ≤ (nI b1) ∧ (nI b1) ≤ nI 15) ∧ (nI 0 ≤ (nI b2) ∧ (nI b2) ≤ nI 1000) ∧ ((nI b2) ≤ (nI b3) ∧ (nI b3) ≤ nI 1000)) (zI 4 (nI i) ∧ M 7 (i) < 8)))) (v := .ref (bd 4)) F hK hP hi3 rfl (0) 4 (by omega) cM_0 (by decide) rfl (by decide +kernel) dX3_addContract_90 ?_
            refine lv_iload hx hb dX3_addContract_93 (lv_at hl 0 rfl) ?_
            refine lv_iload_n hx hb dX3_addContract_95 rfl (lv_at hl 4 rfl) ?_
            refine z_iast (f' := (cM k bd (zu M 4 ((8 * i) + (M 7 i)) b1) O (nI (x3 (zI 4 (nI i)) ((nI 1 ≤ (nI b1) ∧ (nI b1) ≤ nI 15) ∧ (nI 0 ≤ (nI b2) ∧ (nI b2) ≤ nI 1000) ∧ ((nI b2) ≤ (nI b3) ∧ (nI b3) ≤ nI 1000)) (zI 4 (nI i) ∧ M 7 (i) < 8))))) (cA := k 0) (len := 32) (g := mA M O 4) F hK hP hD hS (4) 0 (by omega) rfl rfl (i := nI ((8 * i) + (M 7 i))) ((8 * i) + (M 7 i)) rfl (by omega) (by decide) (cM_urow 4 (by decide) (by decide) (by decide) (by decide) (by decide) _ _) dX3_addContract_96 (fun H locs hP hD hS => ?_)
            refine lv_aload_n hx hb dX3_addContract_97 rfl (lv_at hl 2 rfl) ?_
            refine z_get (C := RX3) (T := TX3) (N := 21) (ci := 3) (fs := mObj bd (zu M 4 ((8 * i) + (M 7 i)) b1) (nI (x3 (zI 4 (nI i)) ((nI 1 ≤ (nI b1) ∧ (nI b1) ≤ nI 15) ∧ (nI 0 ≤ (nI b2) ∧ (nI b2) ≤ nI 1000) ∧ ((nI b2) ≤ (nI b3) ∧ (nI b3) ≤ nI 1000)) (zI 4 (nI i) ∧ M 7 (i) < 8)))) (v := .ref (bd 5)) F hK hP hi3 rfl (0) 5 (by omega) cM_0 (by decide) rfl (by decide +kernel) dX3_addContract_98 ?_
            refine lv_iload hx hb dX3_addContract_101 (lv_at hl 0 rfl) ?_
            refine lv_iload_n hx hb dX3_addContract_103 rfl (lv_at hl 5 rfl) ?_
            refine z_iast (f' := (cM k bd (zu (zu M 4 ((8 * i) + (M 7 i)) b1) 5 ((8 * i) + (M 7 i)) b2) O (nI (x3 (zI 4 (nI i)) ((nI 1 ≤ (nI b1) ∧ (nI b1) ≤ nI 15) ∧ (nI 0 ≤ (nI b2) ∧ (nI b2) ≤ nI 1000) ∧ ((nI b2) ≤ (nI b3) ∧ (nI b3) ≤ nI 1000)) (zI 4 (nI i) ∧ M 7 (i) < 8))))) (cA := k 0) (len := 32) (g := mA (zu M 4 ((8 * i) + (M 7 i)) b1) O 5) F hK hP hD hS (5) 0 (by omega) rfl rfl (i := nI ((8 * i) + (M 7 i))) ((8 * i) + (M 7 i)) rfl (by omega) (by decide) (cM_urow 5 (by decide) (by decide) (by decide) (by decide) (by decide) _ _) dX3_addContract_104 (fun H locs hP hD hS => ?_)
            refine lv_aload_n hx hb dX3_addContract_105 rfl (lv_at hl 2 rfl) ?_
            refine z_get (C := RX3) (T := TX3) (N := 21) (ci := 3) (fs := mObj bd (zu (zu M 4 ((8 * i) + (M 7 i)) b1) 5 ((8 * i) + (M 7 i)) b2) (nI (x3 (zI 4 (nI i)) ((nI 1 ≤ (nI b1) ∧ (nI b1) ≤ nI 15) ∧ (nI 0 ≤ (nI b2) ∧ (nI b2) ≤ nI 1000) ∧ ((nI b2) ≤ (nI b3) ∧ (nI b3) ≤ nI 1000)) (zI 4 (nI i) ∧ M 7 (i) < 8)))) (v := .ref (bd 6)) F hK hP hi3 rfl (0) 6 (by omega) cM_0 (by decide) rfl (by decide +kernel) dX3_addContract_106 ?_
            refine lv_iload hx hb dX3_addContract_109 (lv_at hl 0 rfl) ?_
            refine lv_iload hx hb dX3_addContract_111 (lv_at hl 6 rfl) ?_
            refine z_iast (f' := (cM k bd (zu (zu (zu M 4 ((8 * i) + (M 7 i)) b1) 5 ((8 * i) + (M 7 i)) b2) 6 ((8 * i) + (M 7 i)) b3) O (nI (x3 (zI 4 (nI i)) ((nI 1 ≤ (nI b1) ∧ (nI b1) ≤ nI 15) ∧ (nI 0 ≤ (nI b2) ∧ (nI b2) ≤ nI 1000) ∧ ((nI b2) ≤ (nI b3) ∧ (nI b3) ≤ nI 1000)) (zI 4 (nI i) ∧ M 7 (i) < 8))))) (cA := k 0) (len := 32) (g := mA (zu (zu M 4 ((8 * i) + (M 7 i)) b1) 5 ((8 * i) + (M 7 i)) b2) O 6) F hK hP hD hS (6) 0 (by omega) rfl rfl (i := nI ((8 * i) + (M 7 i))) ((8 * i) + (M 7 i)) rfl (by omega) (by decide) (cM_urow 6 (by decide) (by decide) (by decide) (by decide) (by decide) _ _) dX3_addContract_113 (fun H locs hP hD hS => ?_)
            refine lv_aload_n hx hb dX3_addContract_114 rfl (lv_at hl 2 rfl) ?_
            refine z_get (C := RX3) (T := TX3) (N := 21) (ci := 3) (fs := mObj bd (zu (zu (zu M 4 ((8 * i) + (M 7 i)) b1) 5 ((8 * i) + (M 7 i)) b2) 6 ((8 * i) + (M 7 i)) b3) (nI (x3 (zI 4 (nI i)) ((nI 1 ≤ (nI b1) ∧ (nI b1) ≤ nI 15) ∧ (nI 0 ≤ (nI b2) ∧ (nI b2) ≤ nI 1000) ∧ ((nI b2) ≤ (nI b3) ∧ (nI b3) ≤ nI 1000)) (zI 4 (nI i) ∧ M 7 (i) < 8)))) (v := .ref (bd 7)) F hK hP hi3 rfl (0) 7 (by omega) cM_0 (by decide) rfl (by decide +kernel) dX3_addContract_115 ?_
            refine lv_iload_n hx hb dX3_addContract_118 rfl (lv_at hl 3 rfl) ?_
            refine lv_dup2_11 hx hb dX3_addContract_119 rfl rfl ?_
            refine z_iald (v := nI (M 7 i)) (cA := k 0) (len := 4) (g := mA (zu (zu (zu M 4 ((8 * i) + (M 7 i)) b1) 5 ((8 * i) + (M 7 i)) b2) 6 ((8 * i) + (M 7 i)) b3) O 7) F hK hP (7) 0 (by omega) rfl rfl (i := nI i) i rfl hi (by decide) (by first | rfl | (show nI _ = nI _; simp [zu])) dX3_addContract_120 ?_
            refine lv_iconst (v := nI 1) hx hb dX3_addContract_121 (by decide) ?_
            refine z_add F dX3_addContract_122 ?_
            refine z_iast (f' := (cM k bd (zu (zu (zu (zu M 4 ((8 * i) + (M 7 i)) b1) 5 ((8 * i) + (M 7 i)) b2) 6 ((8 * i) + (M 7 i)) b3) 7 i ((M 7 i) + 1)) O (nI (x3 (zI 4 (nI i)) ((nI 1 ≤ (nI b1) ∧ (nI b1) ≤ nI 15) ∧ (nI 0 ≤ (nI b2) ∧ (nI b2) ≤ nI 1000) ∧ ((nI b2) ≤ (nI b3) ∧ (nI b3) ≤ nI 1000)) (zI 4 (nI i) ∧ M 7 (i) < 8))))) (cA := k 0) (len := 4) (g := mA (zu (zu (zu M 4 ((8 * i) + (M 7 i)) b1) 5 ((8 * i) + (M 7 i)) b2) 6 ((8 * i) + (M 7 i)) b3) O 7) F hK hP hD hS (7) 0 (by omega) rfl rfl (i := nI i) i rfl hi (by decide) (cM_urow 7 (by decide) (by decide) (by decide) (by decide) (by decide) _ _) dX3_addContract_123 (fun H locs hP hD hS => ?_)
            refine lv_aload_n hx hb dX3_addContract_124 rfl (lv_at hl 2 rfl) ?_
            refine z_get (C := RX3) (T := TX3) (N := 21) (ci := 3) (fs := mObj bd (zu (zu (zu (zu M 4 ((8 * i) + (M 7 i)) b1) 5 ((8 * i) + (M 7 i)) b2) 6 ((8 * i) + (M 7 i)) b3) 7 i ((M 7 i) + 1)) (nI (x3 (zI 4 (nI i)) ((nI 1 ≤ (nI b1) ∧ (nI b1) ≤ nI 15) ∧ (nI 0 ≤ (nI b2) ∧ (nI b2) ≤ nI 1000) ∧ ((nI b2) ≤ (nI b3) ∧ (nI b3) ≤ nI 1000)) (zI 4 (nI i) ∧ M 7 (i) < 8)))) (v := .ref (bd 7)) F hK hP hi3 rfl (0) 7 (by omega) cM_0 (by decide) rfl (by decide +kernel) dX3_addContract_125 ?_
            refine lv_iload_n hx hb dX3_addContract_128 rfl (lv_at hl 3 rfl) ?_
            refine z_iald (v := nI ((M 7 i) + 1)) (cA := k 0) (len := 4) (g := mA (zu (zu (zu (zu M 4 ((8 * i) + (M 7 i)) b1) 5 ((8 * i) + (M 7 i)) b2) 6 ((8 * i) + (M 7 i)) b3) 7 i ((M 7 i) + 1)) O 7) F hK hP (7) 0 (by omega) rfl rfl (i := nI i) i rfl hi (by decide) (by first | rfl | (show nI _ = nI _; simp [zu])) dX3_addContract_129 ?_
            have hx0 : (x3 (zI 4 (nI i)) ((nI 1 ≤ (nI b1) ∧ (nI b1) ≤ nI 15) ∧ (nI 0 ≤ (nI b2) ∧ (nI b2) ≤ nI 1000) ∧ ((nI b2) ≤ (nI b3) ∧ (nI b3) ≤ nI 1000)) (M 7 (i) < 8)) = 0 := x3_0 c12.1 c12.2.1 c12.2.2.2
            have eW : cM k bd (if (x3 (zI 4 (nI i)) ((nI 1 ≤ (nI b1) ∧ (nI b1) ≤ nI 15) ∧ (nI 0 ≤ (nI b2) ∧ (nI b2) ≤ nI 1000) ∧ ((nI b2) ≤ (nI b3) ∧ (nI b3) ≤ nI 1000)) (M 7 (i) < 8)) = 0 then (kcM M (i) (b1) (b2) (b3)) else M) O (nI ((x3 (zI 4 (nI i)) ((nI 1 ≤ (nI b1) ∧ (nI b1) ≤ nI 15) ∧ (nI 0 ≤ (nI b2) ∧ (nI b2) ≤ nI 1000) ∧ ((nI b2) ≤ (nI b3) ∧ (nI b3) ≤ nI 1000)) (M 7 (i) < 8)))) = cM k bd (zu (zu (zu (zu M 4 ((8 * i) + (M 7 i)) b1) 5 ((8 * i) + (M 7 i)) b2) 6 ((8 * i) + (M 7 i)) b3) 7 i ((M 7 i) + 1)) O (nI (x3 (zI 4 (nI i)) ((nI 1 ≤ (nI b1) ∧ (nI b1) ≤ nI 15) ∧ (nI 0 ≤ (nI b2) ∧ (nI b2) ≤ nI 1000) ∧ ((nI b2) ≤ (nI b3) ∧ (nI b3) ≤ nI 1000)) (zI 4 (nI i) ∧ M 7 (i) < 8))) := by rw [if_pos hx0, ← x3_ac, kcM_y c12.2.2.2] <;> rfl
            rw [← eW] at hP hD
            refine W.widen (k := 0) (n := 0) (Nat.le_of_ble_eq_true rfl) (Nat.le_of_ble_eq_true rfl) ?_
            exact W.iret (v := nI ((M 7 i) + 1)) hx hb hr (fun t ht hW => ⟨⟨nI ((M 7 i) + 1), (), rfl, fun _ => (by rw [kcM_y c12.2.2.2, zu_s]), ⟨by rw [ht]; exact hP, va_K.moved hW.alike hK⟩, hD⟩, hS.F ht⟩) hS.2.2 dX3_addContract_130
          · refine lv_iconst (v := nI 0) hx hb dX3_addContract_74 (by decide) ?_
            have hx0 : (x3 (zI 4 (nI i)) ((nI 1 ≤ p1 ∧ p1 ≤ nI 15) ∧ (nI 0 ≤ p2 ∧ p2 ≤ nI 1000) ∧ (p2 ≤ p3 ∧ p3 ≤ nI 1000)) (M 7 (i) < 8)) ≠ 0 := x3_no (fun zz1 => c12 ⟨zz1.1, zz1.2.1, zz1.1, zz1.2.2⟩)
            have eW : cM k bd (if (x3 (zI 4 (nI i)) ((nI 1 ≤ p1 ∧ p1 ≤ nI 15) ∧ (nI 0 ≤ p2 ∧ p2 ≤ nI 1000) ∧ (p2 ≤ p3 ∧ p3 ≤ nI 1000)) (M 7 (i) < 8)) = 0 then (kcM M (i) (ix p1) (ix p2) (ix p3)) else M) O (nI ((x3 (zI 4 (nI i)) ((nI 1 ≤ p1 ∧ p1 ≤ nI 15) ∧ (nI 0 ≤ p2 ∧ p2 ≤ nI 1000) ∧ (p2 ≤ p3 ∧ p3 ≤ nI 1000)) (M 7 (i) < 8)))) = cM k bd M O (nI (x3 (zI 4 (nI i)) ((nI 1 ≤ p1 ∧ p1 ≤ nI 15) ∧ (nI 0 ≤ p2 ∧ p2 ≤ nI 1000) ∧ (p2 ≤ p3 ∧ p3 ≤ nI 1000)) (zI 4 (nI i) ∧ M 7 (i) < 8))) := by rw [if_neg hx0, ← x3_ac] <;> rfl
            rw [← eW] at hP hD
            refine W.widen (k := 0) (n := 0) (Nat.le_of_ble_eq_true rfl) (Nat.le_of_ble_eq_true rfl) ?_
            exact W.iret (v := nI 0) hx hb hr (fun t ht hW => ⟨⟨nI 0, (), rfl, fun zz1 => absurd zz1 hx0, ⟨by rw [ht]; exact hP, va_K.moved hW.alike hK⟩, hD⟩, hS.F ht⟩) hS.2.2 dX3_addContract_75
    · refine lv_iload hx hb dX3_addContract_30 (lv_at hl 5 rfl) ?_
      refine lv_iload_n hx hb dX3_addContract_32 rfl (lv_at hl 4 rfl) ?_
      refine lv_sipush (v := nI 1000) hx hb dX3_addContract_33 (by decide) ?_
      refine z_cS (As := [.int p3, .int p2, .int (nI 1000)]) (rest := [.int (bI (zI 4 p0)), .ref (bd 0)]) F (c_X3_in l p3 p2 (nI 1000)) (va_cwS 3 hts gX3_addContract_X3_in rfl rfl rfl (by decide +kernel) ⟨Nat.le_of_ble_eq_true rfl, Nat.le_of_ble_eq_true rfl⟩) rfl hl.1 rfl (Nat.le_of_ble_eq_true rfl) dX3_addContract_36 ⟨Nat.le_of_ble_eq_true rfl, Nat.le_of_ble_eq_true rfl⟩ (fun r hr => ?_)
      subst hr
      refine z_ifb_eq (tgt := 46) F dX3_addContract_39 (by decide) (fun c13 => ?_) (fun c13 => ?_)
      · refine lv_iconst (v := nI 0) hx hb dX3_addContract_46 (by decide) ?_
        refine z_top (show nI 0 = bI ((nI 1 ≤ p1 ∧ p1 ≤ nI 15) ∧ (nI 0 ≤ p2 ∧ p2 ≤ nI 1000) ∧ (p2 ≤ p3 ∧ p3 ≤ nI 1000)) from (bI_f (fun zz1 => by have zz2 := zz1.2.2; first | exact c13 zz2 | omega)).symm) ?_
        refine lv_iload hx hb dX3_addContract_47 (lv_at hl 0 rfl) ?_
        refine z_ifb_eq (tgt := 67) F dX3_addContract_49 (by decide) (fun c14 => ?_) (fun c14 => ?_)
        · refine lv_iconst (v := nI 0) hx hb dX3_addContract_67 (by decide) ?_
          refine z_top (show nI 0 = bI (zI 4 p0 ∧ M 7 (ix p0) < 8) from (bI_f (fun zz1 => by have zz2 := zz1.1; first | exact c14 zz2 | omega)).symm) ?_
          refine z_mV (qc := (RX3, TX3, 21)) (As := [.int (bI (zI 4 p0)), .int (bI ((nI 1 ≤ p1 ∧ p1 ≤ nI 15) ∧ (nI 0 ≤ p2 ∧ p2 ≤ nI 1000) ∧ (p2 ≤ p3 ∧ p3 ≤ nI 1000))), .int (bI (zI 4 p0 ∧ M 7 (ix p0) < 8))]) (rest := []) (0) F (c_X3_asked__ l D k bd M O th _ (zI 4 p0) ((nI 1 ≤ p1 ∧ p1 ≤ nI 15) ∧ (nI 0 ≤ p2 ∧ p2 ≤ nI 1000) ∧ (p2 ≤ p3 ∧ p3 ≤ nI 1000)) (zI 4 p0 ∧ M 7 (ix p0) < 8)) (cwV 3 hts gX3_addContract_X3_asked__ rfl rfl rfl (by decide +kernel) ⟨Nat.le_of_ble_eq_true rfl, Nat.le_of_ble_eq_true rfl⟩) hK hP hD hS hA (by omega) cM_0 rfl rfl hl.1 rfl (Nat.le_of_ble_eq_true rfl) dX3_addContract_68 ⟨Nat.le_of_ble_eq_true rfl, Nat.le_of_ble_eq_true rfl⟩ (fun r H locs hr0 hP hD hS => ?_)
          subst hr0
          refine z_ifb_ne (tgt := 76) F dX3_addContract_71 (by decide) (fun c15 => ?_) (fun c15 => ?_)
          · first | exact absurd c15.1 c1 | exact absurd c15.1 c7 | exact absurd c15.1 c13 | exact absurd c15.1 c14
          · refine lv_iconst (v := nI 0) hx hb dX3_addContract_74 (by decide) ?_
            have hx0 : (x3 (zI 4 p0) ((nI 1 ≤ p1 ∧ p1 ≤ nI 15) ∧ (nI 0 ≤ p2 ∧ p2 ≤ nI 1000) ∧ (p2 ≤ p3 ∧ p3 ≤ nI 1000)) (M 7 (ix p0) < 8)) ≠ 0 := x3_no (fun zz1 => c15 ⟨zz1.1, zz1.2.1, zz1.1, zz1.2.2⟩)
            have eW : cM k bd (if (x3 (zI 4 p0) ((nI 1 ≤ p1 ∧ p1 ≤ nI 15) ∧ (nI 0 ≤ p2 ∧ p2 ≤ nI 1000) ∧ (p2 ≤ p3 ∧ p3 ≤ nI 1000)) (M 7 (ix p0) < 8)) = 0 then (kcM M (ix p0) (ix p1) (ix p2) (ix p3)) else M) O (nI ((x3 (zI 4 p0) ((nI 1 ≤ p1 ∧ p1 ≤ nI 15) ∧ (nI 0 ≤ p2 ∧ p2 ≤ nI 1000) ∧ (p2 ≤ p3 ∧ p3 ≤ nI 1000)) (M 7 (ix p0) < 8)))) = cM k bd M O (nI (x3 (zI 4 p0) ((nI 1 ≤ p1 ∧ p1 ≤ nI 15) ∧ (nI 0 ≤ p2 ∧ p2 ≤ nI 1000) ∧ (p2 ≤ p3 ∧ p3 ≤ nI 1000)) (zI 4 p0 ∧ M 7 (ix p0) < 8))) := by rw [if_neg hx0, ← x3_ac] <;> rfl
            rw [← eW] at hP hD
            refine W.widen (k := 0) (n := 0) (Nat.le_of_ble_eq_true rfl) (Nat.le_of_ble_eq_true rfl) ?_
            exact W.iret (v := nI 0) hx hb hr (fun t ht hW => ⟨⟨nI 0, (), rfl, fun zz1 => absurd zz1 hx0, ⟨by rw [ht]; exact hP, va_K.moved hW.alike hK⟩, hD⟩, hS.F ht⟩) hS.2.2 dX3_addContract_75
        · obtain ⟨i, hi, rfl⟩ := id (c14)
          try rw [ix_nI (show i < 2 ^ 31 by omega)]
          obtain ⟨hs, hco⟩ := hI3 i hi
          obtain ⟨hd1, hd2, hd3, hd4⟩ := id hs
          refine lv_aload_n hx hb dX3_addContract_52 rfl (lv_at hl 1 rfl) ?_
          refine z_get (C := RX3) (T := TX3) (N := 21) (ci := 3) (fs := mObj bd M th) (v := .ref (bd 7)) F hK hP hi3 rfl (0) 7 (by omega) cM_0 (by decide) rfl (by decide +kernel) dX3_addContract_53 ?_
          refine lv_iload_n hx hb dX3_addContract_56 rfl (lv_at hl 2 rfl) ?_
          refine z_iald (v := nI (M 7 i)) (cA := k 0) (len := 4) (g := mA M O 7) F hK hP (7) 0 (by omega) rfl rfl (i := nI i) i rfl hi (by decide) rfl dX3_addContract_57 ?_
          refine lv_bipush (v := nI 8) hx hb dX3_addContract_58 (by decide) ?_
          refine z_icmp_ge (tgt := 67) F (by omega) (by omega) dX3_addContract_60 (by decide) (fun c16 => ?_) (fun c16 => ?_)
          · refine lv_iconst (v := nI 0) hx hb dX3_addContract_67 (by decide) ?_
            refine z_top (show nI 0 = bI (zI 4 (nI i) ∧ M 7 (i) < 8) from (bI_f (fun zz1 => by have zz2 := zz1.2; first | exact c16 zz2 | omega)).symm) ?_
            refine z_mV (qc := (RX3, TX3, 21)) (As := [.int (bI (zI 4 (nI i))), .int (bI ((nI 1 ≤ p1 ∧ p1 ≤ nI 15) ∧ (nI 0 ≤ p2 ∧ p2 ≤ nI 1000) ∧ (p2 ≤ p3 ∧ p3 ≤ nI 1000))), .int (bI (zI 4 (nI i) ∧ M 7 (i) < 8))]) (rest := []) (0) F (c_X3_asked__ l D k bd M O th _ (zI 4 (nI i)) ((nI 1 ≤ p1 ∧ p1 ≤ nI 15) ∧ (nI 0 ≤ p2 ∧ p2 ≤ nI 1000) ∧ (p2 ≤ p3 ∧ p3 ≤ nI 1000)) (zI 4 (nI i) ∧ M 7 (i) < 8)) (cwV 3 hts gX3_addContract_X3_asked__ rfl rfl rfl (by decide +kernel) ⟨Nat.le_of_ble_eq_true rfl, Nat.le_of_ble_eq_true rfl⟩) hK hP hD hS hA (by omega) cM_0 rfl rfl hl.1 rfl (Nat.le_of_ble_eq_true rfl) dX3_addContract_68 ⟨Nat.le_of_ble_eq_true rfl, Nat.le_of_ble_eq_true rfl⟩ (fun r H locs hr0 hP hD hS => ?_)
            subst hr0
            refine z_ifb_ne (tgt := 76) F dX3_addContract_71 (by decide) (fun c17 => ?_) (fun c17 => ?_)
            · obtain ⟨b1, hb10, hb1, rfl⟩ := (zB_iff (by omega) (by decide)).mp (c17.2.1.1)
              try rw [ix_nI (show b1 < 2 ^ 31 by omega)]
              obtain ⟨b2, hb20, hb2, rfl⟩ := (zB_iff (by omega) (by decide)).mp (c17.2.1.2.1)
              try rw [ix_nI (show b2 < 2 ^ 31 by omega)]
              obtain ⟨b3, hb30, hb3, rfl⟩ := (zB_iff (by omega) (by decide)).mp (c17.2.1.2.2)
              try rw [ix_nI (show b3 < 2 ^ 31 by omega)]
              have hlt8 := c17.2.2.2
              refine lv_bipush (v := nI 8) hx hb dX3_addContract_76 (by decide) ?_
              refine lv_iload_n hx hb dX3_addContract_78 rfl (lv_at hl 2 rfl) ?_
              refine z_mul F dX3_addContract_79 ?_
              refine lv_aload_n hx hb dX3_addContract_80 rfl (lv_at hl 1 rfl) ?_
              refine z_get (C := RX3) (T := TX3) (N := 21) (ci := 3) (fs := mObj bd M (nI (x3 (zI 4 (nI i)) ((nI 1 ≤ (nI b1) ∧ (nI b1) ≤ nI 15) ∧ (nI 0 ≤ (nI b2) ∧ (nI b2) ≤ nI 1000) ∧ ((nI b2) ≤ (nI b3) ∧ (nI b3) ≤ nI 1000)) (zI 4 (nI i) ∧ M 7 (i) < 8)))) (v := .ref (bd 7)) F hK hP hi3 rfl (0) 7 (by omega) cM_0 (by decide) rfl (by decide +kernel) dX3_addContract_81 ?_
              refine lv_iload_n hx hb dX3_addContract_84 rfl (lv_at hl 2 rfl) ?_
              refine z_iald (v := nI (M 7 i)) (cA := k 0) (len := 4) (g := mA M O 7) F hK hP (7) 0 (by omega) rfl rfl (i := nI i) i rfl hi (by decide) rfl dX3_addContract_85 ?_
              refine z_add F dX3_addContract_86 ?_
              refine lv_istore (lv' := [(6, .int (nI ((8 * i) + (M 7 i)))), (5, .int (bI (zI 4 (nI i)))), (0, .ref (bd 0)), (1, .int (nI i)), (2, .int (nI b1)), (3, .int (nI b2)), (4, .int (nI b3))]) hx hb dX3_addContract_87 hl (by decide) rfl (fun ls hl => ?_)
              refine lv_aload_n hx hb dX3_addContract_89 rfl (lv_at hl 2 rfl) ?_
              refine z_get (C := RX3) (T := TX3) (N := 21) (ci := 3) (fs := mObj bd M (nI (x3 (zI 4 (nI i)) ((nI 1 ≤ (nI b1) ∧ (nI b1) ≤ nI 15) ∧ (nI 0 ≤ (nI b2) ∧ (nI b2) ≤ nI 1000) ∧ ((nI b2) ≤ (nI b3) ∧ (nI b3) ≤ nI 1000)) (zI 4 (nI i) ∧ M 7 (i) < 8)))) (v := .ref (bd 4)) F hK hP hi3 rfl (0) 4 (by omega) cM_0 (by decide) rfl (by decide +kernel) dX3_addContract_90 ?_
              refine lv_iload hx hb dX3_addContract_93 (lv_at hl 0 rfl) ?_
              refine lv_iload_n hx hb dX3_addContract_95 rfl (lv_at hl 4 rfl) ?_
              refine z_iast (f' := (cM k bd (zu M 4 ((8 * i) + (M 7 i)) b1) O (nI (x3 (zI 4 (nI i)) ((nI 1 ≤ (nI b1) ∧ (nI b1) ≤ nI 15) ∧ (nI 0 ≤ (nI b2) ∧ (nI b2) ≤ nI 1000) ∧ ((nI b2) ≤ (nI b3) ∧ (nI b3) ≤ nI 1000)) (zI 4 (nI i) ∧ M 7 (i) < 8))))) (cA := k 0) (len := 32) (g := mA M O 4) F hK hP hD hS (4) 0 (by omega) rfl rfl (i := nI ((8 * i) + (M 7 i))) ((8 * i) + (M 7 i)) rfl (by omega) (by decide) (cM_urow 4 (by decide) (by decide) (by decide) (by decide) (by decide) _ _) dX3_addContract_96 (fun H locs hP hD hS => ?_)
              refine lv_aload_n hx hb dX3_addContract_97 rfl (lv_at hl 2 rfl) ?_
              refine z_get (C := RX3) (T := TX3) (N := 21) (ci := 3) (fs := mObj bd (zu M 4 ((8 * i) + (M 7 i)) b1) (nI (x3 (zI 4 (nI i)) ((nI 1 ≤ (nI b1) ∧ (nI b1) ≤ nI 15) ∧ (nI 0 ≤ (nI b2) ∧ (nI b2) ≤ nI 1000) ∧ ((nI b2) ≤ (nI b3) ∧ (nI b3) ≤ nI 1000)) (zI 4 (nI i) ∧ M 7 (i) < 8)))) (v := .ref (bd 5)) F hK hP hi3 rfl (0) 5 (by omega) cM_0 (by decide) rfl (by decide +kernel) dX3_addContract_98 ?_
              refine lv_iload hx hb dX3_addContract_101 (lv_at hl 0 rfl) ?_
              refine lv_iload_n hx hb dX3_addContract_103 rfl (lv_at hl 5 rfl) ?_
              refine z_iast (f' := (cM k bd (zu (zu M 4 ((8 * i) + (M 7 i)) b1) 5 ((8 * i) + (M 7 i)) b2) O (nI (x3 (zI 4 (nI i)) ((nI 1 ≤ (nI b1) ∧ (nI b1) ≤ nI 15) ∧ (nI 0 ≤ (nI b2) ∧ (nI b2) ≤ nI 1000) ∧ ((nI b2) ≤ (nI b3) ∧ (nI b3) ≤ nI 1000)) (zI 4 (nI i) ∧ M 7 (i) < 8))))) (cA := k 0) (len := 32) (g := mA (zu M 4 ((8 * i) + (M 7 i)) b1) O 5) F hK hP hD hS (5) 0 (by omega) rfl rfl (i := nI ((8 * i) + (M 7 i))) ((8 * i) + (M 7 i)) rfl (by omega) (by decide) (cM_urow 5 (by decide) (by decide) (by decide) (by decide) (by decide) _ _) dX3_addContract_104 (fun H locs hP hD hS => ?_)
              refine lv_aload_n hx hb dX3_addContract_105 rfl (lv_at hl 2 rfl) ?_
              refine z_get (C := RX3) (T := TX3) (N := 21) (ci := 3) (fs := mObj bd (zu (zu M 4 ((8 * i) + (M 7 i)) b1) 5 ((8 * i) + (M 7 i)) b2) (nI (x3 (zI 4 (nI i)) ((nI 1 ≤ (nI b1) ∧ (nI b1) ≤ nI 15) ∧ (nI 0 ≤ (nI b2) ∧ (nI b2) ≤ nI 1000) ∧ ((nI b2) ≤ (nI b3) ∧ (nI b3) ≤ nI 1000)) (zI 4 (nI i) ∧ M 7 (i) < 8)))) (v := .ref (bd 6)) F hK hP hi3 rfl (0) 6 (by omega) cM_0 (by decide) rfl (by decide +kernel) dX3_addContract_106 ?_
              refine lv_iload hx hb dX3_addContract_109 (lv_at hl 0 rfl) ?_
              refine lv_iload hx hb dX3_addContract_111 (lv_at hl 6 rfl) ?_
              refine z_iast (f' := (cM k bd (zu (zu (zu M 4 ((8 * i) + (M 7 i)) b1) 5 ((8 * i) + (M 7 i)) b2) 6 ((8 * i) + (M 7 i)) b3) O (nI (x3 (zI 4 (nI i)) ((nI 1 ≤ (nI b1) ∧ (nI b1) ≤ nI 15) ∧ (nI 0 ≤ (nI b2) ∧ (nI b2) ≤ nI 1000) ∧ ((nI b2) ≤ (nI b3) ∧ (nI b3) ≤ nI 1000)) (zI 4 (nI i) ∧ M 7 (i) < 8))))) (cA := k 0) (len := 32) (g := mA (zu (zu M 4 ((8 * i) + (M 7 i)) b1) 5 ((8 * i) + (M 7 i)) b2) O 6) F hK hP hD hS (6) 0 (by omega) rfl rfl (i := nI ((8 * i) + (M 7 i))) ((8 * i) + (M 7 i)) rfl (by omega) (by decide) (cM_urow 6 (by decide) (by decide) (by decide) (by decide) (by decide) _ _) dX3_addContract_113 (fun H locs hP hD hS => ?_)
              refine lv_aload_n hx hb dX3_addContract_114 rfl (lv_at hl 2 rfl) ?_
              refine z_get (C := RX3) (T := TX3) (N := 21) (ci := 3) (fs := mObj bd (zu (zu (zu M 4 ((8 * i) + (M 7 i)) b1) 5 ((8 * i) + (M 7 i)) b2) 6 ((8 * i) + (M 7 i)) b3) (nI (x3 (zI 4 (nI i)) ((nI 1 ≤ (nI b1) ∧ (nI b1) ≤ nI 15) ∧ (nI 0 ≤ (nI b2) ∧ (nI b2) ≤ nI 1000) ∧ ((nI b2) ≤ (nI b3) ∧ (nI b3) ≤ nI 1000)) (zI 4 (nI i) ∧ M 7 (i) < 8)))) (v := .ref (bd 7)) F hK hP hi3 rfl (0) 7 (by omega) cM_0 (by decide) rfl (by decide +kernel) dX3_addContract_115 ?_
              refine lv_iload_n hx hb dX3_addContract_118 rfl (lv_at hl 3 rfl) ?_
              refine lv_dup2_11 hx hb dX3_addContract_119 rfl rfl ?_
              refine z_iald (v := nI (M 7 i)) (cA := k 0) (len := 4) (g := mA (zu (zu (zu M 4 ((8 * i) + (M 7 i)) b1) 5 ((8 * i) + (M 7 i)) b2) 6 ((8 * i) + (M 7 i)) b3) O 7) F hK hP (7) 0 (by omega) rfl rfl (i := nI i) i rfl hi (by decide) (by first | rfl | (show nI _ = nI _; simp [zu])) dX3_addContract_120 ?_
              refine lv_iconst (v := nI 1) hx hb dX3_addContract_121 (by decide) ?_
              refine z_add F dX3_addContract_122 ?_
              refine z_iast (f' := (cM k bd (zu (zu (zu (zu M 4 ((8 * i) + (M 7 i)) b1) 5 ((8 * i) + (M 7 i)) b2) 6 ((8 * i) + (M 7 i)) b3) 7 i ((M 7 i) + 1)) O (nI (x3 (zI 4 (nI i)) ((nI 1 ≤ (nI b1) ∧ (nI b1) ≤ nI 15) ∧ (nI 0 ≤ (nI b2) ∧ (nI b2) ≤ nI 1000) ∧ ((nI b2) ≤ (nI b3) ∧ (nI b3) ≤ nI 1000)) (zI 4 (nI i) ∧ M 7 (i) < 8))))) (cA := k 0) (len := 4) (g := mA (zu (zu (zu M 4 ((8 * i) + (M 7 i)) b1) 5 ((8 * i) + (M 7 i)) b2) 6 ((8 * i) + (M 7 i)) b3) O 7) F hK hP hD hS (7) 0 (by omega) rfl rfl (i := nI i) i rfl hi (by decide) (cM_urow 7 (by decide) (by decide) (by decide) (by decide) (by decide) _ _) dX3_addContract_123 (fun H locs hP hD hS => ?_)
              refine lv_aload_n hx hb dX3_addContract_124 rfl (lv_at hl 2 rfl) ?_
              refine z_get (C := RX3) (T := TX3) (N := 21) (ci := 3) (fs := mObj bd (zu (zu (zu (zu M 4 ((8 * i) + (M 7 i)) b1) 5 ((8 * i) + (M 7 i)) b2) 6 ((8 * i) + (M 7 i)) b3) 7 i ((M 7 i) + 1)) (nI (x3 (zI 4 (nI i)) ((nI 1 ≤ (nI b1) ∧ (nI b1) ≤ nI 15) ∧ (nI 0 ≤ (nI b2) ∧ (nI b2) ≤ nI 1000) ∧ ((nI b2) ≤ (nI b3) ∧ (nI b3) ≤ nI 1000)) (zI 4 (nI i) ∧ M 7 (i) < 8)))) (v := .ref (bd 7)) F hK hP hi3 rfl (0) 7 (by omega) cM_0 (by decide) rfl (by decide +kernel) dX3_addContract_125 ?_
              refine lv_iload_n hx hb dX3_addContract_128 rfl (lv_at hl 3 rfl) ?_
              refine z_iald (v := nI ((M 7 i) + 1)) (cA := k 0) (len := 4) (g := mA (zu (zu (zu (zu M 4 ((8 * i) + (M 7 i)) b1) 5 ((8 * i) + (M 7 i)) b2) 6 ((8 * i) + (M 7 i)) b3) 7 i ((M 7 i) + 1)) O 7) F hK hP (7) 0 (by omega) rfl rfl (i := nI i) i rfl hi (by decide) (by first | rfl | (show nI _ = nI _; simp [zu])) dX3_addContract_129 ?_
              have hx0 : (x3 (zI 4 (nI i)) ((nI 1 ≤ (nI b1) ∧ (nI b1) ≤ nI 15) ∧ (nI 0 ≤ (nI b2) ∧ (nI b2) ≤ nI 1000) ∧ ((nI b2) ≤ (nI b3) ∧ (nI b3) ≤ nI 1000)) (M 7 (i) < 8)) = 0 := x3_0 c17.1 c17.2.1 c17.2.2.2
              have eW : cM k bd (if (x3 (zI 4 (nI i)) ((nI 1 ≤ (nI b1) ∧ (nI b1) ≤ nI 15) ∧ (nI 0 ≤ (nI b2) ∧ (nI b2) ≤ nI 1000) ∧ ((nI b2) ≤ (nI b3) ∧ (nI b3) ≤ nI 1000)) (M 7 (i) < 8)) = 0 then (kcM M (i) (b1) (b2) (b3)) else M) O (nI ((x3 (zI 4 (nI i)) ((nI 1 ≤ (nI b1) ∧ (nI b1) ≤ nI 15) ∧ (nI 0 ≤ (nI b2) ∧ (nI b2) ≤ nI 1000) ∧ ((nI b2) ≤ (nI b3) ∧ (nI b3) ≤ nI 1000)) (M 7 (i) < 8)))) = cM k bd (zu (zu (zu (zu M 4 ((8 * i) + (M 7 i)) b1) 5 ((8 * i) + (M 7 i)) b2) 6 ((8 * i) + (M 7 i)) b3) 7 i ((M 7 i) + 1)) O (nI (x3 (zI 4 (nI i)) ((nI 1 ≤ (nI b1) ∧ (nI b1) ≤ nI 15) ∧ (nI 0 ≤ (nI b2) ∧ (nI b2) ≤ nI 1000) ∧ ((nI b2) ≤ (nI b3) ∧ (nI b3) ≤ nI 1000)) (zI 4 (nI i) ∧ M 7 (i) < 8))) := by rw [if_pos hx0, ← x3_ac, kcM_y c17.2.2.2] <;> rfl
              rw [← eW] at hP hD
              refine W.widen (k := 0) (n := 0) (Nat.le_of_ble_eq_true rfl) (Nat.le_of_ble_eq_true rfl) ?_
              exact W.iret (v := nI ((M 7 i) + 1)) hx hb hr (fun t ht hW => ⟨⟨nI ((M 7 i) + 1), (), rfl, fun _ => (by rw [kcM_y c17.2.2.2, zu_s]), ⟨by rw [ht]; exact hP, va_K.moved hW.alike hK⟩, hD⟩, hS.F ht⟩) hS.2.2 dX3_addContract_130
            · refine lv_iconst (v := nI 0) hx hb dX3_addContract_74 (by decide) ?_
              have hx0 : (x3 (zI 4 (nI i)) ((nI 1 ≤ p1 ∧ p1 ≤ nI 15) ∧ (nI 0 ≤ p2 ∧ p2 ≤ nI 1000) ∧ (p2 ≤ p3 ∧ p3 ≤ nI 1000)) (M 7 (i) < 8)) ≠ 0 := x3_no (fun zz1 => c17 ⟨zz1.1, zz1.2.1, zz1.1, zz1.2.2⟩)
              have eW : cM k bd (if (x3 (zI 4 (nI i)) ((nI 1 ≤ p1 ∧ p1 ≤ nI 15) ∧ (nI 0 ≤ p2 ∧ p2 ≤ nI 1000) ∧ (p2 ≤ p3 ∧ p3 ≤ nI 1000)) (M 7 (i) < 8)) = 0 then (kcM M (i) (ix p1) (ix p2) (ix p3)) else M) O (nI ((x3 (zI 4 (nI i)) ((nI 1 ≤ p1 ∧ p1 ≤ nI 15) ∧ (nI 0 ≤ p2 ∧ p2 ≤ nI 1000) ∧ (p2 ≤ p3 ∧ p3 ≤ nI 1000)) (M 7 (i) < 8)))) = cM k bd M O (nI (x3 (zI 4 (nI i)) ((nI 1 ≤ p1 ∧ p1 ≤ nI 15) ∧ (nI 0 ≤ p2 ∧ p2 ≤ nI 1000) ∧ (p2 ≤ p3 ∧ p3 ≤ nI 1000)) (zI 4 (nI i) ∧ M 7 (i) < 8))) := by rw [if_neg hx0, ← x3_ac] <;> rfl
              rw [← eW] at hP hD
              refine W.widen (k := 0) (n := 0) (Nat.le_of_ble_eq_true rfl) (Nat.le_of_ble_eq_true rfl) ?_
              exact W.iret (v := nI 0) hx hb hr (fun t ht hW => ⟨⟨nI 0, (), rfl, fun zz1 => absurd zz1 hx0, ⟨by rw [ht]; exact hP, va_K.moved hW.alike hK⟩, hD⟩, hS.F ht⟩) hS.2.2 dX3_addContract_75
          · refine lv_iconst (v := nI 1) hx hb dX3_addContract_63 (by decide) ?_
            refine lv_goto (tgt := 68) hx hb dX3_addContract_64 (by decide) ?_
            refine z_top (show nI 1 = bI (zI 4 (nI i) ∧ M 7 (i) < 8) from (bI_t ⟨c14, c16⟩).symm) ?_
            refine z_mV (qc := (RX3, TX3, 21)) (As := [.int (bI (zI 4 (nI i))), .int (bI ((nI 1 ≤ p1 ∧ p1 ≤ nI 15) ∧ (nI 0 ≤ p2 ∧ p2 ≤ nI 1000) ∧ (p2 ≤ p3 ∧ p3 ≤ nI 1000))), .int (bI (zI 4 (nI i) ∧ M 7 (i) < 8))]) (rest := []) (0) F (c_X3_asked__ l D k bd M O th _ (zI 4 (nI i)) ((nI 1 ≤ p1 ∧ p1 ≤ nI 15) ∧ (nI 0 ≤ p2 ∧ p2 ≤ nI 1000) ∧ (p2 ≤ p3 ∧ p3 ≤ nI 1000)) (zI 4 (nI i) ∧ M 7 (i) < 8)) (cwV 3 hts gX3_addContract_X3_asked__ rfl rfl rfl (by decide +kernel) ⟨Nat.le_of_ble_eq_true rfl, Nat.le_of_ble_eq_true rfl⟩) hK hP hD hS hA (by omega) cM_0 rfl rfl hl.1 rfl (Nat.le_of_ble_eq_true rfl) dX3_addContract_68 ⟨Nat.le_of_ble_eq_true rfl, Nat.le_of_ble_eq_true rfl⟩ (fun r H locs hr0 hP hD hS => ?_)
            subst hr0
            refine z_ifb_ne (tgt := 76) F dX3_addContract_71 (by decide) (fun c18 => ?_) (fun c18 => ?_)
            · obtain ⟨b1, hb10, hb1, rfl⟩ := (zB_iff (by omega) (by decide)).mp (c18.2.1.1)
              try rw [ix_nI (show b1 < 2 ^ 31 by omega)]
              obtain ⟨b2, hb20, hb2, rfl⟩ := (zB_iff (by omega) (by decide)).mp (c18.2.1.2.1)
              try rw [ix_nI (show b2 < 2 ^ 31 by omega)]
              obtain ⟨b3, hb30, hb3, rfl⟩ := (zB_iff (by omega) (by decide)).mp (c18.2.1.2.2)
              try rw [ix_nI (show b3 < 2 ^ 31 by omega)]
              have hlt8 := c18.2.2.2
              refine lv_bipush (v := nI 8) hx hb dX3_addContract_76 (by decide) ?_
              refine lv_iload_n hx hb dX3_addContract_78 rfl (lv_at hl 2 rfl) ?_
              refine z_mul F dX3_addContract_79 ?_
              refine lv_aload_n hx hb dX3_addContract_80 rfl (lv_at hl 1 rfl) ?_
              refine z_get (C := RX3) (T := TX3) (N := 21) (ci := 3) (fs := mObj bd M (nI (x3 (zI 4 (nI i)) ((nI 1 ≤ (nI b1) ∧ (nI b1) ≤ nI 15) ∧ (nI 0 ≤ (nI b2) ∧ (nI b2) ≤ nI 1000) ∧ ((nI b2) ≤ (nI b3) ∧ (nI b3) ≤ nI 1000)) (zI 4 (nI i) ∧ M 7 (i) < 8)))) (v := .ref (bd 7)) F hK hP hi3 rfl (0) 7 (by omega) cM_0 (by decide) rfl (by decide +kernel) dX3_addContract_81 ?_
              refine lv_iload_n hx hb dX3_addContract_84 rfl (lv_at hl 2 rfl) ?_
              refine z_iald (v := nI (M 7 i)) (cA := k 0) (len := 4) (g := mA M O 7) F hK hP (7) 0 (by omega) rfl rfl (i := nI i) i rfl hi (by decide) rfl dX3_addContract_85 ?_
              refine z_add F dX3_addContract_86 ?_
              refine lv_istore (lv' := [(6, .int (nI ((8 * i) + (M 7 i)))), (5, .int (bI (zI 4 (nI i)))), (0, .ref (bd 0)), (1, .int (nI i)), (2, .int (nI b1)), (3, .int (nI b2)), (4, .int (nI b3))]) hx hb dX3_addContract_87 hl (by decide) rfl (fun ls hl => ?_)
              refine lv_aload_n hx hb dX3_addContract_89 rfl (lv_at hl 2 rfl) ?_
              refine z_get (C := RX3) (T := TX3) (N := 21) (ci := 3) (fs := mObj bd M (nI (x3 (zI 4 (nI i)) ((nI 1 ≤ (nI b1) ∧ (nI b1) ≤ nI 15) ∧ (nI 0 ≤ (nI b2) ∧ (nI b2) ≤ nI 1000) ∧ ((nI b2) ≤ (nI b3) ∧ (nI b3) ≤ nI 1000)) (zI 4 (nI i) ∧ M 7 (i) < 8)))) (v := .ref (bd 4)) F hK hP hi3 rfl (0) 4 (by omega) cM_0 (by decide) rfl (by decide +kernel) dX3_addContract_90 ?_
              refine lv_iload hx hb dX3_addContract_93 (lv_at hl 0 rfl) ?_
              refine lv_iload_n hx hb dX3_addContract_95 rfl (lv_at hl 4 rfl) ?_
              refine z_iast (f' := (cM k bd (zu M 4 ((8 * i) + (M 7 i)) b1) O (nI (x3 (zI 4 (nI i)) ((nI 1 ≤ (nI b1) ∧ (nI b1) ≤ nI 15) ∧ (nI 0 ≤ (nI b2) ∧ (nI b2) ≤ nI 1000) ∧ ((nI b2) ≤ (nI b3) ∧ (nI b3) ≤ nI 1000)) (zI 4 (nI i) ∧ M 7 (i) < 8))))) (cA := k 0) (len := 32) (g := mA M O 4) F hK hP hD hS (4) 0 (by omega) rfl rfl (i := nI ((8 * i) + (M 7 i))) ((8 * i) + (M 7 i)) rfl (by omega) (by decide) (cM_urow 4 (by decide) (by decide) (by decide) (by decide) (by decide) _ _) dX3_addContract_96 (fun H locs hP hD hS => ?_)
              refine lv_aload_n hx hb dX3_addContract_97 rfl (lv_at hl 2 rfl) ?_
              refine z_get (C := RX3) (T := TX3) (N := 21) (ci := 3) (fs := mObj bd (zu M 4 ((8 * i) + (M 7 i)) b1) (nI (x3 (zI 4 (nI i)) ((nI 1 ≤ (nI b1) ∧ (nI b1) ≤ nI 15) ∧ (nI 0 ≤ (nI b2) ∧ (nI b2) ≤ nI 1000) ∧ ((nI b2) ≤ (nI b3) ∧ (nI b3) ≤ nI 1000)) (zI 4 (nI i) ∧ M 7 (i) < 8)))) (v := .ref (bd 5)) F hK hP hi3 rfl (0) 5 (by omega) cM_0 (by decide) rfl (by decide +kernel) dX3_addContract_98 ?_
              refine lv_iload hx hb dX3_addContract_101 (lv_at hl 0 rfl) ?_
              refine lv_iload_n hx hb dX3_addContract_103 rfl (lv_at hl 5 rfl) ?_
              refine z_iast (f' := (cM k bd (zu (zu M 4 ((8 * i) + (M 7 i)) b1) 5 ((8 * i) + (M 7 i)) b2) O (nI (x3 (zI 4 (nI i)) ((nI 1 ≤ (nI b1) ∧ (nI b1) ≤ nI 15) ∧ (nI 0 ≤ (nI b2) ∧ (nI b2) ≤ nI 1000) ∧ ((nI b2) ≤ (nI b3) ∧ (nI b3) ≤ nI 1000)) (zI 4 (nI i) ∧ M 7 (i) < 8))))) (cA := k 0) (len := 32) (g := mA (zu M 4 ((8 * i) + (M 7 i)) b1) O 5) F hK hP hD hS (5) 0 (by omega) rfl rfl (i := nI ((8 * i) + (M 7 i))) ((8 * i) + (M 7 i)) rfl (by omega) (by decide) (cM_urow 5 (by decide) (by decide) (by decide) (by decide) (by decide) _ _) dX3_addContract_104 (fun H locs hP hD hS => ?_)
              refine lv_aload_n hx hb dX3_addContract_105 rfl (lv_at hl 2 rfl) ?_
              refine z_get (C := RX3) (T := TX3) (N := 21) (ci := 3) (fs := mObj bd (zu (zu M 4 ((8 * i) + (M 7 i)) b1) 5 ((8 * i) + (M 7 i)) b2) (nI (x3 (zI 4 (nI i)) ((nI 1 ≤ (nI b1) ∧ (nI b1) ≤ nI 15) ∧ (nI 0 ≤ (nI b2) ∧ (nI b2) ≤ nI 1000) ∧ ((nI b2) ≤ (nI b3) ∧ (nI b3) ≤ nI 1000)) (zI 4 (nI i) ∧ M 7 (i) < 8)))) (v := .ref (bd 6)) F hK hP hi3 rfl (0) 6 (by omega) cM_0 (by decide) rfl (by decide +kernel) dX3_addContract_106 ?_
              refine lv_iload hx hb dX3_addContract_109 (lv_at hl 0 rfl) ?_
              refine lv_iload hx hb dX3_addContract_111 (lv_at hl 6 rfl) ?_
              refine z_iast (f' := (cM k bd (zu (zu (zu M 4 ((8 * i) + (M 7 i)) b1) 5 ((8 * i) + (M 7 i)) b2) 6 ((8 * i) + (M 7 i)) b3) O (nI (x3 (zI 4 (nI i)) ((nI 1 ≤ (nI b1) ∧ (nI b1) ≤ nI 15) ∧ (nI 0 ≤ (nI b2) ∧ (nI b2) ≤ nI 1000) ∧ ((nI b2) ≤ (nI b3) ∧ (nI b3) ≤ nI 1000)) (zI 4 (nI i) ∧ M 7 (i) < 8))))) (cA := k 0) (len := 32) (g := mA (zu (zu M 4 ((8 * i) + (M 7 i)) b1) 5 ((8 * i) + (M 7 i)) b2) O 6) F hK hP hD hS (6) 0 (by omega) rfl rfl (i := nI ((8 * i) + (M 7 i))) ((8 * i) + (M 7 i)) rfl (by omega) (by decide) (cM_urow 6 (by decide) (by decide) (by decide) (by decide) (by decide) _ _) dX3_addContract_113 (fun H locs hP hD hS => ?_)
              refine lv_aload_n hx hb dX3_addContract_114 rfl (lv_at hl 2 rfl) ?_
              refine z_get (C := RX3) (T := TX3) (N := 21) (ci := 3) (fs := mObj bd (zu (zu (zu M 4 ((8 * i) + (M 7 i)) b1) 5 ((8 * i) + (M 7 i)) b2) 6 ((8 * i) + (M 7 i)) b3) (nI (x3 (zI 4 (nI i)) ((nI 1 ≤ (nI b1) ∧ (nI b1) ≤ nI 15) ∧ (nI 0 ≤ (nI b2) ∧ (nI b2) ≤ nI 1000) ∧ ((nI b2) ≤ (nI b3) ∧ (nI b3) ≤ nI 1000)) (zI 4 (nI i) ∧ M 7 (i) < 8)))) (v := .ref (bd 7)) F hK hP hi3 rfl (0) 7 (by omega) cM_0 (by decide) rfl (by decide +kernel) dX3_addContract_115 ?_
              refine lv_iload_n hx hb dX3_addContract_118 rfl (lv_at hl 3 rfl) ?_
              refine lv_dup2_11 hx hb dX3_addContract_119 rfl rfl ?_
              refine z_iald (v := nI (M 7 i)) (cA := k 0) (len := 4) (g := mA (zu (zu (zu M 4 ((8 * i) + (M 7 i)) b1) 5 ((8 * i) + (M 7 i)) b2) 6 ((8 * i) + (M 7 i)) b3) O 7) F hK hP (7) 0 (by omega) rfl rfl (i := nI i) i rfl hi (by decide) (by first | rfl | (show nI _ = nI _; simp [zu])) dX3_addContract_120 ?_
              refine lv_iconst (v := nI 1) hx hb dX3_addContract_121 (by decide) ?_
              refine z_add F dX3_addContract_122 ?_
              refine z_iast (f' := (cM k bd (zu (zu (zu (zu M 4 ((8 * i) + (M 7 i)) b1) 5 ((8 * i) + (M 7 i)) b2) 6 ((8 * i) + (M 7 i)) b3) 7 i ((M 7 i) + 1)) O (nI (x3 (zI 4 (nI i)) ((nI 1 ≤ (nI b1) ∧ (nI b1) ≤ nI 15) ∧ (nI 0 ≤ (nI b2) ∧ (nI b2) ≤ nI 1000) ∧ ((nI b2) ≤ (nI b3) ∧ (nI b3) ≤ nI 1000)) (zI 4 (nI i) ∧ M 7 (i) < 8))))) (cA := k 0) (len := 4) (g := mA (zu (zu (zu M 4 ((8 * i) + (M 7 i)) b1) 5 ((8 * i) + (M 7 i)) b2) 6 ((8 * i) + (M 7 i)) b3) O 7) F hK hP hD hS (7) 0 (by omega) rfl rfl (i := nI i) i rfl hi (by decide) (cM_urow 7 (by decide) (by decide) (by decide) (by decide) (by decide) _ _) dX3_addContract_123 (fun H locs hP hD hS => ?_)
              refine lv_aload_n hx hb dX3_addContract_124 rfl (lv_at hl 2 rfl) ?_
              refine z_get (C := RX3) (T := TX3) (N := 21) (ci := 3) (fs := mObj bd (zu (zu (zu (zu M 4 ((8 * i) + (M 7 i)) b1) 5 ((8 * i) + (M 7 i)) b2) 6 ((8 * i) + (M 7 i)) b3) 7 i ((M 7 i) + 1)) (nI (x3 (zI 4 (nI i)) ((nI 1 ≤ (nI b1) ∧ (nI b1) ≤ nI 15) ∧ (nI 0 ≤ (nI b2) ∧ (nI b2) ≤ nI 1000) ∧ ((nI b2) ≤ (nI b3) ∧ (nI b3) ≤ nI 1000)) (zI 4 (nI i) ∧ M 7 (i) < 8)))) (v := .ref (bd 7)) F hK hP hi3 rfl (0) 7 (by omega) cM_0 (by decide) rfl (by decide +kernel) dX3_addContract_125 ?_
              refine lv_iload_n hx hb dX3_addContract_128 rfl (lv_at hl 3 rfl) ?_
              refine z_iald (v := nI ((M 7 i) + 1)) (cA := k 0) (len := 4) (g := mA (zu (zu (zu (zu M 4 ((8 * i) + (M 7 i)) b1) 5 ((8 * i) + (M 7 i)) b2) 6 ((8 * i) + (M 7 i)) b3) 7 i ((M 7 i) + 1)) O 7) F hK hP (7) 0 (by omega) rfl rfl (i := nI i) i rfl hi (by decide) (by first | rfl | (show nI _ = nI _; simp [zu])) dX3_addContract_129 ?_
              have hx0 : (x3 (zI 4 (nI i)) ((nI 1 ≤ (nI b1) ∧ (nI b1) ≤ nI 15) ∧ (nI 0 ≤ (nI b2) ∧ (nI b2) ≤ nI 1000) ∧ ((nI b2) ≤ (nI b3) ∧ (nI b3) ≤ nI 1000)) (M 7 (i) < 8)) = 0 := x3_0 c18.1 c18.2.1 c18.2.2.2
              have eW : cM k bd (if (x3 (zI 4 (nI i)) ((nI 1 ≤ (nI b1) ∧ (nI b1) ≤ nI 15) ∧ (nI 0 ≤ (nI b2) ∧ (nI b2) ≤ nI 1000) ∧ ((nI b2) ≤ (nI b3) ∧ (nI b3) ≤ nI 1000)) (M 7 (i) < 8)) = 0 then (kcM M (i) (b1) (b2) (b3)) else M) O (nI ((x3 (zI 4 (nI i)) ((nI 1 ≤ (nI b1) ∧ (nI b1) ≤ nI 15) ∧ (nI 0 ≤ (nI b2) ∧ (nI b2) ≤ nI 1000) ∧ ((nI b2) ≤ (nI b3) ∧ (nI b3) ≤ nI 1000)) (M 7 (i) < 8)))) = cM k bd (zu (zu (zu (zu M 4 ((8 * i) + (M 7 i)) b1) 5 ((8 * i) + (M 7 i)) b2) 6 ((8 * i) + (M 7 i)) b3) 7 i ((M 7 i) + 1)) O (nI (x3 (zI 4 (nI i)) ((nI 1 ≤ (nI b1) ∧ (nI b1) ≤ nI 15) ∧ (nI 0 ≤ (nI b2) ∧ (nI b2) ≤ nI 1000) ∧ ((nI b2) ≤ (nI b3) ∧ (nI b3) ≤ nI 1000)) (zI 4 (nI i) ∧ M 7 (i) < 8))) := by rw [if_pos hx0, ← x3_ac, kcM_y c18.2.2.2] <;> rfl
              rw [← eW] at hP hD
              refine W.widen (k := 0) (n := 0) (Nat.le_of_ble_eq_true rfl) (Nat.le_of_ble_eq_true rfl) ?_
              exact W.iret (v := nI ((M 7 i) + 1)) hx hb hr (fun t ht hW => ⟨⟨nI ((M 7 i) + 1), (), rfl, fun _ => (by rw [kcM_y c18.2.2.2, zu_s]), ⟨by rw [ht]; exact hP, va_K.moved hW.alike hK⟩, hD⟩, hS.F ht⟩) hS.2.2 dX3_addContract_130
            · refine lv_iconst (v := nI 0) hx hb dX3_addContract_74 (by decide) ?_
              have hx0 : (x3 (zI 4 (nI i)) ((nI 1 ≤ p1 ∧ p1 ≤ nI 15) ∧ (nI 0 ≤ p2 ∧ p2 ≤ nI 1000) ∧ (p2 ≤ p3 ∧ p3 ≤ nI 1000)) (M 7 (i) < 8)) ≠ 0 := x3_no (fun zz1 => c18 ⟨zz1.1, zz1.2.1, zz1.1, zz1.2.2⟩)
              have eW : cM k bd (if (x3 (zI 4 (nI i)) ((nI 1 ≤ p1 ∧ p1 ≤ nI 15) ∧ (nI 0 ≤ p2 ∧ p2 ≤ nI 1000) ∧ (p2 ≤ p3 ∧ p3 ≤ nI 1000)) (M 7 (i) < 8)) = 0 then (kcM M (i) (ix p1) (ix p2) (ix p3)) else M) O (nI ((x3 (zI 4 (nI i)) ((nI 1 ≤ p1 ∧ p1 ≤ nI 15) ∧ (nI 0 ≤ p2 ∧ p2 ≤ nI 1000) ∧ (p2 ≤ p3 ∧ p3 ≤ nI 1000)) (M 7 (i) < 8)))) = cM k bd M O (nI (x3 (zI 4 (nI i)) ((nI 1 ≤ p1 ∧ p1 ≤ nI 15) ∧ (nI 0 ≤ p2 ∧ p2 ≤ nI 1000) ∧ (p2 ≤ p3 ∧ p3 ≤ nI 1000)) (zI 4 (nI i) ∧ M 7 (i) < 8))) := by rw [if_neg hx0, ← x3_ac] <;> rfl
              rw [← eW] at hP hD
              refine W.widen (k := 0) (n := 0) (Nat.le_of_ble_eq_true rfl) (Nat.le_of_ble_eq_true rfl) ?_
              exact W.iret (v := nI 0) hx hb hr (fun t ht hW => ⟨⟨nI 0, (), rfl, fun zz1 => absurd zz1 hx0, ⟨by rw [ht]; exact hP, va_K.moved hW.alike hK⟩, hD⟩, hS.F ht⟩) hS.2.2 dX3_addContract_75
      · refine lv_iconst (v := nI 1) hx hb dX3_addContract_42 (by decide) ?_
        refine lv_goto (tgt := 47) hx hb dX3_addContract_43 (by decide) ?_
        refine z_top (show nI 1 = bI ((nI 1 ≤ p1 ∧ p1 ≤ nI 15) ∧ (nI 0 ≤ p2 ∧ p2 ≤ nI 1000) ∧ (p2 ≤ p3 ∧ p3 ≤ nI 1000)) from (bI_t ⟨c1, c7, c13⟩).symm) ?_
        refine lv_iload hx hb dX3_addContract_47 (lv_at hl 0 rfl) ?_
        refine z_ifb_eq (tgt := 67) F dX3_addContract_49 (by decide) (fun c19 => ?_) (fun c19 => ?_)
        · refine lv_iconst (v := nI 0) hx hb dX3_addContract_67 (by decide) ?_
          refine z_top (show nI 0 = bI (zI 4 p0 ∧ M 7 (ix p0) < 8) from (bI_f (fun zz1 => by have zz2 := zz1.1; first | exact c19 zz2 | omega)).symm) ?_
          refine z_mV (qc := (RX3, TX3, 21)) (As := [.int (bI (zI 4 p0)), .int (bI ((nI 1 ≤ p1 ∧ p1 ≤ nI 15) ∧ (nI 0 ≤ p2 ∧ p2 ≤ nI 1000) ∧ (p2 ≤ p3 ∧ p3 ≤ nI 1000))), .int (bI (zI 4 p0 ∧ M 7 (ix p0) < 8))]) (rest := []) (0) F (c_X3_asked__ l D k bd M O th _ (zI 4 p0) ((nI 1 ≤ p1 ∧ p1 ≤ nI 15) ∧ (nI 0 ≤ p2 ∧ p2 ≤ nI 1000) ∧ (p2 ≤ p3 ∧ p3 ≤ nI 1000)) (zI 4 p0 ∧ M 7 (ix p0) < 8)) (cwV 3 hts gX3_addContract_X3_asked__ rfl rfl rfl (by decide +kernel) ⟨Nat.le_of_ble_eq_true rfl, Nat.le_of_ble_eq_true rfl⟩) hK hP hD hS hA (by omega) cM_0 rfl rfl hl.1 rfl (Nat.le_of_ble_eq_true rfl) dX3_addContract_68 ⟨Nat.le_of_ble_eq_true rfl, Nat.le_of_ble_eq_true rfl⟩ (fun r H locs hr0 hP hD hS => ?_)
          subst hr0
          refine z_ifb_ne (tgt := 76) F dX3_addContract_71 (by decide) (fun c20 => ?_) (fun c20 => ?_)
          · first | exact absurd c20.1 c1 | exact absurd c20.1 c7 | exact absurd c20.1 c13 | exact absurd c20.1 c19
          · refine lv_iconst (v := nI 0) hx hb dX3_addContract_74 (by decide) ?_
            have hx0 : (x3 (zI 4 p0) ((nI 1 ≤ p1 ∧ p1 ≤ nI 15) ∧ (nI 0 ≤ p2 ∧ p2 ≤ nI 1000) ∧ (p2 ≤ p3 ∧ p3 ≤ nI 1000)) (M 7 (ix p0) < 8)) ≠ 0 := x3_no (fun zz1 => c20 ⟨zz1.1, zz1.2.1, zz1.1, zz1.2.2⟩)
            have eW : cM k bd (if (x3 (zI 4 p0) ((nI 1 ≤ p1 ∧ p1 ≤ nI 15) ∧ (nI 0 ≤ p2 ∧ p2 ≤ nI 1000) ∧ (p2 ≤ p3 ∧ p3 ≤ nI 1000)) (M 7 (ix p0) < 8)) = 0 then (kcM M (ix p0) (ix p1) (ix p2) (ix p3)) else M) O (nI ((x3 (zI 4 p0) ((nI 1 ≤ p1 ∧ p1 ≤ nI 15) ∧ (nI 0 ≤ p2 ∧ p2 ≤ nI 1000) ∧ (p2 ≤ p3 ∧ p3 ≤ nI 1000)) (M 7 (ix p0) < 8)))) = cM k bd M O (nI (x3 (zI 4 p0) ((nI 1 ≤ p1 ∧ p1 ≤ nI 15) ∧ (nI 0 ≤ p2 ∧ p2 ≤ nI 1000) ∧ (p2 ≤ p3 ∧ p3 ≤ nI 1000)) (zI 4 p0 ∧ M 7 (ix p0) < 8))) := by rw [if_neg hx0, ← x3_ac] <;> rfl
            rw [← eW] at hP hD
            refine W.widen (k := 0) (n := 0) (Nat.le_of_ble_eq_true rfl) (Nat.le_of_ble_eq_true rfl) ?_
            exact W.iret (v := nI 0) hx hb hr (fun t ht hW => ⟨⟨nI 0, (), rfl, fun zz1 => absurd zz1 hx0, ⟨by rw [ht]; exact hP, va_K.moved hW.alike hK⟩, hD⟩, hS.F ht⟩) hS.2.2 dX3_addContract_75
        · obtain ⟨i, hi, rfl⟩ := id (c19)
          try rw [ix_nI (show i < 2 ^ 31 by omega)]
          obtain ⟨hs, hco⟩ := hI3 i hi
          obtain ⟨hd1, hd2, hd3, hd4⟩ := id hs
          refine lv_aload_n hx hb dX3_addContract_52 rfl (lv_at hl 1 rfl) ?_
          refine z_get (C := RX3) (T := TX3) (N := 21) (ci := 3) (fs := mObj bd M th) (v := .ref (bd 7)) F hK hP hi3 rfl (0) 7 (by omega) cM_0 (by decide) rfl (by decide +kernel) dX3_addContract_53 ?_
          refine lv_iload_n hx hb dX3_addContract_56 rfl (lv_at hl 2 rfl) ?_
          refine z_iald (v := nI (M 7 i)) (cA := k 0) (len := 4) (g := mA M O 7) F hK hP (7) 0 (by omega) rfl rfl (i := nI i) i rfl hi (by decide) rfl dX3_addContract_57 ?_
          refine lv_bipush (v := nI 8) hx hb dX3_addContract_58 (by decide) ?_
          refine z_icmp_ge (tgt := 67) F (by omega) (by omega) dX3_addContract_60 (by decide) (fun c21 => ?_) (fun c21 => ?_)
          · refine lv_iconst (v := nI 0) hx hb dX3_addContract_67 (by decide) ?_
            refine z_top (show nI 0 = bI (zI 4 (nI i) ∧ M 7 (i) < 8) from (bI_f (fun zz1 => by have zz2 := zz1.2; first | exact c21 zz2 | omega)).symm) ?_
            refine z_mV (qc := (RX3, TX3, 21)) (As := [.int (bI (zI 4 (nI i))), .int (bI ((nI 1 ≤ p1 ∧ p1 ≤ nI 15) ∧ (nI 0 ≤ p2 ∧ p2 ≤ nI 1000) ∧ (p2 ≤ p3 ∧ p3 ≤ nI 1000))), .int (bI (zI 4 (nI i) ∧ M 7 (i) < 8))]) (rest := []) (0) F (c_X3_asked__ l D k bd M O th _ (zI 4 (nI i)) ((nI 1 ≤ p1 ∧ p1 ≤ nI 15) ∧ (nI 0 ≤ p2 ∧ p2 ≤ nI 1000) ∧ (p2 ≤ p3 ∧ p3 ≤ nI 1000)) (zI 4 (nI i) ∧ M 7 (i) < 8)) (cwV 3 hts gX3_addContract_X3_asked__ rfl rfl rfl (by decide +kernel) ⟨Nat.le_of_ble_eq_true rfl, Nat.le_of_ble_eq_true rfl⟩) hK hP hD hS hA (by omega) cM_0 rfl rfl hl.1 rfl (Nat.le_of_ble_eq_true rfl) dX3_addContract_68 ⟨Nat.le_of_ble_eq_true rfl, Nat.le_of_ble_eq_true rfl⟩ (fun r H locs hr0 hP hD hS => ?_)
            subst hr0
            refine z_ifb_ne (tgt := 76) F dX3_addContract_71 (by decide) (fun c22 => ?_) (fun c22 => ?_)
            · obtain ⟨b1, hb10, hb1, rfl⟩ := (zB_iff (by omega) (by decide)).mp (c22.2.1.1)
              try rw [ix_nI (show b1 < 2 ^ 31 by omega)]
              obtain ⟨b2, hb20, hb2, rfl⟩ := (zB_iff (by omega) (by decide)).mp (c22.2.1.2.1)
              try rw [ix_nI (show b2 < 2 ^ 31 by omega)]
              obtain ⟨b3, hb30, hb3, rfl⟩ := (zB_iff (by omega) (by decide)).mp (c22.2.1.2.2)
              try rw [ix_nI (show b3 < 2 ^ 31 by omega)]
              have hlt8 := c22.2.2.2
              refine lv_bipush (v := nI 8) hx hb dX3_addContract_76 (by decide) ?_
              refine lv_iload_n hx hb dX3_addContract_78 rfl (lv_at hl 2 rfl) ?_
              refine z_mul F dX3_addContract_79 ?_
              refine lv_aload_n hx hb dX3_addContract_80 rfl (lv_at hl 1 rfl) ?_
              refine z_get (C := RX3) (T := TX3) (N := 21) (ci := 3) (fs := mObj bd M (nI (x3 (zI 4 (nI i)) ((nI 1 ≤ (nI b1) ∧ (nI b1) ≤ nI 15) ∧ (nI 0 ≤ (nI b2) ∧ (nI b2) ≤ nI 1000) ∧ ((nI b2) ≤ (nI b3) ∧ (nI b3) ≤ nI 1000)) (zI 4 (nI i) ∧ M 7 (i) < 8)))) (v := .ref (bd 7)) F hK hP hi3 rfl (0) 7 (by omega) cM_0 (by decide) rfl (by decide +kernel) dX3_addContract_81 ?_
              refine lv_iload_n hx hb dX3_addContract_84 rfl (lv_at hl 2 rfl) ?_
              refine z_iald (v := nI (M 7 i)) (cA := k 0) (len := 4) (g := mA M O 7) F hK hP (7) 0 (by omega) rfl rfl (i := nI i) i rfl hi (by decide) rfl dX3_addContract_85 ?_
              refine z_add F dX3_addContract_86 ?_
              refine lv_istore (lv' := [(6, .int (nI ((8 * i) + (M 7 i)))), (5, .int (bI (zI 4 (nI i)))), (0, .ref (bd 0)), (1, .int (nI i)), (2, .int (nI b1)), (3, .int (nI b2)), (4, .int (nI b3))]) hx hb dX3_addContract_87 hl (by decide) rfl (fun ls hl => ?_)
              refine lv_aload_n hx hb dX3_addContract_89 rfl (lv_at hl 2 rfl) ?_
              refine z_get (C := RX3) (T := TX3) (N := 21) (ci := 3) (fs := mObj bd M (nI (x3 (zI 4 (nI i)) ((nI 1 ≤ (nI b1) ∧ (nI b1) ≤ nI 15) ∧ (nI 0 ≤ (nI b2) ∧ (nI b2) ≤ nI 1000) ∧ ((nI b2) ≤ (nI b3) ∧ (nI b3) ≤ nI 1000)) (zI 4 (nI i) ∧ M 7 (i) < 8)))) (v := .ref (bd 4)) F hK hP hi3 rfl (0) 4 (by omega) cM_0 (by decide) rfl (by decide +kernel) dX3_addContract_90 ?_
              refine lv_iload hx hb dX3_addContract_93 (lv_at hl 0 rfl) ?_
              refine lv_iload_n hx hb dX3_addContract_95 rfl (lv_at hl 4 rfl) ?_
              refine z_iast (f' := (cM k bd (zu M 4 ((8 * i) + (M 7 i)) b1) O (nI (x3 (zI 4 (nI i)) ((nI 1 ≤ (nI b1) ∧ (nI b1) ≤ nI 15) ∧ (nI 0 ≤ (nI b2) ∧ (nI b2) ≤ nI 1000) ∧ ((nI b2) ≤ (nI b3) ∧ (nI b3) ≤ nI 1000)) (zI 4 (nI i) ∧ M 7 (i) < 8))))) (cA := k 0) (len := 32) (g := mA M O 4) F hK hP hD hS (4) 0 (by omega) rfl rfl (i := nI ((8 * i) + (M 7 i))) ((8 * i) + (M 7 i)) rfl (by omega) (by decide) (cM_urow 4 (by decide) (by decide) (by decide) (by decide) (by decide) _ _) dX3_addContract_96 (fun H locs hP hD hS => ?_)
              refine lv_aload_n hx hb dX3_addContract_97 rfl (lv_at hl 2 rfl) ?_
              refine z_get (C := RX3) (T := TX3) (N := 21) (ci := 3) (fs := mObj bd (zu M 4 ((8 * i) + (M 7 i)) b1) (nI (x3 (zI 4 (nI i)) ((nI 1 ≤ (nI b1) ∧ (nI b1) ≤ nI 15) ∧ (nI 0 ≤ (nI b2) ∧ (nI b2) ≤ nI 1000) ∧ ((nI b2) ≤ (nI b3) ∧ (nI b3) ≤ nI 1000)) (zI 4 (nI i) ∧ M 7 (i) < 8)))) (v := .ref (bd 5)) F hK hP hi3 rfl (0) 5 (by omega) cM_0 (by decide) rfl (by decide +kernel) dX3_addContract_98 ?_
              refine lv_iload hx hb dX3_addContract_101 (lv_at hl 0 rfl) ?_
              refine lv_iload_n hx hb dX3_addContract_103 rfl (lv_at hl 5 rfl) ?_
              refine z_iast (f' := (cM k bd (zu (zu M 4 ((8 * i) + (M 7 i)) b1) 5 ((8 * i) + (M 7 i)) b2) O (nI (x3 (zI 4 (nI i)) ((nI 1 ≤ (nI b1) ∧ (nI b1) ≤ nI 15) ∧ (nI 0 ≤ (nI b2) ∧ (nI b2) ≤ nI 1000) ∧ ((nI b2) ≤ (nI b3) ∧ (nI b3) ≤ nI 1000)) (zI 4 (nI i) ∧ M 7 (i) < 8))))) (cA := k 0) (len := 32) (g := mA (zu M 4 ((8 * i) + (M 7 i)) b1) O 5) F hK hP hD hS (5) 0 (by omega) rfl rfl (i := nI ((8 * i) + (M 7 i))) ((8 * i) + (M 7 i)) rfl (by omega) (by decide) (cM_urow 5 (by decide) (by decide) (by decide) (by decide) (by decide) _ _) dX3_addContract_104 (fun H locs hP hD hS => ?_)
              refine lv_aload_n hx hb dX3_addContract_105 rfl (lv_at hl 2 rfl) ?_
              refine z_get (C := RX3) (T := TX3) (N := 21) (ci := 3) (fs := mObj bd (zu (zu M 4 ((8 * i) + (M 7 i)) b1) 5 ((8 * i) + (M 7 i)) b2) (nI (x3 (zI 4 (nI i)) ((nI 1 ≤ (nI b1) ∧ (nI b1) ≤ nI 15) ∧ (nI 0 ≤ (nI b2) ∧ (nI b2) ≤ nI 1000) ∧ ((nI b2) ≤ (nI b3) ∧ (nI b3) ≤ nI 1000)) (zI 4 (nI i) ∧ M 7 (i) < 8)))) (v := .ref (bd 6)) F hK hP hi3 rfl (0) 6 (by omega) cM_0 (by decide) rfl (by decide +kernel) dX3_addContract_106 ?_
              refine lv_iload hx hb dX3_addContract_109 (lv_at hl 0 rfl) ?_
              refine lv_iload hx hb dX3_addContract_111 (lv_at hl 6 rfl) ?_
              refine z_iast (f' := (cM k bd (zu (zu (zu M 4 ((8 * i) + (M 7 i)) b1) 5 ((8 * i) + (M 7 i)) b2) 6 ((8 * i) + (M 7 i)) b3) O (nI (x3 (zI 4 (nI i)) ((nI 1 ≤ (nI b1) ∧ (nI b1) ≤ nI 15) ∧ (nI 0 ≤ (nI b2) ∧ (nI b2) ≤ nI 1000) ∧ ((nI b2) ≤ (nI b3) ∧ (nI b3) ≤ nI 1000)) (zI 4 (nI i) ∧ M 7 (i) < 8))))) (cA := k 0) (len := 32) (g := mA (zu (zu M 4 ((8 * i) + (M 7 i)) b1) 5 ((8 * i) + (M 7 i)) b2) O 6) F hK hP hD hS (6) 0 (by omega) rfl rfl (i := nI ((8 * i) + (M 7 i))) ((8 * i) + (M 7 i)) rfl (by omega) (by decide) (cM_urow 6 (by decide) (by decide) (by decide) (by decide) (by decide) _ _) dX3_addContract_113 (fun H locs hP hD hS => ?_)
              refine lv_aload_n hx hb dX3_addContract_114 rfl (lv_at hl 2 rfl) ?_
              refine z_get (C := RX3) (T := TX3) (N := 21) (ci := 3) (fs := mObj bd (zu (zu (zu M 4 ((8 * i) + (M 7 i)) b1) 5 ((8 * i) + (M 7 i)) b2) 6 ((8 * i) + (M 7 i)) b3) (nI (x3 (zI 4 (nI i)) ((nI 1 ≤ (nI b1) ∧ (nI b1) ≤ nI 15) ∧ (nI 0 ≤ (nI b2) ∧ (nI b2) ≤ nI 1000) ∧ ((nI b2) ≤ (nI b3) ∧ (nI b3) ≤ nI 1000)) (zI 4 (nI i) ∧ M 7 (i) < 8)))) (v := .ref (bd 7)) F hK hP hi3 rfl (0) 7 (by omega) cM_0 (by decide) rfl (by decide +kernel) dX3_addContract_115 ?_
              refine lv_iload_n hx hb dX3_addContract_118 rfl (lv_at hl 3 rfl) ?_
              refine lv_dup2_11 hx hb dX3_addContract_119 rfl rfl ?_
              refine z_iald (v := nI (M 7 i)) (cA := k 0) (len := 4) (g := mA (zu (zu (zu M 4 ((8 * i) + (M 7 i)) b1) 5 ((8 * i) + (M 7 i)) b2) 6 ((8 * i) + (M 7 i)) b3) O 7) F hK hP (7) 0 (by omega) rfl rfl (i := nI i) i rfl hi (by decide) (by first | rfl | (show nI _ = nI _; simp [zu])) dX3_addContract_120 ?_
              refine lv_iconst (v := nI 1) hx hb dX3_addContract_121 (by decide) ?_
              refine z_add F dX3_addContract_122 ?_
              refine z_iast (f' := (cM k bd (zu (zu (zu (zu M 4 ((8 * i) + (M 7 i)) b1) 5 ((8 * i) + (M 7 i)) b2) 6 ((8 * i) + (M 7 i)) b3) 7 i ((M 7 i) + 1)) O (nI (x3 (zI 4 (nI i)) ((nI 1 ≤ (nI b1) ∧ (nI b1) ≤ nI 15) ∧ (nI 0 ≤ (nI b2) ∧ (nI b2) ≤ nI 1000) ∧ ((nI b2) ≤ (nI b3) ∧ (nI b3) ≤ nI 1000)) (zI 4 (nI i) ∧ M 7 (i) < 8))))) (cA := k 0) (len := 4) (g := mA (zu (zu (zu M 4 ((8 * i) + (M 7 i)) b1) 5 ((8 * i) + (M 7 i)) b2) 6 ((8 * i) + (M 7 i)) b3) O 7) F hK hP hD hS (7) 0 (by omega) rfl rfl (i := nI i) i rfl hi (by decide) (cM_urow 7 (by decide) (by decide) (by decide) (by decide) (by decide) _ _) dX3_addContract_123 (fun H locs hP hD hS => ?_)
              refine lv_aload_n hx hb dX3_addContract_124 rfl (lv_at hl 2 rfl) ?_
              refine z_get (C := RX3) (T := TX3) (N := 21) (ci := 3) (fs := mObj bd (zu (zu (zu (zu M 4 ((8 * i) + (M 7 i)) b1) 5 ((8 * i) + (M 7 i)) b2) 6 ((8 * i) + (M 7 i)) b3) 7 i ((M 7 i) + 1)) (nI (x3 (zI 4 (nI i)) ((nI 1 ≤ (nI b1) ∧ (nI b1) ≤ nI 15) ∧ (nI 0 ≤ (nI b2) ∧ (nI b2) ≤ nI 1000) ∧ ((nI b2) ≤ (nI b3) ∧ (nI b3) ≤ nI 1000)) (zI 4 (nI i) ∧ M 7 (i) < 8)))) (v := .ref (bd 7)) F hK hP hi3 rfl (0) 7 (by omega) cM_0 (by decide) rfl (by decide +kernel) dX3_addContract_125 ?_
              refine lv_iload_n hx hb dX3_addContract_128 rfl (lv_at hl 3 rfl) ?_
              refine z_iald (v := nI ((M 7 i) + 1)) (cA := k 0) (len := 4) (g := mA (zu (zu (zu (zu M 4 ((8 * i) + (M 7 i)) b1) 5 ((8 * i) + (M 7 i)) b2) 6 ((8 * i) + (M 7 i)) b3) 7 i ((M 7 i) + 1)) O 7) F hK hP (7) 0 (by omega) rfl rfl (i := nI i) i rfl hi (by decide) (by first | rfl | (show nI _ = nI _; simp [zu])) dX3_addContract_129 ?_
              have hx0 : (x3 (zI 4 (nI i)) ((nI 1 ≤ (nI b1) ∧ (nI b1) ≤ nI 15) ∧ (nI 0 ≤ (nI b2) ∧ (nI b2) ≤ nI 1000) ∧ ((nI b2) ≤ (nI b3) ∧ (nI b3) ≤ nI 1000)) (M 7 (i) < 8)) = 0 := x3_0 c22.1 c22.2.1 c22.2.2.2
              have eW : cM k bd (if (x3 (zI 4 (nI i)) ((nI 1 ≤ (nI b1) ∧ (nI b1) ≤ nI 15) ∧ (nI 0 ≤ (nI b2) ∧ (nI b2) ≤ nI 1000) ∧ ((nI b2) ≤ (nI b3) ∧ (nI b3) ≤ nI 1000)) (M 7 (i) < 8)) = 0 then (kcM M (i) (b1) (b2) (b3)) else M) O (nI ((x3 (zI 4 (nI i)) ((nI 1 ≤ (nI b1) ∧ (nI b1) ≤ nI 15) ∧ (nI 0 ≤ (nI b2) ∧ (nI b2) ≤ nI 1000) ∧ ((nI b2) ≤ (nI b3) ∧ (nI b3) ≤ nI 1000)) (M 7 (i) < 8)))) = cM k bd (zu (zu (zu (zu M 4 ((8 * i) + (M 7 i)) b1) 5 ((8 * i) + (M 7 i)) b2) 6 ((8 * i) + (M 7 i)) b3) 7 i ((M 7 i) + 1)) O (nI (x3 (zI 4 (nI i)) ((nI 1 ≤ (nI b1) ∧ (nI b1) ≤ nI 15) ∧ (nI 0 ≤ (nI b2) ∧ (nI b2) ≤ nI 1000) ∧ ((nI b2) ≤ (nI b3) ∧ (nI b3) ≤ nI 1000)) (zI 4 (nI i) ∧ M 7 (i) < 8))) := by rw [if_pos hx0, ← x3_ac, kcM_y c22.2.2.2] <;> rfl
              rw [← eW] at hP hD
              refine W.widen (k := 0) (n := 0) (Nat.le_of_ble_eq_true rfl) (Nat.le_of_ble_eq_true rfl) ?_
              exact W.iret (v := nI ((M 7 i) + 1)) hx hb hr (fun t ht hW => ⟨⟨nI ((M 7 i) + 1), (), rfl, fun _ => (by rw [kcM_y c22.2.2.2, zu_s]), ⟨by rw [ht]; exact hP, va_K.moved hW.alike hK⟩, hD⟩, hS.F ht⟩) hS.2.2 dX3_addContract_130
            · refine lv_iconst (v := nI 0) hx hb dX3_addContract_74 (by decide) ?_
              have hx0 : (x3 (zI 4 (nI i)) ((nI 1 ≤ p1 ∧ p1 ≤ nI 15) ∧ (nI 0 ≤ p2 ∧ p2 ≤ nI 1000) ∧ (p2 ≤ p3 ∧ p3 ≤ nI 1000)) (M 7 (i) < 8)) ≠ 0 := x3_no (fun zz1 => c22 ⟨zz1.1, zz1.2.1, zz1.1, zz1.2.2⟩)
              have eW : cM k bd (if (x3 (zI 4 (nI i)) ((nI 1 ≤ p1 ∧ p1 ≤ nI 15) ∧ (nI 0 ≤ p2 ∧ p2 ≤ nI 1000) ∧ (p2 ≤ p3 ∧ p3 ≤ nI 1000)) (M 7 (i) < 8)) = 0 then (kcM M (i) (ix p1) (ix p2) (ix p3)) else M) O (nI ((x3 (zI 4 (nI i)) ((nI 1 ≤ p1 ∧ p1 ≤ nI 15) ∧ (nI 0 ≤ p2 ∧ p2 ≤ nI 1000) ∧ (p2 ≤ p3 ∧ p3 ≤ nI 1000)) (M 7 (i) < 8)))) = cM k bd M O (nI (x3 (zI 4 (nI i)) ((nI 1 ≤ p1 ∧ p1 ≤ nI 15) ∧ (nI 0 ≤ p2 ∧ p2 ≤ nI 1000) ∧ (p2 ≤ p3 ∧ p3 ≤ nI 1000)) (zI 4 (nI i) ∧ M 7 (i) < 8))) := by rw [if_neg hx0, ← x3_ac] <;> rfl
              rw [← eW] at hP hD
              refine W.widen (k := 0) (n := 0) (Nat.le_of_ble_eq_true rfl) (Nat.le_of_ble_eq_true rfl) ?_
              exact W.iret (v := nI 0) hx hb hr (fun t ht hW => ⟨⟨nI 0, (), rfl, fun zz1 => absurd zz1 hx0, ⟨by rw [ht]; exact hP, va_K.moved hW.alike hK⟩, hD⟩, hS.F ht⟩) hS.2.2 dX3_addContract_75
          · refine lv_iconst (v := nI 1) hx hb dX3_addContract_63 (by decide) ?_
            refine lv_goto (tgt := 68) hx hb dX3_addContract_64 (by decide) ?_
            refine z_top (show nI 1 = bI (zI 4 (nI i) ∧ M 7 (i) < 8) from (bI_t ⟨c19, c21⟩).symm) ?_
            refine z_mV (qc := (RX3, TX3, 21)) (As := [.int (bI (zI 4 (nI i))), .int (bI ((nI 1 ≤ p1 ∧ p1 ≤ nI 15) ∧ (nI 0 ≤ p2 ∧ p2 ≤ nI 1000) ∧ (p2 ≤ p3 ∧ p3 ≤ nI 1000))), .int (bI (zI 4 (nI i) ∧ M 7 (i) < 8))]) (rest := []) (0) F (c_X3_asked__ l D k bd M O th _ (zI 4 (nI i)) ((nI 1 ≤ p1 ∧ p1 ≤ nI 15) ∧ (nI 0 ≤ p2 ∧ p2 ≤ nI 1000) ∧ (p2 ≤ p3 ∧ p3 ≤ nI 1000)) (zI 4 (nI i) ∧ M 7 (i) < 8)) (cwV 3 hts gX3_addContract_X3_asked__ rfl rfl rfl (by decide +kernel) ⟨Nat.le_of_ble_eq_true rfl, Nat.le_of_ble_eq_true rfl⟩) hK hP hD hS hA (by omega) cM_0 rfl rfl hl.1 rfl (Nat.le_of_ble_eq_true rfl) dX3_addContract_68 ⟨Nat.le_of_ble_eq_true rfl, Nat.le_of_ble_eq_true rfl⟩ (fun r H locs hr0 hP hD hS => ?_)
            subst hr0
            refine z_ifb_ne (tgt := 76) F dX3_addContract_71 (by decide) (fun c23 => ?_) (fun c23 => ?_)
            · obtain ⟨b1, hb10, hb1, rfl⟩ := (zB_iff (by omega) (by decide)).mp (c23.2.1.1)
              try rw [ix_nI (show b1 < 2 ^ 31 by omega)]
              obtain ⟨b2, hb20, hb2, rfl⟩ := (zB_iff (by omega) (by decide)).mp (c23.2.1.2.1)
              try rw [ix_nI (show b2 < 2 ^ 31 by omega)]
              obtain ⟨b3, hb30, hb3, rfl⟩ := (zB_iff (by omega) (by decide)).mp (c23.2.1.2.2)
              try rw [ix_nI (show b3 < 2 ^ 31 by omega)]
              have hlt8 := c23.2.2.2
              refine lv_bipush (v := nI 8) hx hb dX3_addContract_76 (by decide) ?_
              refine lv_iload_n hx hb dX3_addContract_78 rfl (lv_at hl 2 rfl) ?_
              refine z_mul F dX3_addContract_79 ?_
              refine lv_aload_n hx hb dX3_addContract_80 rfl (lv_at hl 1 rfl) ?_
              refine z_get (C := RX3) (T := TX3) (N := 21) (ci := 3) (fs := mObj bd M (nI (x3 (zI 4 (nI i)) ((nI 1 ≤ (nI b1) ∧ (nI b1) ≤ nI 15) ∧ (nI 0 ≤ (nI b2) ∧ (nI b2) ≤ nI 1000) ∧ ((nI b2) ≤ (nI b3) ∧ (nI b3) ≤ nI 1000)) (zI 4 (nI i) ∧ M 7 (i) < 8)))) (v := .ref (bd 7)) F hK hP hi3 rfl (0) 7 (by omega) cM_0 (by decide) rfl (by decide +kernel) dX3_addContract_81 ?_
              refine lv_iload_n hx hb dX3_addContract_84 rfl (lv_at hl 2 rfl) ?_
              refine z_iald (v := nI (M 7 i)) (cA := k 0) (len := 4) (g := mA M O 7) F hK hP (7) 0 (by omega) rfl rfl (i := nI i) i rfl hi (by decide) rfl dX3_addContract_85 ?_
              refine z_add F dX3_addContract_86 ?_
              refine lv_istore (lv' := [(6, .int (nI ((8 * i) + (M 7 i)))), (5, .int (bI (zI 4 (nI i)))), (0, .ref (bd 0)), (1, .int (nI i)), (2, .int (nI b1)), (3, .int (nI b2)), (4, .int (nI b3))]) hx hb dX3_addContract_87 hl (by decide) rfl (fun ls hl => ?_)
              refine lv_aload_n hx hb dX3_addContract_89 rfl (lv_at hl 2 rfl) ?_
              refine z_get (C := RX3) (T := TX3) (N := 21) (ci := 3) (fs := mObj bd M (nI (x3 (zI 4 (nI i)) ((nI 1 ≤ (nI b1) ∧ (nI b1) ≤ nI 15) ∧ (nI 0 ≤ (nI b2) ∧ (nI b2) ≤ nI 1000) ∧ ((nI b2) ≤ (nI b3) ∧ (nI b3) ≤ nI 1000)) (zI 4 (nI i) ∧ M 7 (i) < 8)))) (v := .ref (bd 4)) F hK hP hi3 rfl (0) 4 (by omega) cM_0 (by decide) rfl (by decide +kernel) dX3_addContract_90 ?_
              refine lv_iload hx hb dX3_addContract_93 (lv_at hl 0 rfl) ?_
              refine lv_iload_n hx hb dX3_addContract_95 rfl (lv_at hl 4 rfl) ?_
              refine z_iast (f' := (cM k bd (zu M 4 ((8 * i) + (M 7 i)) b1) O (nI (x3 (zI 4 (nI i)) ((nI 1 ≤ (nI b1) ∧ (nI b1) ≤ nI 15) ∧ (nI 0 ≤ (nI b2) ∧ (nI b2) ≤ nI 1000) ∧ ((nI b2) ≤ (nI b3) ∧ (nI b3) ≤ nI 1000)) (zI 4 (nI i) ∧ M 7 (i) < 8))))) (cA := k 0) (len := 32) (g := mA M O 4) F hK hP hD hS (4) 0 (by omega) rfl rfl (i := nI ((8 * i) + (M 7 i))) ((8 * i) + (M 7 i)) rfl (by omega) (by decide) (cM_urow 4 (by decide) (by decide) (by decide) (by decide) (by decide) _ _) dX3_addContract_96 (fun H locs hP hD hS => ?_)
              refine lv_aload_n hx hb dX3_addContract_97 rfl (lv_at hl 2 rfl) ?_
              refine z_get (C := RX3) (T := TX3) (N := 21) (ci := 3) (fs := mObj bd (zu M 4 ((8 * i) + (M 7 i)) b1) (nI (x3 (zI 4 (nI i)) ((nI 1 ≤ (nI b1) ∧ (nI b1) ≤ nI 15) ∧ (nI 0 ≤ (nI b2) ∧ (nI b2) ≤ nI 1000) ∧ ((nI b2) ≤ (nI b3) ∧ (nI b3) ≤ nI 1000)) (zI 4 (nI i) ∧ M 7 (i) < 8)))) (v := .ref (bd 5)) F hK hP hi3 rfl (0) 5 (by omega) cM_0 (by decide) rfl (by decide +kernel) dX3_addContract_98 ?_
              refine lv_iload hx hb dX3_addContract_101 (lv_at hl 0 rfl) ?_
              refine lv_iload_n hx hb dX3_addContract_103 rfl (lv_at hl 5 rfl) ?_
              refine z_iast (f' := (cM k bd (zu (zu M 4 ((8 * i) + (M 7 i)) b1) 5 ((8 * i) + (M 7 i)) b2) O (nI (x3 (zI 4 (nI i)) ((nI 1 ≤ (nI b1) ∧ (nI b1) ≤ nI 15) ∧ (nI 0 ≤ (nI b2) ∧ (nI b2) ≤ nI 1000) ∧ ((nI b2) ≤ (nI b3) ∧ (nI b3) ≤ nI 1000)) (zI 4 (nI i) ∧ M 7 (i) < 8))))) (cA := k 0) (len := 32) (g := mA (zu M 4 ((8 * i) + (M 7 i)) b1) O 5) F hK hP hD hS (5) 0 (by omega) rfl rfl (i := nI ((8 * i) + (M 7 i))) ((8 * i) + (M 7 i)) rfl (by omega) (by decide) (cM_urow 5 (by decide) (by decide) (by decide) (by decide) (by decide) _ _) dX3_addContract_104 (fun H locs hP hD hS => ?_)
              refine lv_aload_n hx hb dX3_addContract_105 rfl (lv_at hl 2 rfl) ?_
              refine z_get (C := RX3) (T := TX3) (N := 21) (ci := 3) (fs := mObj bd (zu (zu M 4 ((8 * i) + (M 7 i)) b1) 5 ((8 * i) + (M 7 i)) b2) (nI (x3 (zI 4 (nI i)) ((nI 1 ≤ (nI b1) ∧ (nI b1) ≤ nI 15) ∧ (nI 0 ≤ (nI b2) ∧ (nI b2) ≤ nI 1000) ∧ ((nI b2) ≤ (nI b3) ∧ (nI b3) ≤ nI 1000)) (zI 4 (nI i) ∧ M 7 (i) < 8)))) (v := .ref (bd 6)) F hK hP hi3 rfl (0) 6 (by omega) cM_0 (by decide) rfl (by decide +kernel) dX3_addContract_106 ?_
              refine lv_iload hx hb dX3_addContract_109 (lv_at hl 0 rfl) ?_
              refine lv_iload hx hb dX3_addContract_111 (lv_at hl 6 rfl) ?_
              refine z_iast (f' := (cM k bd (zu (zu (zu M 4 ((8 * i) + (M 7 i)) b1) 5 ((8 * i) + (M 7 i)) b2) 6 ((8 * i) + (M 7 i)) b3) O (nI (x3 (zI 4 (nI i)) ((nI 1 ≤ (nI b1) ∧ (nI b1) ≤ nI 15) ∧ (nI 0 ≤ (nI b2) ∧ (nI b2) ≤ nI 1000) ∧ ((nI b2) ≤ (nI b3) ∧ (nI b3) ≤ nI 1000)) (zI 4 (nI i) ∧ M 7 (i) < 8))))) (cA := k 0) (len := 32) (g := mA (zu (zu M 4 ((8 * i) + (M 7 i)) b1) 5 ((8 * i) + (M 7 i)) b2) O 6) F hK hP hD hS (6) 0 (by omega) rfl rfl (i := nI ((8 * i) + (M 7 i))) ((8 * i) + (M 7 i)) rfl (by omega) (by decide) (cM_urow 6 (by decide) (by decide) (by decide) (by decide) (by decide) _ _) dX3_addContract_113 (fun H locs hP hD hS => ?_)
              refine lv_aload_n hx hb dX3_addContract_114 rfl (lv_at hl 2 rfl) ?_
              refine z_get (C := RX3) (T := TX3) (N := 21) (ci := 3) (fs := mObj bd (zu (zu (zu M 4 ((8 * i) + (M 7 i)) b1) 5 ((8 * i) + (M 7 i)) b2) 6 ((8 * i) + (M 7 i)) b3) (nI (x3 (zI 4 (nI i)) ((nI 1 ≤ (nI b1) ∧ (nI b1) ≤ nI 15) ∧ (nI 0 ≤ (nI b2) ∧ (nI b2) ≤ nI 1000) ∧ ((nI b2) ≤ (nI b3) ∧ (nI b3) ≤ nI 1000)) (zI 4 (nI i) ∧ M 7 (i) < 8)))) (v := .ref (bd 7)) F hK hP hi3 rfl (0) 7 (by omega) cM_0 (by decide) rfl (by decide +kernel) dX3_addContract_115 ?_
              refine lv_iload_n hx hb dX3_addContract_118 rfl (lv_at hl 3 rfl) ?_
              refine lv_dup2_11 hx hb dX3_addContract_119 rfl rfl ?_
              refine z_iald (v := nI (M 7 i)) (cA := k 0) (len := 4) (g := mA (zu (zu (zu M 4 ((8 * i) + (M 7 i)) b1) 5 ((8 * i) + (M 7 i)) b2) 6 ((8 * i) + (M 7 i)) b3) O 7) F hK hP (7) 0 (by omega) rfl rfl (i := nI i) i rfl hi (by decide) (by first | rfl | (show nI _ = nI _; simp [zu])) dX3_addContract_120 ?_
              refine lv_iconst (v := nI 1) hx hb dX3_addContract_121 (by decide) ?_
              refine z_add F dX3_addContract_122 ?_
              refine z_iast (f' := (cM k bd (zu (zu (zu (zu M 4 ((8 * i) + (M 7 i)) b1) 5 ((8 * i) + (M 7 i)) b2) 6 ((8 * i) + (M 7 i)) b3) 7 i ((M 7 i) + 1)) O (nI (x3 (zI 4 (nI i)) ((nI 1 ≤ (nI b1) ∧ (nI b1) ≤ nI 15) ∧ (nI 0 ≤ (nI b2) ∧ (nI b2) ≤ nI 1000) ∧ ((nI b2) ≤ (nI b3) ∧ (nI b3) ≤ nI 1000)) (zI 4 (nI i) ∧ M 7 (i) < 8))))) (cA := k 0) (len := 4) (g := mA (zu (zu (zu M 4 ((8 * i) + (M 7 i)) b1) 5 ((8 * i) + (M 7 i)) b2) 6 ((8 * i) + (M 7 i)) b3) O 7) F hK hP hD hS (7) 0 (by omega) rfl rfl (i := nI i) i rfl hi (by decide) (cM_urow 7 (by decide) (by decide) (by decide) (by decide) (by decide) _ _) dX3_addContract_123 (fun H locs hP hD hS => ?_)
              refine lv_aload_n hx hb dX3_addContract_124 rfl (lv_at hl 2 rfl) ?_
              refine z_get (C := RX3) (T := TX3) (N := 21) (ci := 3) (fs := mObj bd (zu (zu (zu (zu M 4 ((8 * i) + (M 7 i)) b1) 5 ((8 * i) + (M 7 i)) b2) 6 ((8 * i) + (M 7 i)) b3) 7 i ((M 7 i) + 1)) (nI (x3 (zI 4 (nI i)) ((nI 1 ≤ (nI b1) ∧ (nI b1) ≤ nI 15) ∧ (nI 0 ≤ (nI b2) ∧ (nI b2) ≤ nI 1000) ∧ ((nI b2) ≤ (nI b3) ∧ (nI b3) ≤ nI 1000)) (zI 4 (nI i) ∧ M 7 (i) < 8)))) (v := .ref (bd 7)) F hK hP hi3 rfl (0) 7 (by omega) cM_0 (by decide) rfl (by decide +kernel) dX3_addContract_125 ?_
              refine lv_iload_n hx hb dX3_addContract_128 rfl (lv_at hl 3 rfl) ?_
              refine z_iald (v := nI ((M 7 i) + 1)) (cA := k 0) (len := 4) (g := mA (zu (zu (zu (zu M 4 ((8 * i) + (M 7 i)) b1) 5 ((8 * i) + (M 7 i)) b2) 6 ((8 * i) + (M 7 i)) b3) 7 i ((M 7 i) + 1)) O 7) F hK hP (7) 0 (by omega) rfl rfl (i := nI i) i rfl hi (by decide) (by first | rfl | (show nI _ = nI _; simp [zu])) dX3_addContract_129 ?_
              have hx0 : (x3 (zI 4 (nI i)) ((nI 1 ≤ (nI b1) ∧ (nI b1) ≤ nI 15) ∧ (nI 0 ≤ (nI b2) ∧ (nI b2) ≤ nI 1000) ∧ ((nI b2) ≤ (nI b3) ∧ (nI b3) ≤ nI 1000)) (M 7 (i) < 8)) = 0 := x3_0 c23.1 c23.2.1 c23.2.2.2
              have eW : cM k bd (if (x3 (zI 4 (nI i)) ((nI 1 ≤ (nI b1) ∧ (nI b1) ≤ nI 15) ∧ (nI 0 ≤ (nI b2) ∧ (nI b2) ≤ nI 1000) ∧ ((nI b2) ≤ (nI b3) ∧ (nI b3) ≤ nI 1000)) (M 7 (i) < 8)) = 0 then (kcM M (i) (b1) (b2) (b3)) else M) O (nI ((x3 (zI 4 (nI i)) ((nI 1 ≤ (nI b1) ∧ (nI b1) ≤ nI 15) ∧ (nI 0 ≤ (nI b2) ∧ (nI b2) ≤ nI 1000) ∧ ((nI b2) ≤ (nI b3) ∧ (nI b3) ≤ nI 1000)) (M 7 (i) < 8)))) = cM k bd (zu (zu (zu (zu M 4 ((8 * i) + (M 7 i)) b1) 5 ((8 * i) + (M 7 i)) b2) 6 ((8 * i) + (M 7 i)) b3) 7 i ((M 7 i) + 1)) O (nI (x3 (zI 4 (nI i)) ((nI 1 ≤ (nI b1) ∧ (nI b1) ≤ nI 15) ∧ (nI 0 ≤ (nI b2) ∧ (nI b2) ≤ nI 1000) ∧ ((nI b2) ≤ (nI b3) ∧ (nI b3) ≤ nI 1000)) (zI 4 (nI i) ∧ M 7 (i) < 8))) := by rw [if_pos hx0, ← x3_ac, kcM_y c23.2.2.2] <;> rfl
              rw [← eW] at hP hD
              refine W.widen (k := 0) (n := 0) (Nat.le_of_ble_eq_true rfl) (Nat.le_of_ble_eq_true rfl) ?_
              exact W.iret (v := nI ((M 7 i) + 1)) hx hb hr (fun t ht hW => ⟨⟨nI ((M 7 i) + 1), (), rfl, fun _ => (by rw [kcM_y c23.2.2.2, zu_s]), ⟨by rw [ht]; exact hP, va_K.moved hW.alike hK⟩, hD⟩, hS.F ht⟩) hS.2.2 dX3_addContract_130
            · refine lv_iconst (v := nI 0) hx hb dX3_addContract_74 (by decide) ?_
              have hx0 : (x3 (zI 4 (nI i)) ((nI 1 ≤ p1 ∧ p1 ≤ nI 15) ∧ (nI 0 ≤ p2 ∧ p2 ≤ nI 1000) ∧ (p2 ≤ p3 ∧ p3 ≤ nI 1000)) (M 7 (i) < 8)) ≠ 0 := x3_no (fun zz1 => c23 ⟨zz1.1, zz1.2.1, zz1.1, zz1.2.2⟩)
              have eW : cM k bd (if (x3 (zI 4 (nI i)) ((nI 1 ≤ p1 ∧ p1 ≤ nI 15) ∧ (nI 0 ≤ p2 ∧ p2 ≤ nI 1000) ∧ (p2 ≤ p3 ∧ p3 ≤ nI 1000)) (M 7 (i) < 8)) = 0 then (kcM M (i) (ix p1) (ix p2) (ix p3)) else M) O (nI ((x3 (zI 4 (nI i)) ((nI 1 ≤ p1 ∧ p1 ≤ nI 15) ∧ (nI 0 ≤ p2 ∧ p2 ≤ nI 1000) ∧ (p2 ≤ p3 ∧ p3 ≤ nI 1000)) (M 7 (i) < 8)))) = cM k bd M O (nI (x3 (zI 4 (nI i)) ((nI 1 ≤ p1 ∧ p1 ≤ nI 15) ∧ (nI 0 ≤ p2 ∧ p2 ≤ nI 1000) ∧ (p2 ≤ p3 ∧ p3 ≤ nI 1000)) (zI 4 (nI i) ∧ M 7 (i) < 8))) := by rw [if_neg hx0, ← x3_ac] <;> rfl
              rw [← eW] at hP hD
              refine W.widen (k := 0) (n := 0) (Nat.le_of_ble_eq_true rfl) (Nat.le_of_ble_eq_true rfl) ?_
              exact W.iret (v := nI 0) hx hb hr (fun t ht hW => ⟨⟨nI 0, (), rfl, fun zz1 => absurd zz1 hx0, ⟨by rw [ht]; exact hP, va_K.moved hW.alike hK⟩, hD⟩, hS.F ht⟩) hS.2.2 dX3_addContract_75
theorem x3_id {a b c : Prop} : x3 a b c = x3 a b c := rfl
set_option maxRecDepth 100000 in
set_option maxHeartbeats 1000000 in
theorem c_X3_open (l : Launch) (D : va_G) (k : Nat → ClassId) (bd : Nat → Nat) (M : Nat → Nat → Nat) (O : Nat → Nat → Int32) (th : Int32) (sz : Nat) (hI : zInv M) (p0 p1 p2 : Int32) : Met l yX3_open wsX3_open ({ frames := 2, cells := 0, slots := 0, locals := 42 }) (va_Pc [.ref (bd 0), .int p0, .int p1, .int p2] (zG D k 19 bd (cM k bd M O th) sz)) (zQw D k 19 bd (cM k bd (if (x3 (zI 4 p0 ∧ zI 4 p1) (nI 0 ≤ p2 ∧ p2 ≤ nI 2) (M 0 1 < 40)) = 0 then (opM M (ix p0) (ix p1) (ix p2)) else M) O (nI ((x3 (zI 4 p0 ∧ zI 4 p1) (nI 0 ≤ p2 ∧ p2 ≤ nI 2) (M 0 1 < 40))))) (va_A (zw 19 bd (cM k bd M O th)) sz) (fun r => (x3 (zI 4 p0 ∧ zI 4 p1) (nI 0 ≤ p2 ∧ p2 ≤ nI 2) (M 0 1 < 40)) = 0 → r = (nI (M 0 1)))) 0 0 (va_A (zw 19 bd (cM k bd M O th)) sz) := by
  refine Met.ofW (cc := cX3_open) (maxL := 4) (ret := (some .int)) (by decide) rfl ?_
  intro p e s m args below meth c s₁ B hml hv
  obtain ⟨rfl, hsz, ⟨hP, hK⟩, hD0⟩ := hv
  have hx := B.exec
  have hb := B.bytes
  have hr := B.returns
  have hts := atoms_spec (ws := wsX3_open) B.pre
  have hown : s.vm.findClass RX3 = some m.cls := findClass_of_methodNamed B.named
  have hlocks := B.notSynchronized
  have F : CallFix p m c cX3_open 4 s _ wsX3_open RX3 := ⟨hx, hb, hml, hown, hts⟩
  subst hsz
  have hD := hD0.self (sz := s.heap.size)
  generalize hAe : va_A (zw 19 bd (cM k bd M O th)) s.heap.size = A at hD ⊢
  have hA : ∀ q : Nat, s.heap.size ≤ q → A q := fun q h => by rw [← hAe]; exact Or.inr h
  have hS : va_S A s.heap s.heap [] := va_S.rf
  have hl := lv_entry ([.ref (bd 0), .int p0, .int p1, .int p2]) (n := 4) (Nat.le_of_ble_eq_true rfl)
  rw [lg_entry_eq]
  generalize (lg_sl ([.ref (bd 0), .int p0, .int p1, .int p2]) ++ List.replicate (4 - (lg_sl ([.ref (bd 0), .int p0, .int p1, .int p2])).length) Slot.unset).toArray = ls at hl ⊢
  have hl : lv_has ls 4 [(0, .ref (bd 0)), (1, .int p0), (2, .int p1), (3, .int p2)] := hl
  have hi3 : ∀ w ∈ u_ws RX3 TX3 21, w ∈ wsX3_open := by decide +kernel
  obtain ⟨hI1, hI2, hI3, hI4, hI5, hI6, hI7⟩ := id hI
  refine lv_aload_n hx hb dX3_open_0 rfl (lv_at hl 0 rfl) ?_
  refine lv_iload_n hx hb dX3_open_1 rfl (lv_at hl 1 rfl) ?_
  refine z_cS (As := [.int p0]) (rest := [.ref (bd 0)]) F (c_X3_isSite l p0) (va_cwS 1 hts gX3_open_X3_isSite rfl rfl rfl (by decide +kernel) ⟨Nat.le_of_ble_eq_true rfl, Nat.le_of_ble_eq_true rfl⟩) rfl hl.1 rfl (Nat.le_of_ble_eq_true rfl) dX3_open_2 ⟨Nat.le_of_ble_eq_true rfl, Nat.le_of_ble_eq_true rfl⟩ (fun r hr => ?_)
  subst hr
  refine z_ifb_eq (tgt := 19) F dX3_open_5 (by decide) (fun c24 => ?_) (fun c24 => ?_)
  · refine lv_iconst (v := nI 0) hx hb dX3_open_19 (by decide) ?_
    refine z_top (show nI 0 = bI (zI 4 p0 ∧ zI 4 p1) from (bI_f (fun zz1 => by have zz2 := zz1.1; first | exact c24 zz2 | omega)).symm) ?_
    refine lv_iload_n hx hb dX3_open_20 rfl (lv_at hl 3 rfl) ?_
    refine lv_iconst (v := nI 0) hx hb dX3_open_21 (by decide) ?_
    refine lv_iconst (v := nI 2) hx hb dX3_open_22 (by decide) ?_
    refine z_cS (As := [.int p2, .int (nI 0), .int (nI 2)]) (rest := [.int (bI (zI 4 p0 ∧ zI 4 p1)), .ref (bd 0)]) F (c_X3_in l p2 (nI 0) (nI 2)) (va_cwS 3 hts gX3_open_X3_in rfl rfl rfl (by decide +kernel) ⟨Nat.le_of_ble_eq_true rfl, Nat.le_of_ble_eq_true rfl⟩) rfl hl.1 rfl (Nat.le_of_ble_eq_true rfl) dX3_open_23 ⟨Nat.le_of_ble_eq_true rfl, Nat.le_of_ble_eq_true rfl⟩ (fun r hr => ?_)
    subst hr
    refine lv_aload_n hx hb dX3_open_26 rfl (lv_at hl 0 rfl) ?_
    refine z_get (C := RX3) (T := TX3) (N := 21) (ci := 3) (fs := mObj bd M th) (v := .int (nI (M 0 1))) F hK hP hi3 rfl (0) 17 (by omega) cM_0 (by decide) rfl (by decide +kernel) dX3_open_27 ?_
    refine lv_bipush (v := nI 40) hx hb dX3_open_30 (by decide) ?_
    refine z_icmp_ge (tgt := 39) F (by omega) (by omega) dX3_open_32 (by decide) (fun c25 => ?_) (fun c25 => ?_)
    · refine lv_iconst (v := nI 0) hx hb dX3_open_39 (by decide) ?_
      refine z_top (show nI 0 = bI (M 0 1 < 40) from (bI_f (fun zz1 => by have zz2 := zz1; first | exact c25 zz2 | omega)).symm) ?_
      refine z_mV (qc := (RX3, TX3, 21)) (As := [.int (bI (zI 4 p0 ∧ zI 4 p1)), .int (bI (nI 0 ≤ p2 ∧ p2 ≤ nI 2)), .int (bI (M 0 1 < 40))]) (rest := []) (0) F (c_X3_asked__ l D k bd M O th _ (zI 4 p0 ∧ zI 4 p1) (nI 0 ≤ p2 ∧ p2 ≤ nI 2) (M 0 1 < 40)) (cwV 3 hts gX3_open_X3_asked__ rfl rfl rfl (by decide +kernel) ⟨Nat.le_of_ble_eq_true rfl, Nat.le_of_ble_eq_true rfl⟩) hK hP hD hS hA (by omega) cM_0 rfl rfl hl.1 rfl (Nat.le_of_ble_eq_true rfl) dX3_open_40 ⟨Nat.le_of_ble_eq_true rfl, Nat.le_of_ble_eq_true rfl⟩ (fun r H locs hr0 hP hD hS => ?_)
      subst hr0
      refine z_ifb_ne (tgt := 48) F dX3_open_43 (by decide) (fun c26 => ?_) (fun c26 => ?_)
      · obtain ⟨i, hi, rfl⟩ := id (c26.1.1)
        try rw [ix_nI (show i < 2 ^ 31 by omega)]
        obtain ⟨kd, hkd, rfl⟩ := id (c26.1.2)
        try rw [ix_nI (show kd < 2 ^ 31 by omega)]
        obtain ⟨g, hg0, hg, rfl⟩ := (zB_iff (by omega) (by decide)).mp (c26.2.1)
        try rw [ix_nI (show g < 2 ^ 31 by omega)]
        have hlt := c26.2.2
        refine lv_aload_n hx hb dX3_open_48 rfl (lv_at hl 0 rfl) ?_
        refine z_get (C := RX3) (T := TX3) (N := 21) (ci := 3) (fs := mObj bd M (nI (x3 (zI 4 (nI i) ∧ zI 4 (nI kd)) (nI 0 ≤ (nI g) ∧ (nI g) ≤ nI 2) (M 0 1 < 40)))) (v := .ref (bd 9)) F hK hP hi3 rfl (0) 9 (by omega) cM_0 (by decide) rfl (by decide +kernel) dX3_open_49 ?_
        refine lv_aload_n hx hb dX3_open_52 rfl (lv_at hl 0 rfl) ?_
        refine z_get (C := RX3) (T := TX3) (N := 21) (ci := 3) (fs := mObj bd M (nI (x3 (zI 4 (nI i) ∧ zI 4 (nI kd)) (nI 0 ≤ (nI g) ∧ (nI g) ≤ nI 2) (M 0 1 < 40)))) (v := .int (nI (M 0 1))) F hK hP hi3 rfl (0) 17 (by omega) cM_0 (by decide) rfl (by decide +kernel) dX3_open_53 ?_
        refine lv_iload_n hx hb dX3_open_56 rfl (lv_at hl 1 rfl) ?_
        refine z_iast (f' := (cM k bd (zu M 9 (M 0 1) i) O (nI (x3 (zI 4 (nI i) ∧ zI 4 (nI kd)) (nI 0 ≤ (nI g) ∧ (nI g) ≤ nI 2) (M 0 1 < 40))))) (cA := k 0) (len := 40) (g := mA M O 9) F hK hP hD hS (9) 0 (by omega) rfl rfl (i := nI (M 0 1)) (M 0 1) rfl hlt (by decide) (cM_urow 9 (by decide) (by decide) (by decide) (by decide) (by decide) _ _) dX3_open_57 (fun H locs hP hD hS => ?_)
        refine lv_aload_n hx hb dX3_open_58 rfl (lv_at hl 0 rfl) ?_
        refine z_get (C := RX3) (T := TX3) (N := 21) (ci := 3) (fs := mObj bd (zu M 9 (M 0 1) i) (nI (x3 (zI 4 (nI i) ∧ zI 4 (nI kd)) (nI 0 ≤ (nI g) ∧ (nI g) ≤ nI 2) (M 0 1 < 40)))) (v := .ref (bd 10)) F hK hP hi3 rfl (0) 10 (by omega) cM_0 (by decide) rfl (by decide +kernel) dX3_open_59 ?_
        refine lv_aload_n hx hb dX3_open_62 rfl (lv_at hl 0 rfl) ?_
        refine z_get (C := RX3) (T := TX3) (N := 21) (ci := 3) (fs := mObj bd (zu M 9 (M 0 1) i) (nI (x3 (zI 4 (nI i) ∧ zI 4 (nI kd)) (nI 0 ≤ (nI g) ∧ (nI g) ≤ nI 2) (M 0 1 < 40)))) (v := .int (nI (M 0 1))) F hK hP hi3 rfl (0) 17 (by omega) cM_0 (by decide) rfl (by decide +kernel) dX3_open_63 ?_
        refine lv_iload_n hx hb dX3_open_66 rfl (lv_at hl 2 rfl) ?_
        refine z_iast (f' := (cM k bd (zu (zu M 9 (M 0 1) i) 10 (M 0 1) kd) O (nI (x3 (zI 4 (nI i) ∧ zI 4 (nI kd)) (nI 0 ≤ (nI g) ∧ (nI g) ≤ nI 2) (M 0 1 < 40))))) (cA := k 0) (len := 40) (g := mA (zu M 9 (M 0 1) i) O 10) F hK hP hD hS (10) 0 (by omega) rfl rfl (i := nI (M 0 1)) (M 0 1) rfl hlt (by decide) (cM_urow 10 (by decide) (by decide) (by decide) (by decide) (by decide) _ _) dX3_open_67 (fun H locs hP hD hS => ?_)
        refine lv_aload_n hx hb dX3_open_68 rfl (lv_at hl 0 rfl) ?_
        refine z_get (C := RX3) (T := TX3) (N := 21) (ci := 3) (fs := mObj bd (zu (zu M 9 (M 0 1) i) 10 (M 0 1) kd) (nI (x3 (zI 4 (nI i) ∧ zI 4 (nI kd)) (nI 0 ≤ (nI g) ∧ (nI g) ≤ nI 2) (M 0 1 < 40)))) (v := .ref (bd 11)) F hK hP hi3 rfl (0) 11 (by omega) cM_0 (by decide) rfl (by decide +kernel) dX3_open_69 ?_
        refine lv_aload_n hx hb dX3_open_72 rfl (lv_at hl 0 rfl) ?_
        refine z_get (C := RX3) (T := TX3) (N := 21) (ci := 3) (fs := mObj bd (zu (zu M 9 (M 0 1) i) 10 (M 0 1) kd) (nI (x3 (zI 4 (nI i) ∧ zI 4 (nI kd)) (nI 0 ≤ (nI g) ∧ (nI g) ≤ nI 2) (M 0 1 < 40)))) (v := .int (nI (M 0 1))) F hK hP hi3 rfl (0) 17 (by omega) cM_0 (by decide) rfl (by decide +kernel) dX3_open_73 ?_
        refine lv_iload_n hx hb dX3_open_76 rfl (lv_at hl 3 rfl) ?_
        refine z_iast (f' := (cM k bd (zu (zu (zu M 9 (M 0 1) i) 10 (M 0 1) kd) 11 (M 0 1) g) O (nI (x3 (zI 4 (nI i) ∧ zI 4 (nI kd)) (nI 0 ≤ (nI g) ∧ (nI g) ≤ nI 2) (M 0 1 < 40))))) (cA := k 0) (len := 40) (g := mA (zu (zu M 9 (M 0 1) i) 10 (M 0 1) kd) O 11) F hK hP hD hS (11) 0 (by omega) rfl rfl (i := nI (M 0 1)) (M 0 1) rfl hlt (by decide) (cM_urow 11 (by decide) (by decide) (by decide) (by decide) (by decide) _ _) dX3_open_77 (fun H locs hP hD hS => ?_)
        refine lv_aload_n hx hb dX3_open_78 rfl (lv_at hl 0 rfl) ?_
        refine z_get (C := RX3) (T := TX3) (N := 21) (ci := 3) (fs := mObj bd (zu (zu (zu M 9 (M 0 1) i) 10 (M 0 1) kd) 11 (M 0 1) g) (nI (x3 (zI 4 (nI i) ∧ zI 4 (nI kd)) (nI 0 ≤ (nI g) ∧ (nI g) ≤ nI 2) (M 0 1 < 40)))) (v := .ref (bd 12)) F hK hP hi3 rfl (0) 12 (by omega) cM_0 (by decide) rfl (by decide +kernel) dX3_open_79 ?_
        refine lv_aload_n hx hb dX3_open_82 rfl (lv_at hl 0 rfl) ?_
        refine z_get (C := RX3) (T := TX3) (N := 21) (ci := 3) (fs := mObj bd (zu (zu (zu M 9 (M 0 1) i) 10 (M 0 1) kd) 11 (M 0 1) g) (nI (x3 (zI 4 (nI i) ∧ zI 4 (nI kd)) (nI 0 ≤ (nI g) ∧ (nI g) ≤ nI 2) (M 0 1 < 40)))) (v := .int (nI (M 0 1))) F hK hP hi3 rfl (0) 17 (by omega) cM_0 (by decide) rfl (by decide +kernel) dX3_open_83 ?_
        refine lv_iconst (v := nI 0) hx hb dX3_open_86 (by decide) ?_
        refine z_iast (f' := (cM k bd (zu (zu (zu (zu M 9 (M 0 1) i) 10 (M 0 1) kd) 11 (M 0 1) g) 12 (M 0 1) 0) O (nI (x3 (zI 4 (nI i) ∧ zI 4 (nI kd)) (nI 0 ≤ (nI g) ∧ (nI g) ≤ nI 2) (M 0 1 < 40))))) (cA := k 0) (len := 40) (g := mA (zu (zu (zu M 9 (M 0 1) i) 10 (M 0 1) kd) 11 (M 0 1) g) O 12) F hK hP hD hS (12) 0 (by omega) rfl rfl (i := nI (M 0 1)) (M 0 1) rfl hlt (by decide) (cM_urow 12 (by decide) (by decide) (by decide) (by decide) (by decide) _ _) dX3_open_87 (fun H locs hP hD hS => ?_)
        refine lv_aload_n hx hb dX3_open_88 rfl (lv_at hl 0 rfl) ?_
        refine z_get (C := RX3) (T := TX3) (N := 21) (ci := 3) (fs := mObj bd (zu (zu (zu (zu M 9 (M 0 1) i) 10 (M 0 1) kd) 11 (M 0 1) g) 12 (M 0 1) 0) (nI (x3 (zI 4 (nI i) ∧ zI 4 (nI kd)) (nI 0 ≤ (nI g) ∧ (nI g) ≤ nI 2) (M 0 1 < 40)))) (v := .ref (bd 13)) F hK hP hi3 rfl (0) 13 (by omega) cM_0 (by decide) rfl (by decide +kernel) dX3_open_89 ?_
        refine lv_aload_n hx hb dX3_open_92 rfl (lv_at hl 0 rfl) ?_
        refine z_get (C := RX3) (T := TX3) (N := 21) (ci := 3) (fs := mObj bd (zu (zu (zu (zu M 9 (M 0 1) i) 10 (M 0 1) kd) 11 (M 0 1) g) 12 (M 0 1) 0) (nI (x3 (zI 4 (nI i) ∧ zI 4 (nI kd)) (nI 0 ≤ (nI g) ∧ (nI g) ≤ nI 2) (M 0 1 < 40)))) (v := .int (nI (M 0 1))) F hK hP hi3 rfl (0) 17 (by omega) cM_0 (by decide) rfl (by decide +kernel) dX3_open_93 ?_
        refine lv_iconst (v := (-1)) hx hb dX3_open_96 (by decide) ?_
        refine z_iast (f' := (cM k bd (zu (zu (zu (zu (zu M 9 (M 0 1) i) 10 (M 0 1) kd) 11 (M 0 1) g) 12 (M 0 1) 0) 13 (M 0 1) 0) O (nI (x3 (zI 4 (nI i) ∧ zI 4 (nI kd)) (nI 0 ≤ (nI g) ∧ (nI g) ≤ nI 2) (M 0 1 < 40))))) (cA := k 0) (len := 40) (g := mA (zu (zu (zu (zu M 9 (M 0 1) i) 10 (M 0 1) kd) 11 (M 0 1) g) 12 (M 0 1) 0) O 13) F hK hP hD hS (13) 0 (by omega) rfl rfl (i := nI (M 0 1)) (M 0 1) rfl hlt (by decide) (cM_uhead _ 0) dX3_open_97 (fun H locs hP hD hS => ?_)
        refine lv_aload_n hx hb dX3_open_98 rfl (lv_at hl 0 rfl) ?_
        refine lv_dup hx hb dX3_open_99 rfl ?_
        refine z_get (C := RX3) (T := TX3) (N := 21) (ci := 3) (fs := mObj bd (zu (zu (zu (zu (zu M 9 (M 0 1) i) 10 (M 0 1) kd) 11 (M 0 1) g) 12 (M 0 1) 0) 13 (M 0 1) 0) (nI (x3 (zI 4 (nI i) ∧ zI 4 (nI kd)) (nI 0 ≤ (nI g) ∧ (nI g) ≤ nI 2) (M 0 1 < 40)))) (v := .int (nI (M 0 1))) F hK hP hi3 rfl (0) 17 (by omega) cM_0 (by decide) rfl (by decide +kernel) dX3_open_100 ?_
        refine lv_iconst (v := nI 1) hx hb dX3_open_103 (by decide) ?_
        refine z_add F dX3_open_104 ?_
        refine z_put (C := RX3) (T := TX3) (N := 21) (ci := 3) (fs := mObj bd (zu (zu (zu (zu (zu M 9 (M 0 1) i) 10 (M 0 1) kd) 11 (M 0 1) g) 12 (M 0 1) 0) 13 (M 0 1) 0) (nI (x3 (zI 4 (nI i) ∧ zI 4 (nI kd)) (nI 0 ≤ (nI g) ∧ (nI g) ≤ nI 2) (M 0 1 < 40)))) (f' := (cM k bd (zu (zu (zu (zu (zu (zu M 9 (M 0 1) i) 10 (M 0 1) kd) 11 (M 0 1) g) 12 (M 0 1) 0) 13 (M 0 1) 0) 0 1 ((M 0 1) + 1)) O (nI (x3 (zI 4 (nI i) ∧ zI 4 (nI kd)) (nI 0 ≤ (nI g) ∧ (nI g) ≤ nI 2) (M 0 1 < 40))))) F hK hP hD hS hi3 rfl tyX3 tyX3_ok nmX3 (0) 17 (by omega) cM_0 (by decide) (Nat.le_of_ble_eq_true rfl) (by decide +kernel) rfl rfl rfl rfl (cM_ucnt _) dX3_open_105 (fun H locs hP hD hS => ?_)
        refine lv_aload_n hx hb dX3_open_108 rfl (lv_at hl 0 rfl) ?_
        refine z_get (C := RX3) (T := TX3) (N := 21) (ci := 3) (fs := mObj bd (zu (zu (zu (zu (zu (zu M 9 (M 0 1) i) 10 (M 0 1) kd) 11 (M 0 1) g) 12 (M 0 1) 0) 13 (M 0 1) 0) 0 1 ((M 0 1) + 1)) (nI (x3 (zI 4 (nI i) ∧ zI 4 (nI kd)) (nI 0 ≤ (nI g) ∧ (nI g) ≤ nI 2) (M 0 1 < 40)))) (v := .int (nI ((M 0 1) + 1))) F hK hP hi3 rfl (0) 17 (by omega) cM_0 (by decide) rfl (by decide +kernel) dX3_open_109 ?_
        refine lv_iconst (v := nI 1) hx hb dX3_open_112 (by decide) ?_
        refine z_sub F (by omega) dX3_open_113 ?_
        have hx0 : (x3 (zI 4 (nI i) ∧ zI 4 (nI kd)) (nI 0 ≤ (nI g) ∧ (nI g) ≤ nI 2) (M 0 1 < 40)) = 0 := x3_0 c26.1 c26.2.1 c26.2.2
        have eW : cM k bd (if (x3 (zI 4 (nI i) ∧ zI 4 (nI kd)) (nI 0 ≤ (nI g) ∧ (nI g) ≤ nI 2) (M 0 1 < 40)) = 0 then (opM M (i) (kd) (g)) else M) O (nI ((x3 (zI 4 (nI i) ∧ zI 4 (nI kd)) (nI 0 ≤ (nI g) ∧ (nI g) ≤ nI 2) (M 0 1 < 40)))) = cM k bd (zu (zu (zu (zu (zu (zu M 9 (M 0 1) i) 10 (M 0 1) kd) 11 (M 0 1) g) 12 (M 0 1) 0) 13 (M 0 1) 0) 0 1 ((M 0 1) + 1)) O (nI (x3 (zI 4 (nI i) ∧ zI 4 (nI kd)) (nI 0 ≤ (nI g) ∧ (nI g) ≤ nI 2) (M 0 1 < 40))) := by rw [if_pos hx0, ← x3_id, opM_zu] <;> rfl
        rw [← eW] at hP hD
        refine W.widen (k := 0) (n := 0) (Nat.le_of_ble_eq_true rfl) (Nat.le_of_ble_eq_true rfl) ?_
        exact W.iret (v := nI (((M 0 1) + 1) - 1)) hx hb hr (fun t ht hW => ⟨⟨nI (((M 0 1) + 1) - 1), (), rfl, fun _ => (by rw [Nat.add_sub_cancel]), ⟨by rw [ht]; exact hP, va_K.moved hW.alike hK⟩, hD⟩, hS.F ht⟩) hS.2.2 dX3_open_114
      · refine lv_iconst (v := nI 0) hx hb dX3_open_46 (by decide) ?_
        have hx0 : (x3 (zI 4 p0 ∧ zI 4 p1) (nI 0 ≤ p2 ∧ p2 ≤ nI 2) (M 0 1 < 40)) ≠ 0 := x3_no (c26)
        have eW : cM k bd (if (x3 (zI 4 p0 ∧ zI 4 p1) (nI 0 ≤ p2 ∧ p2 ≤ nI 2) (M 0 1 < 40)) = 0 then (opM M (ix p0) (ix p1) (ix p2)) else M) O (nI ((x3 (zI 4 p0 ∧ zI 4 p1) (nI 0 ≤ p2 ∧ p2 ≤ nI 2) (M 0 1 < 40)))) = cM k bd M O (nI (x3 (zI 4 p0 ∧ zI 4 p1) (nI 0 ≤ p2 ∧ p2 ≤ nI 2) (M 0 1 < 40))) := by rw [if_neg hx0, ← x3_id] <;> rfl
        rw [← eW] at hP hD
        refine W.widen (k := 0) (n := 0) (Nat.le_of_ble_eq_true rfl) (Nat.le_of_ble_eq_true rfl) ?_
        exact W.iret (v := nI 0) hx hb hr (fun t ht hW => ⟨⟨nI 0, (), rfl, fun zz1 => absurd zz1 hx0, ⟨by rw [ht]; exact hP, va_K.moved hW.alike hK⟩, hD⟩, hS.F ht⟩) hS.2.2 dX3_open_47
    · refine lv_iconst (v := nI 1) hx hb dX3_open_35 (by decide) ?_
      refine lv_goto (tgt := 40) hx hb dX3_open_36 (by decide) ?_
      refine z_top (show nI 1 = bI (M 0 1 < 40) from (bI_t c25).symm) ?_
      refine z_mV (qc := (RX3, TX3, 21)) (As := [.int (bI (zI 4 p0 ∧ zI 4 p1)), .int (bI (nI 0 ≤ p2 ∧ p2 ≤ nI 2)), .int (bI (M 0 1 < 40))]) (rest := []) (0) F (c_X3_asked__ l D k bd M O th _ (zI 4 p0 ∧ zI 4 p1) (nI 0 ≤ p2 ∧ p2 ≤ nI 2) (M 0 1 < 40)) (cwV 3 hts gX3_open_X3_asked__ rfl rfl rfl (by decide +kernel) ⟨Nat.le_of_ble_eq_true rfl, Nat.le_of_ble_eq_true rfl⟩) hK hP hD hS hA (by omega) cM_0 rfl rfl hl.1 rfl (Nat.le_of_ble_eq_true rfl) dX3_open_40 ⟨Nat.le_of_ble_eq_true rfl, Nat.le_of_ble_eq_true rfl⟩ (fun r H locs hr0 hP hD hS => ?_)
      subst hr0
      refine z_ifb_ne (tgt := 48) F dX3_open_43 (by decide) (fun c27 => ?_) (fun c27 => ?_)
      · obtain ⟨i, hi, rfl⟩ := id (c27.1.1)
        try rw [ix_nI (show i < 2 ^ 31 by omega)]
        obtain ⟨kd, hkd, rfl⟩ := id (c27.1.2)
        try rw [ix_nI (show kd < 2 ^ 31 by omega)]
        obtain ⟨g, hg0, hg, rfl⟩ := (zB_iff (by omega) (by decide)).mp (c27.2.1)
        try rw [ix_nI (show g < 2 ^ 31 by omega)]
        have hlt := c27.2.2
        refine lv_aload_n hx hb dX3_open_48 rfl (lv_at hl 0 rfl) ?_
        refine z_get (C := RX3) (T := TX3) (N := 21) (ci := 3) (fs := mObj bd M (nI (x3 (zI 4 (nI i) ∧ zI 4 (nI kd)) (nI 0 ≤ (nI g) ∧ (nI g) ≤ nI 2) (M 0 1 < 40)))) (v := .ref (bd 9)) F hK hP hi3 rfl (0) 9 (by omega) cM_0 (by decide) rfl (by decide +kernel) dX3_open_49 ?_
        refine lv_aload_n hx hb dX3_open_52 rfl (lv_at hl 0 rfl) ?_
        refine z_get (C := RX3) (T := TX3) (N := 21) (ci := 3) (fs := mObj bd M (nI (x3 (zI 4 (nI i) ∧ zI 4 (nI kd)) (nI 0 ≤ (nI g) ∧ (nI g) ≤ nI 2) (M 0 1 < 40)))) (v := .int (nI (M 0 1))) F hK hP hi3 rfl (0) 17 (by omega) cM_0 (by decide) rfl (by decide +kernel) dX3_open_53 ?_
        refine lv_iload_n hx hb dX3_open_56 rfl (lv_at hl 1 rfl) ?_
        refine z_iast (f' := (cM k bd (zu M 9 (M 0 1) i) O (nI (x3 (zI 4 (nI i) ∧ zI 4 (nI kd)) (nI 0 ≤ (nI g) ∧ (nI g) ≤ nI 2) (M 0 1 < 40))))) (cA := k 0) (len := 40) (g := mA M O 9) F hK hP hD hS (9) 0 (by omega) rfl rfl (i := nI (M 0 1)) (M 0 1) rfl hlt (by decide) (cM_urow 9 (by decide) (by decide) (by decide) (by decide) (by decide) _ _) dX3_open_57 (fun H locs hP hD hS => ?_)
        refine lv_aload_n hx hb dX3_open_58 rfl (lv_at hl 0 rfl) ?_
        refine z_get (C := RX3) (T := TX3) (N := 21) (ci := 3) (fs := mObj bd (zu M 9 (M 0 1) i) (nI (x3 (zI 4 (nI i) ∧ zI 4 (nI kd)) (nI 0 ≤ (nI g) ∧ (nI g) ≤ nI 2) (M 0 1 < 40)))) (v := .ref (bd 10)) F hK hP hi3 rfl (0) 10 (by omega) cM_0 (by decide) rfl (by decide +kernel) dX3_open_59 ?_
        refine lv_aload_n hx hb dX3_open_62 rfl (lv_at hl 0 rfl) ?_
        refine z_get (C := RX3) (T := TX3) (N := 21) (ci := 3) (fs := mObj bd (zu M 9 (M 0 1) i) (nI (x3 (zI 4 (nI i) ∧ zI 4 (nI kd)) (nI 0 ≤ (nI g) ∧ (nI g) ≤ nI 2) (M 0 1 < 40)))) (v := .int (nI (M 0 1))) F hK hP hi3 rfl (0) 17 (by omega) cM_0 (by decide) rfl (by decide +kernel) dX3_open_63 ?_
        refine lv_iload_n hx hb dX3_open_66 rfl (lv_at hl 2 rfl) ?_
        refine z_iast (f' := (cM k bd (zu (zu M 9 (M 0 1) i) 10 (M 0 1) kd) O (nI (x3 (zI 4 (nI i) ∧ zI 4 (nI kd)) (nI 0 ≤ (nI g) ∧ (nI g) ≤ nI 2) (M 0 1 < 40))))) (cA := k 0) (len := 40) (g := mA (zu M 9 (M 0 1) i) O 10) F hK hP hD hS (10) 0 (by omega) rfl rfl (i := nI (M 0 1)) (M 0 1) rfl hlt (by decide) (cM_urow 10 (by decide) (by decide) (by decide) (by decide) (by decide) _ _) dX3_open_67 (fun H locs hP hD hS => ?_)
        refine lv_aload_n hx hb dX3_open_68 rfl (lv_at hl 0 rfl) ?_
        refine z_get (C := RX3) (T := TX3) (N := 21) (ci := 3) (fs := mObj bd (zu (zu M 9 (M 0 1) i) 10 (M 0 1) kd) (nI (x3 (zI 4 (nI i) ∧ zI 4 (nI kd)) (nI 0 ≤ (nI g) ∧ (nI g) ≤ nI 2) (M 0 1 < 40)))) (v := .ref (bd 11)) F hK hP hi3 rfl (0) 11 (by omega) cM_0 (by decide) rfl (by decide +kernel) dX3_open_69 ?_
        refine lv_aload_n hx hb dX3_open_72 rfl (lv_at hl 0 rfl) ?_
        refine z_get (C := RX3) (T := TX3) (N := 21) (ci := 3) (fs := mObj bd (zu (zu M 9 (M 0 1) i) 10 (M 0 1) kd) (nI (x3 (zI 4 (nI i) ∧ zI 4 (nI kd)) (nI 0 ≤ (nI g) ∧ (nI g) ≤ nI 2) (M 0 1 < 40)))) (v := .int (nI (M 0 1))) F hK hP hi3 rfl (0) 17 (by omega) cM_0 (by decide) rfl (by decide +kernel) dX3_open_73 ?_
        refine lv_iload_n hx hb dX3_open_76 rfl (lv_at hl 3 rfl) ?_
        refine z_iast (f' := (cM k bd (zu (zu (zu M 9 (M 0 1) i) 10 (M 0 1) kd) 11 (M 0 1) g) O (nI (x3 (zI 4 (nI i) ∧ zI 4 (nI kd)) (nI 0 ≤ (nI g) ∧ (nI g) ≤ nI 2) (M 0 1 < 40))))) (cA := k 0) (len := 40) (g := mA (zu (zu M 9 (M 0 1) i) 10 (M 0 1) kd) O 11) F hK hP hD hS (11) 0 (by omega) rfl rfl (i := nI (M 0 1)) (M 0 1) rfl hlt (by decide) (cM_urow 11 (by decide) (by decide) (by decide) (by decide) (by decide) _ _) dX3_open_77 (fun H locs hP hD hS => ?_)
        refine lv_aload_n hx hb dX3_open_78 rfl (lv_at hl 0 rfl) ?_
        refine z_get (C := RX3) (T := TX3) (N := 21) (ci := 3) (fs := mObj bd (zu (zu (zu M 9 (M 0 1) i) 10 (M 0 1) kd) 11 (M 0 1) g) (nI (x3 (zI 4 (nI i) ∧ zI 4 (nI kd)) (nI 0 ≤ (nI g) ∧ (nI g) ≤ nI 2) (M 0 1 < 40)))) (v := .ref (bd 12)) F hK hP hi3 rfl (0) 12 (by omega) cM_0 (by decide) rfl (by decide +kernel) dX3_open_79 ?_
        refine lv_aload_n hx hb dX3_open_82 rfl (lv_at hl 0 rfl) ?_
        refine z_get (C := RX3) (T := TX3) (N := 21) (ci := 3) (fs := mObj bd (zu (zu (zu M 9 (M 0 1) i) 10 (M 0 1) kd) 11 (M 0 1) g) (nI (x3 (zI 4 (nI i) ∧ zI 4 (nI kd)) (nI 0 ≤ (nI g) ∧ (nI g) ≤ nI 2) (M 0 1 < 40)))) (v := .int (nI (M 0 1))) F hK hP hi3 rfl (0) 17 (by omega) cM_0 (by decide) rfl (by decide +kernel) dX3_open_83 ?_
        refine lv_iconst (v := nI 0) hx hb dX3_open_86 (by decide) ?_
        refine z_iast (f' := (cM k bd (zu (zu (zu (zu M 9 (M 0 1) i) 10 (M 0 1) kd) 11 (M 0 1) g) 12 (M 0 1) 0) O (nI (x3 (zI 4 (nI i) ∧ zI 4 (nI kd)) (nI 0 ≤ (nI g) ∧ (nI g) ≤ nI 2) (M 0 1 < 40))))) (cA := k 0) (len := 40) (g := mA (zu (zu (zu M 9 (M 0 1) i) 10 (M 0 1) kd) 11 (M 0 1) g) O 12) F hK hP hD hS (12) 0 (by omega) rfl rfl (i := nI (M 0 1)) (M 0 1) rfl hlt (by decide) (cM_urow 12 (by decide) (by decide) (by decide) (by decide) (by decide) _ _) dX3_open_87 (fun H locs hP hD hS => ?_)
        refine lv_aload_n hx hb dX3_open_88 rfl (lv_at hl 0 rfl) ?_
        refine z_get (C := RX3) (T := TX3) (N := 21) (ci := 3) (fs := mObj bd (zu (zu (zu (zu M 9 (M 0 1) i) 10 (M 0 1) kd) 11 (M 0 1) g) 12 (M 0 1) 0) (nI (x3 (zI 4 (nI i) ∧ zI 4 (nI kd)) (nI 0 ≤ (nI g) ∧ (nI g) ≤ nI 2) (M 0 1 < 40)))) (v := .ref (bd 13)) F hK hP hi3 rfl (0) 13 (by omega) cM_0 (by decide) rfl (by decide +kernel) dX3_open_89 ?_
        refine lv_aload_n hx hb dX3_open_92 rfl (lv_at hl 0 rfl) ?_
        refine z_get (C := RX3) (T := TX3) (N := 21) (ci := 3) (fs := mObj bd (zu (zu (zu (zu M 9 (M 0 1) i) 10 (M 0 1) kd) 11 (M 0 1) g) 12 (M 0 1) 0) (nI (x3 (zI 4 (nI i) ∧ zI 4 (nI kd)) (nI 0 ≤ (nI g) ∧ (nI g) ≤ nI 2) (M 0 1 < 40)))) (v := .int (nI (M 0 1))) F hK hP hi3 rfl (0) 17 (by omega) cM_0 (by decide) rfl (by decide +kernel) dX3_open_93 ?_
        refine lv_iconst (v := (-1)) hx hb dX3_open_96 (by decide) ?_
        refine z_iast (f' := (cM k bd (zu (zu (zu (zu (zu M 9 (M 0 1) i) 10 (M 0 1) kd) 11 (M 0 1) g) 12 (M 0 1) 0) 13 (M 0 1) 0) O (nI (x3 (zI 4 (nI i) ∧ zI 4 (nI kd)) (nI 0 ≤ (nI g) ∧ (nI g) ≤ nI 2) (M 0 1 < 40))))) (cA := k 0) (len := 40) (g := mA (zu (zu (zu (zu M 9 (M 0 1) i) 10 (M 0 1) kd) 11 (M 0 1) g) 12 (M 0 1) 0) O 13) F hK hP hD hS (13) 0 (by omega) rfl rfl (i := nI (M 0 1)) (M 0 1) rfl hlt (by decide) (cM_uhead _ 0) dX3_open_97 (fun H locs hP hD hS => ?_)
        refine lv_aload_n hx hb dX3_open_98 rfl (lv_at hl 0 rfl) ?_
        refine lv_dup hx hb dX3_open_99 rfl ?_
        refine z_get (C := RX3) (T := TX3) (N := 21) (ci := 3) (fs := mObj bd (zu (zu (zu (zu (zu M 9 (M 0 1) i) 10 (M 0 1) kd) 11 (M 0 1) g) 12 (M 0 1) 0) 13 (M 0 1) 0) (nI (x3 (zI 4 (nI i) ∧ zI 4 (nI kd)) (nI 0 ≤ (nI g) ∧ (nI g) ≤ nI 2) (M 0 1 < 40)))) (v := .int (nI (M 0 1))) F hK hP hi3 rfl (0) 17 (by omega) cM_0 (by decide) rfl (by decide +kernel) dX3_open_100 ?_
        refine lv_iconst (v := nI 1) hx hb dX3_open_103 (by decide) ?_
        refine z_add F dX3_open_104 ?_
        refine z_put (C := RX3) (T := TX3) (N := 21) (ci := 3) (fs := mObj bd (zu (zu (zu (zu (zu M 9 (M 0 1) i) 10 (M 0 1) kd) 11 (M 0 1) g) 12 (M 0 1) 0) 13 (M 0 1) 0) (nI (x3 (zI 4 (nI i) ∧ zI 4 (nI kd)) (nI 0 ≤ (nI g) ∧ (nI g) ≤ nI 2) (M 0 1 < 40)))) (f' := (cM k bd (zu (zu (zu (zu (zu (zu M 9 (M 0 1) i) 10 (M 0 1) kd) 11 (M 0 1) g) 12 (M 0 1) 0) 13 (M 0 1) 0) 0 1 ((M 0 1) + 1)) O (nI (x3 (zI 4 (nI i) ∧ zI 4 (nI kd)) (nI 0 ≤ (nI g) ∧ (nI g) ≤ nI 2) (M 0 1 < 40))))) F hK hP hD hS hi3 rfl tyX3 tyX3_ok nmX3 (0) 17 (by omega) cM_0 (by decide) (Nat.le_of_ble_eq_true rfl) (by decide +kernel) rfl rfl rfl rfl (cM_ucnt _) dX3_open_105 (fun H locs hP hD hS => ?_)
        refine lv_aload_n hx hb dX3_open_108 rfl (lv_at hl 0 rfl) ?_
        refine z_get (C := RX3) (T := TX3) (N := 21) (ci := 3) (fs := mObj bd (zu (zu (zu (zu (zu (zu M 9 (M 0 1) i) 10 (M 0 1) kd) 11 (M 0 1) g) 12 (M 0 1) 0) 13 (M 0 1) 0) 0 1 ((M 0 1) + 1)) (nI (x3 (zI 4 (nI i) ∧ zI 4 (nI kd)) (nI 0 ≤ (nI g) ∧ (nI g) ≤ nI 2) (M 0 1 < 40)))) (v := .int (nI ((M 0 1) + 1))) F hK hP hi3 rfl (0) 17 (by omega) cM_0 (by decide) rfl (by decide +kernel) dX3_open_109 ?_
        refine lv_iconst (v := nI 1) hx hb dX3_open_112 (by decide) ?_
        refine z_sub F (by omega) dX3_open_113 ?_
        have hx0 : (x3 (zI 4 (nI i) ∧ zI 4 (nI kd)) (nI 0 ≤ (nI g) ∧ (nI g) ≤ nI 2) (M 0 1 < 40)) = 0 := x3_0 c27.1 c27.2.1 c27.2.2
        have eW : cM k bd (if (x3 (zI 4 (nI i) ∧ zI 4 (nI kd)) (nI 0 ≤ (nI g) ∧ (nI g) ≤ nI 2) (M 0 1 < 40)) = 0 then (opM M (i) (kd) (g)) else M) O (nI ((x3 (zI 4 (nI i) ∧ zI 4 (nI kd)) (nI 0 ≤ (nI g) ∧ (nI g) ≤ nI 2) (M 0 1 < 40)))) = cM k bd (zu (zu (zu (zu (zu (zu M 9 (M 0 1) i) 10 (M 0 1) kd) 11 (M 0 1) g) 12 (M 0 1) 0) 13 (M 0 1) 0) 0 1 ((M 0 1) + 1)) O (nI (x3 (zI 4 (nI i) ∧ zI 4 (nI kd)) (nI 0 ≤ (nI g) ∧ (nI g) ≤ nI 2) (M 0 1 < 40))) := by rw [if_pos hx0, ← x3_id, opM_zu] <;> rfl
        rw [← eW] at hP hD
        refine W.widen (k := 0) (n := 0) (Nat.le_of_ble_eq_true rfl) (Nat.le_of_ble_eq_true rfl) ?_
        exact W.iret (v := nI (((M 0 1) + 1) - 1)) hx hb hr (fun t ht hW => ⟨⟨nI (((M 0 1) + 1) - 1), (), rfl, fun _ => (by rw [Nat.add_sub_cancel]), ⟨by rw [ht]; exact hP, va_K.moved hW.alike hK⟩, hD⟩, hS.F ht⟩) hS.2.2 dX3_open_114
      · refine lv_iconst (v := nI 0) hx hb dX3_open_46 (by decide) ?_
        have hx0 : (x3 (zI 4 p0 ∧ zI 4 p1) (nI 0 ≤ p2 ∧ p2 ≤ nI 2) (M 0 1 < 40)) ≠ 0 := x3_no (c27)
        have eW : cM k bd (if (x3 (zI 4 p0 ∧ zI 4 p1) (nI 0 ≤ p2 ∧ p2 ≤ nI 2) (M 0 1 < 40)) = 0 then (opM M (ix p0) (ix p1) (ix p2)) else M) O (nI ((x3 (zI 4 p0 ∧ zI 4 p1) (nI 0 ≤ p2 ∧ p2 ≤ nI 2) (M 0 1 < 40)))) = cM k bd M O (nI (x3 (zI 4 p0 ∧ zI 4 p1) (nI 0 ≤ p2 ∧ p2 ≤ nI 2) (M 0 1 < 40))) := by rw [if_neg hx0, ← x3_id] <;> rfl
        rw [← eW] at hP hD
        refine W.widen (k := 0) (n := 0) (Nat.le_of_ble_eq_true rfl) (Nat.le_of_ble_eq_true rfl) ?_
        exact W.iret (v := nI 0) hx hb hr (fun t ht hW => ⟨⟨nI 0, (), rfl, fun zz1 => absurd zz1 hx0, ⟨by rw [ht]; exact hP, va_K.moved hW.alike hK⟩, hD⟩, hS.F ht⟩) hS.2.2 dX3_open_47
  · refine lv_iload_n hx hb dX3_open_8 rfl (lv_at hl 2 rfl) ?_
    refine z_cS (As := [.int p1]) (rest := [.ref (bd 0)]) F (c_X3_isKind l p1) (va_cwS 1 hts gX3_open_X3_isKind rfl rfl rfl (by decide +kernel) ⟨Nat.le_of_ble_eq_true rfl, Nat.le_of_ble_eq_true rfl⟩) rfl hl.1 rfl (Nat.le_of_ble_eq_true rfl) dX3_open_9 ⟨Nat.le_of_ble_eq_true rfl, Nat.le_of_ble_eq_true rfl⟩ (fun r hr => ?_)
    subst hr
    refine z_ifb_eq (tgt := 19) F dX3_open_12 (by decide) (fun c28 => ?_) (fun c28 => ?_)
    · refine lv_iconst (v := nI 0) hx hb dX3_open_19 (by decide) ?_
      refine z_top (show nI 0 = bI (zI 4 p0 ∧ zI 4 p1) from (bI_f (fun zz1 => by have zz2 := zz1.2; first | exact c28 zz2 | omega)).symm) ?_
      refine lv_iload_n hx hb dX3_open_20 rfl (lv_at hl 3 rfl) ?_
      refine lv_iconst (v := nI 0) hx hb dX3_open_21 (by decide) ?_
      refine lv_iconst (v := nI 2) hx hb dX3_open_22 (by decide) ?_
      refine z_cS (As := [.int p2, .int (nI 0), .int (nI 2)]) (rest := [.int (bI (zI 4 p0 ∧ zI 4 p1)), .ref (bd 0)]) F (c_X3_in l p2 (nI 0) (nI 2)) (va_cwS 3 hts gX3_open_X3_in rfl rfl rfl (by decide +kernel) ⟨Nat.le_of_ble_eq_true rfl, Nat.le_of_ble_eq_true rfl⟩) rfl hl.1 rfl (Nat.le_of_ble_eq_true rfl) dX3_open_23 ⟨Nat.le_of_ble_eq_true rfl, Nat.le_of_ble_eq_true rfl⟩ (fun r hr => ?_)
      subst hr
      refine lv_aload_n hx hb dX3_open_26 rfl (lv_at hl 0 rfl) ?_
      refine z_get (C := RX3) (T := TX3) (N := 21) (ci := 3) (fs := mObj bd M th) (v := .int (nI (M 0 1))) F hK hP hi3 rfl (0) 17 (by omega) cM_0 (by decide) rfl (by decide +kernel) dX3_open_27 ?_
      refine lv_bipush (v := nI 40) hx hb dX3_open_30 (by decide) ?_
      refine z_icmp_ge (tgt := 39) F (by omega) (by omega) dX3_open_32 (by decide) (fun c29 => ?_) (fun c29 => ?_)
      · refine lv_iconst (v := nI 0) hx hb dX3_open_39 (by decide) ?_
        refine z_top (show nI 0 = bI (M 0 1 < 40) from (bI_f (fun zz1 => by have zz2 := zz1; first | exact c29 zz2 | omega)).symm) ?_
        refine z_mV (qc := (RX3, TX3, 21)) (As := [.int (bI (zI 4 p0 ∧ zI 4 p1)), .int (bI (nI 0 ≤ p2 ∧ p2 ≤ nI 2)), .int (bI (M 0 1 < 40))]) (rest := []) (0) F (c_X3_asked__ l D k bd M O th _ (zI 4 p0 ∧ zI 4 p1) (nI 0 ≤ p2 ∧ p2 ≤ nI 2) (M 0 1 < 40)) (cwV 3 hts gX3_open_X3_asked__ rfl rfl rfl (by decide +kernel) ⟨Nat.le_of_ble_eq_true rfl, Nat.le_of_ble_eq_true rfl⟩) hK hP hD hS hA (by omega) cM_0 rfl rfl hl.1 rfl (Nat.le_of_ble_eq_true rfl) dX3_open_40 ⟨Nat.le_of_ble_eq_true rfl, Nat.le_of_ble_eq_true rfl⟩ (fun r H locs hr0 hP hD hS => ?_)
        subst hr0
        refine z_ifb_ne (tgt := 48) F dX3_open_43 (by decide) (fun c30 => ?_) (fun c30 => ?_)
        · obtain ⟨i, hi, rfl⟩ := id (c30.1.1)
          try rw [ix_nI (show i < 2 ^ 31 by omega)]
          obtain ⟨kd, hkd, rfl⟩ := id (c30.1.2)
          try rw [ix_nI (show kd < 2 ^ 31 by omega)]
          obtain ⟨g, hg0, hg, rfl⟩ := (zB_iff (by omega) (by decide)).mp (c30.2.1)
          try rw [ix_nI (show g < 2 ^ 31 by omega)]
          have hlt := c30.2.2
          refine lv_aload_n hx hb dX3_open_48 rfl (lv_at hl 0 rfl) ?_
          refine z_get (C := RX3) (T := TX3) (N := 21) (ci := 3) (fs := mObj bd M (nI (x3 (zI 4 (nI i) ∧ zI 4 (nI kd)) (nI 0 ≤ (nI g) ∧ (nI g) ≤ nI 2) (M 0 1 < 40)))) (v := .ref (bd 9)) F hK hP hi3 rfl (0) 9 (by omega) cM_0 (by decide) rfl (by decide +kernel) dX3_open_49 ?_
          refine lv_aload_n hx hb dX3_open_52 rfl (lv_at hl 0 rfl) ?_
          refine z_get (C := RX3) (T := TX3) (N := 21) (ci := 3) (fs := mObj bd M (nI (x3 (zI 4 (nI i) ∧ zI 4 (nI kd)) (nI 0 ≤ (nI g) ∧ (nI g) ≤ nI 2) (M 0 1 < 40)))) (v := .int (nI (M 0 1))) F hK hP hi3 rfl (0) 17 (by omega) cM_0 (by decide) rfl (by decide +kernel) dX3_open_53 ?_
          refine lv_iload_n hx hb dX3_open_56 rfl (lv_at hl 1 rfl) ?_
          refine z_iast (f' := (cM k bd (zu M 9 (M 0 1) i) O (nI (x3 (zI 4 (nI i) ∧ zI 4 (nI kd)) (nI 0 ≤ (nI g) ∧ (nI g) ≤ nI 2) (M 0 1 < 40))))) (cA := k 0) (len := 40) (g := mA M O 9) F hK hP hD hS (9) 0 (by omega) rfl rfl (i := nI (M 0 1)) (M 0 1) rfl hlt (by decide) (cM_urow 9 (by decide) (by decide) (by decide) (by decide) (by decide) _ _) dX3_open_57 (fun H locs hP hD hS => ?_)
          refine lv_aload_n hx hb dX3_open_58 rfl (lv_at hl 0 rfl) ?_
          refine z_get (C := RX3) (T := TX3) (N := 21) (ci := 3) (fs := mObj bd (zu M 9 (M 0 1) i) (nI (x3 (zI 4 (nI i) ∧ zI 4 (nI kd)) (nI 0 ≤ (nI g) ∧ (nI g) ≤ nI 2) (M 0 1 < 40)))) (v := .ref (bd 10)) F hK hP hi3 rfl (0) 10 (by omega) cM_0 (by decide) rfl (by decide +kernel) dX3_open_59 ?_
          refine lv_aload_n hx hb dX3_open_62 rfl (lv_at hl 0 rfl) ?_
          refine z_get (C := RX3) (T := TX3) (N := 21) (ci := 3) (fs := mObj bd (zu M 9 (M 0 1) i) (nI (x3 (zI 4 (nI i) ∧ zI 4 (nI kd)) (nI 0 ≤ (nI g) ∧ (nI g) ≤ nI 2) (M 0 1 < 40)))) (v := .int (nI (M 0 1))) F hK hP hi3 rfl (0) 17 (by omega) cM_0 (by decide) rfl (by decide +kernel) dX3_open_63 ?_
          refine lv_iload_n hx hb dX3_open_66 rfl (lv_at hl 2 rfl) ?_
          refine z_iast (f' := (cM k bd (zu (zu M 9 (M 0 1) i) 10 (M 0 1) kd) O (nI (x3 (zI 4 (nI i) ∧ zI 4 (nI kd)) (nI 0 ≤ (nI g) ∧ (nI g) ≤ nI 2) (M 0 1 < 40))))) (cA := k 0) (len := 40) (g := mA (zu M 9 (M 0 1) i) O 10) F hK hP hD hS (10) 0 (by omega) rfl rfl (i := nI (M 0 1)) (M 0 1) rfl hlt (by decide) (cM_urow 10 (by decide) (by decide) (by decide) (by decide) (by decide) _ _) dX3_open_67 (fun H locs hP hD hS => ?_)
          refine lv_aload_n hx hb dX3_open_68 rfl (lv_at hl 0 rfl) ?_
          refine z_get (C := RX3) (T := TX3) (N := 21) (ci := 3) (fs := mObj bd (zu (zu M 9 (M 0 1) i) 10 (M 0 1) kd) (nI (x3 (zI 4 (nI i) ∧ zI 4 (nI kd)) (nI 0 ≤ (nI g) ∧ (nI g) ≤ nI 2) (M 0 1 < 40)))) (v := .ref (bd 11)) F hK hP hi3 rfl (0) 11 (by omega) cM_0 (by decide) rfl (by decide +kernel) dX3_open_69 ?_
          refine lv_aload_n hx hb dX3_open_72 rfl (lv_at hl 0 rfl) ?_
          refine z_get (C := RX3) (T := TX3) (N := 21) (ci := 3) (fs := mObj bd (zu (zu M 9 (M 0 1) i) 10 (M 0 1) kd) (nI (x3 (zI 4 (nI i) ∧ zI 4 (nI kd)) (nI 0 ≤ (nI g) ∧ (nI g) ≤ nI 2) (M 0 1 < 40)))) (v := .int (nI (M 0 1))) F hK hP hi3 rfl (0) 17 (by omega) cM_0 (by decide) rfl (by decide +kernel) dX3_open_73 ?_
          refine lv_iload_n hx hb dX3_open_76 rfl (lv_at hl 3 rfl) ?_
          refine z_iast (f' := (cM k bd (zu (zu (zu M 9 (M 0 1) i) 10 (M 0 1) kd) 11 (M 0 1) g) O (nI (x3 (zI 4 (nI i) ∧ zI 4 (nI kd)) (nI 0 ≤ (nI g) ∧ (nI g) ≤ nI 2) (M 0 1 < 40))))) (cA := k 0) (len := 40) (g := mA (zu (zu M 9 (M 0 1) i) 10 (M 0 1) kd) O 11) F hK hP hD hS (11) 0 (by omega) rfl rfl (i := nI (M 0 1)) (M 0 1) rfl hlt (by decide) (cM_urow 11 (by decide) (by decide) (by decide) (by decide) (by decide) _ _) dX3_open_77 (fun H locs hP hD hS => ?_)
          refine lv_aload_n hx hb dX3_open_78 rfl (lv_at hl 0 rfl) ?_
          refine z_get (C := RX3) (T := TX3) (N := 21) (ci := 3) (fs := mObj bd (zu (zu (zu M 9 (M 0 1) i) 10 (M 0 1) kd) 11 (M 0 1) g) (nI (x3 (zI 4 (nI i) ∧ zI 4 (nI kd)) (nI 0 ≤ (nI g) ∧ (nI g) ≤ nI 2) (M 0 1 < 40)))) (v := .ref (bd 12)) F hK hP hi3 rfl (0) 12 (by omega) cM_0 (by decide) rfl (by decide +kernel) dX3_open_79 ?_
          refine lv_aload_n hx hb dX3_open_82 rfl (lv_at hl 0 rfl) ?_
          refine z_get (C := RX3) (T := TX3) (N := 21) (ci := 3) (fs := mObj bd (zu (zu (zu M 9 (M 0 1) i) 10 (M 0 1) kd) 11 (M 0 1) g) (nI (x3 (zI 4 (nI i) ∧ zI 4 (nI kd)) (nI 0 ≤ (nI g) ∧ (nI g) ≤ nI 2) (M 0 1 < 40)))) (v := .int (nI (M 0 1))) F hK hP hi3 rfl (0) 17 (by omega) cM_0 (by decide) rfl (by decide +kernel) dX3_open_83 ?_
          refine lv_iconst (v := nI 0) hx hb dX3_open_86 (by decide) ?_
          refine z_iast (f' := (cM k bd (zu (zu (zu (zu M 9 (M 0 1) i) 10 (M 0 1) kd) 11 (M 0 1) g) 12 (M 0 1) 0) O (nI (x3 (zI 4 (nI i) ∧ zI 4 (nI kd)) (nI 0 ≤ (nI g) ∧ (nI g) ≤ nI 2) (M 0 1 < 40))))) (cA := k 0) (len := 40) (g := mA (zu (zu (zu M 9 (M 0 1) i) 10 (M 0 1) kd) 11 (M 0 1) g) O 12) F hK hP hD hS (12) 0 (by omega) rfl rfl (i := nI (M 0 1)) (M 0 1) rfl hlt (by decide) (cM_urow 12 (by decide) (by decide) (by decide) (by decide) (by decide) _ _) dX3_open_87 (fun H locs hP hD hS => ?_)
          refine lv_aload_n hx hb dX3_open_88 rfl (lv_at hl 0 rfl) ?_
          refine z_get (C := RX3) (T := TX3) (N := 21) (ci := 3) (fs := mObj bd (zu (zu (zu (zu M 9 (M 0 1) i) 10 (M 0 1) kd) 11 (M 0 1) g) 12 (M 0 1) 0) (nI (x3 (zI 4 (nI i) ∧ zI 4 (nI kd)) (nI 0 ≤ (nI g) ∧ (nI g) ≤ nI 2) (M 0 1 < 40)))) (v := .ref (bd 13)) F hK hP hi3 rfl (0) 13 (by omega) cM_0 (by decide) rfl (by decide +kernel) dX3_open_89 ?_
          refine lv_aload_n hx hb dX3_open_92 rfl (lv_at hl 0 rfl) ?_
          refine z_get (C := RX3) (T := TX3) (N := 21) (ci := 3) (fs := mObj bd (zu (zu (zu (zu M 9 (M 0 1) i) 10 (M 0 1) kd) 11 (M 0 1) g) 12 (M 0 1) 0) (nI (x3 (zI 4 (nI i) ∧ zI 4 (nI kd)) (nI 0 ≤ (nI g) ∧ (nI g) ≤ nI 2) (M 0 1 < 40)))) (v := .int (nI (M 0 1))) F hK hP hi3 rfl (0) 17 (by omega) cM_0 (by decide) rfl (by decide +kernel) dX3_open_93 ?_
          refine lv_iconst (v := (-1)) hx hb dX3_open_96 (by decide) ?_
          refine z_iast (f' := (cM k bd (zu (zu (zu (zu (zu M 9 (M 0 1) i) 10 (M 0 1) kd) 11 (M 0 1) g) 12 (M 0 1) 0) 13 (M 0 1) 0) O (nI (x3 (zI 4 (nI i) ∧ zI 4 (nI kd)) (nI 0 ≤ (nI g) ∧ (nI g) ≤ nI 2) (M 0 1 < 40))))) (cA := k 0) (len := 40) (g := mA (zu (zu (zu (zu M 9 (M 0 1) i) 10 (M 0 1) kd) 11 (M 0 1) g) 12 (M 0 1) 0) O 13) F hK hP hD hS (13) 0 (by omega) rfl rfl (i := nI (M 0 1)) (M 0 1) rfl hlt (by decide) (cM_uhead _ 0) dX3_open_97 (fun H locs hP hD hS => ?_)
          refine lv_aload_n hx hb dX3_open_98 rfl (lv_at hl 0 rfl) ?_
          refine lv_dup hx hb dX3_open_99 rfl ?_
          refine z_get (C := RX3) (T := TX3) (N := 21) (ci := 3) (fs := mObj bd (zu (zu (zu (zu (zu M 9 (M 0 1) i) 10 (M 0 1) kd) 11 (M 0 1) g) 12 (M 0 1) 0) 13 (M 0 1) 0) (nI (x3 (zI 4 (nI i) ∧ zI 4 (nI kd)) (nI 0 ≤ (nI g) ∧ (nI g) ≤ nI 2) (M 0 1 < 40)))) (v := .int (nI (M 0 1))) F hK hP hi3 rfl (0) 17 (by omega) cM_0 (by decide) rfl (by decide +kernel) dX3_open_100 ?_
          refine lv_iconst (v := nI 1) hx hb dX3_open_103 (by decide) ?_
          refine z_add F dX3_open_104 ?_
          refine z_put (C := RX3) (T := TX3) (N := 21) (ci := 3) (fs := mObj bd (zu (zu (zu (zu (zu M 9 (M 0 1) i) 10 (M 0 1) kd) 11 (M 0 1) g) 12 (M 0 1) 0) 13 (M 0 1) 0) (nI (x3 (zI 4 (nI i) ∧ zI 4 (nI kd)) (nI 0 ≤ (nI g) ∧ (nI g) ≤ nI 2) (M 0 1 < 40)))) (f' := (cM k bd (zu (zu (zu (zu (zu (zu M 9 (M 0 1) i) 10 (M 0 1) kd) 11 (M 0 1) g) 12 (M 0 1) 0) 13 (M 0 1) 0) 0 1 ((M 0 1) + 1)) O (nI (x3 (zI 4 (nI i) ∧ zI 4 (nI kd)) (nI 0 ≤ (nI g) ∧ (nI g) ≤ nI 2) (M 0 1 < 40))))) F hK hP hD hS hi3 rfl tyX3 tyX3_ok nmX3 (0) 17 (by omega) cM_0 (by decide) (Nat.le_of_ble_eq_true rfl) (by decide +kernel) rfl rfl rfl rfl (cM_ucnt _) dX3_open_105 (fun H locs hP hD hS => ?_)
          refine lv_aload_n hx hb dX3_open_108 rfl (lv_at hl 0 rfl) ?_
          refine z_get (C := RX3) (T := TX3) (N := 21) (ci := 3) (fs := mObj bd (zu (zu (zu (zu (zu (zu M 9 (M 0 1) i) 10 (M 0 1) kd) 11 (M 0 1) g) 12 (M 0 1) 0) 13 (M 0 1) 0) 0 1 ((M 0 1) + 1)) (nI (x3 (zI 4 (nI i) ∧ zI 4 (nI kd)) (nI 0 ≤ (nI g) ∧ (nI g) ≤ nI 2) (M 0 1 < 40)))) (v := .int (nI ((M 0 1) + 1))) F hK hP hi3 rfl (0) 17 (by omega) cM_0 (by decide) rfl (by decide +kernel) dX3_open_109 ?_
          refine lv_iconst (v := nI 1) hx hb dX3_open_112 (by decide) ?_
          refine z_sub F (by omega) dX3_open_113 ?_
          have hx0 : (x3 (zI 4 (nI i) ∧ zI 4 (nI kd)) (nI 0 ≤ (nI g) ∧ (nI g) ≤ nI 2) (M 0 1 < 40)) = 0 := x3_0 c30.1 c30.2.1 c30.2.2
          have eW : cM k bd (if (x3 (zI 4 (nI i) ∧ zI 4 (nI kd)) (nI 0 ≤ (nI g) ∧ (nI g) ≤ nI 2) (M 0 1 < 40)) = 0 then (opM M (i) (kd) (g)) else M) O (nI ((x3 (zI 4 (nI i) ∧ zI 4 (nI kd)) (nI 0 ≤ (nI g) ∧ (nI g) ≤ nI 2) (M 0 1 < 40)))) = cM k bd (zu (zu (zu (zu (zu (zu M 9 (M 0 1) i) 10 (M 0 1) kd) 11 (M 0 1) g) 12 (M 0 1) 0) 13 (M 0 1) 0) 0 1 ((M 0 1) + 1)) O (nI (x3 (zI 4 (nI i) ∧ zI 4 (nI kd)) (nI 0 ≤ (nI g) ∧ (nI g) ≤ nI 2) (M 0 1 < 40))) := by rw [if_pos hx0, ← x3_id, opM_zu] <;> rfl
          rw [← eW] at hP hD
          refine W.widen (k := 0) (n := 0) (Nat.le_of_ble_eq_true rfl) (Nat.le_of_ble_eq_true rfl) ?_
          exact W.iret (v := nI (((M 0 1) + 1) - 1)) hx hb hr (fun t ht hW => ⟨⟨nI (((M 0 1) + 1) - 1), (), rfl, fun _ => (by rw [Nat.add_sub_cancel]), ⟨by rw [ht]; exact hP, va_K.moved hW.alike hK⟩, hD⟩, hS.F ht⟩) hS.2.2 dX3_open_114
        · refine lv_iconst (v := nI 0) hx hb dX3_open_46 (by decide) ?_
          have hx0 : (x3 (zI 4 p0 ∧ zI 4 p1) (nI 0 ≤ p2 ∧ p2 ≤ nI 2) (M 0 1 < 40)) ≠ 0 := x3_no (c30)
          have eW : cM k bd (if (x3 (zI 4 p0 ∧ zI 4 p1) (nI 0 ≤ p2 ∧ p2 ≤ nI 2) (M 0 1 < 40)) = 0 then (opM M (ix p0) (ix p1) (ix p2)) else M) O (nI ((x3 (zI 4 p0 ∧ zI 4 p1) (nI 0 ≤ p2 ∧ p2 ≤ nI 2) (M 0 1 < 40)))) = cM k bd M O (nI (x3 (zI 4 p0 ∧ zI 4 p1) (nI 0 ≤ p2 ∧ p2 ≤ nI 2) (M 0 1 < 40))) := by rw [if_neg hx0, ← x3_id] <;> rfl
          rw [← eW] at hP hD
          refine W.widen (k := 0) (n := 0) (Nat.le_of_ble_eq_true rfl) (Nat.le_of_ble_eq_true rfl) ?_
          exact W.iret (v := nI 0) hx hb hr (fun t ht hW => ⟨⟨nI 0, (), rfl, fun zz1 => absurd zz1 hx0, ⟨by rw [ht]; exact hP, va_K.moved hW.alike hK⟩, hD⟩, hS.F ht⟩) hS.2.2 dX3_open_47
      · refine lv_iconst (v := nI 1) hx hb dX3_open_35 (by decide) ?_
        refine lv_goto (tgt := 40) hx hb dX3_open_36 (by decide) ?_
        refine z_top (show nI 1 = bI (M 0 1 < 40) from (bI_t c29).symm) ?_
        refine z_mV (qc := (RX3, TX3, 21)) (As := [.int (bI (zI 4 p0 ∧ zI 4 p1)), .int (bI (nI 0 ≤ p2 ∧ p2 ≤ nI 2)), .int (bI (M 0 1 < 40))]) (rest := []) (0) F (c_X3_asked__ l D k bd M O th _ (zI 4 p0 ∧ zI 4 p1) (nI 0 ≤ p2 ∧ p2 ≤ nI 2) (M 0 1 < 40)) (cwV 3 hts gX3_open_X3_asked__ rfl rfl rfl (by decide +kernel) ⟨Nat.le_of_ble_eq_true rfl, Nat.le_of_ble_eq_true rfl⟩) hK hP hD hS hA (by omega) cM_0 rfl rfl hl.1 rfl (Nat.le_of_ble_eq_true rfl) dX3_open_40 ⟨Nat.le_of_ble_eq_true rfl, Nat.le_of_ble_eq_true rfl⟩ (fun r H locs hr0 hP hD hS => ?_)
        subst hr0
        refine z_ifb_ne (tgt := 48) F dX3_open_43 (by decide) (fun c31 => ?_) (fun c31 => ?_)
        · obtain ⟨i, hi, rfl⟩ := id (c31.1.1)
          try rw [ix_nI (show i < 2 ^ 31 by omega)]
          obtain ⟨kd, hkd, rfl⟩ := id (c31.1.2)
          try rw [ix_nI (show kd < 2 ^ 31 by omega)]
          obtain ⟨g, hg0, hg, rfl⟩ := (zB_iff (by omega) (by decide)).mp (c31.2.1)
          try rw [ix_nI (show g < 2 ^ 31 by omega)]
          have hlt := c31.2.2
          refine lv_aload_n hx hb dX3_open_48 rfl (lv_at hl 0 rfl) ?_
          refine z_get (C := RX3) (T := TX3) (N := 21) (ci := 3) (fs := mObj bd M (nI (x3 (zI 4 (nI i) ∧ zI 4 (nI kd)) (nI 0 ≤ (nI g) ∧ (nI g) ≤ nI 2) (M 0 1 < 40)))) (v := .ref (bd 9)) F hK hP hi3 rfl (0) 9 (by omega) cM_0 (by decide) rfl (by decide +kernel) dX3_open_49 ?_
          refine lv_aload_n hx hb dX3_open_52 rfl (lv_at hl 0 rfl) ?_
          refine z_get (C := RX3) (T := TX3) (N := 21) (ci := 3) (fs := mObj bd M (nI (x3 (zI 4 (nI i) ∧ zI 4 (nI kd)) (nI 0 ≤ (nI g) ∧ (nI g) ≤ nI 2) (M 0 1 < 40)))) (v := .int (nI (M 0 1))) F hK hP hi3 rfl (0) 17 (by omega) cM_0 (by decide) rfl (by decide +kernel) dX3_open_53 ?_
          refine lv_iload_n hx hb dX3_open_56 rfl (lv_at hl 1 rfl) ?_
          refine z_iast (f' := (cM k bd (zu M 9 (M 0 1) i) O (nI (x3 (zI 4 (nI i) ∧ zI 4 (nI kd)) (nI 0 ≤ (nI g) ∧ (nI g) ≤ nI 2) (M 0 1 < 40))))) (cA := k 0) (len := 40) (g := mA M O 9) F hK hP hD hS (9) 0 (by omega) rfl rfl (i := nI (M 0 1)) (M 0 1) rfl hlt (by decide) (cM_urow 9 (by decide) (by decide) (by decide) (by decide) (by decide) _ _) dX3_open_57 (fun H locs hP hD hS => ?_)
          refine lv_aload_n hx hb dX3_open_58 rfl (lv_at hl 0 rfl) ?_
          refine z_get (C := RX3) (T := TX3) (N := 21) (ci := 3) (fs := mObj bd (zu M 9 (M 0 1) i) (nI (x3 (zI 4 (nI i) ∧ zI 4 (nI kd)) (nI 0 ≤ (nI g) ∧ (nI g) ≤ nI 2) (M 0 1 < 40)))) (v := .ref (bd 10)) F hK hP hi3 rfl (0) 10 (by omega) cM_0 (by decide) rfl (by decide +kernel) dX3_open_59 ?_
          refine lv_aload_n hx hb dX3_open_62 rfl (lv_at hl 0 rfl) ?_
          refine z_get (C := RX3) (T := TX3) (N := 21) (ci := 3) (fs := mObj bd (zu M 9 (M 0 1) i) (nI (x3 (zI 4 (nI i) ∧ zI 4 (nI kd)) (nI 0 ≤ (nI g) ∧ (nI g) ≤ nI 2) (M 0 1 < 40)))) (v := .int (nI (M 0 1))) F hK hP hi3 rfl (0) 17 (by omega) cM_0 (by decide) rfl (by decide +kernel) dX3_open_63 ?_
          refine lv_iload_n hx hb dX3_open_66 rfl (lv_at hl 2 rfl) ?_
          refine z_iast (f' := (cM k bd (zu (zu M 9 (M 0 1) i) 10 (M 0 1) kd) O (nI (x3 (zI 4 (nI i) ∧ zI 4 (nI kd)) (nI 0 ≤ (nI g) ∧ (nI g) ≤ nI 2) (M 0 1 < 40))))) (cA := k 0) (len := 40) (g := mA (zu M 9 (M 0 1) i) O 10) F hK hP hD hS (10) 0 (by omega) rfl rfl (i := nI (M 0 1)) (M 0 1) rfl hlt (by decide) (cM_urow 10 (by decide) (by decide) (by decide) (by decide) (by decide) _ _) dX3_open_67 (fun H locs hP hD hS => ?_)
          refine lv_aload_n hx hb dX3_open_68 rfl (lv_at hl 0 rfl) ?_
          refine z_get (C := RX3) (T := TX3) (N := 21) (ci := 3) (fs := mObj bd (zu (zu M 9 (M 0 1) i) 10 (M 0 1) kd) (nI (x3 (zI 4 (nI i) ∧ zI 4 (nI kd)) (nI 0 ≤ (nI g) ∧ (nI g) ≤ nI 2) (M 0 1 < 40)))) (v := .ref (bd 11)) F hK hP hi3 rfl (0) 11 (by omega) cM_0 (by decide) rfl (by decide +kernel) dX3_open_69 ?_
          refine lv_aload_n hx hb dX3_open_72 rfl (lv_at hl 0 rfl) ?_
          refine z_get (C := RX3) (T := TX3) (N := 21) (ci := 3) (fs := mObj bd (zu (zu M 9 (M 0 1) i) 10 (M 0 1) kd) (nI (x3 (zI 4 (nI i) ∧ zI 4 (nI kd)) (nI 0 ≤ (nI g) ∧ (nI g) ≤ nI 2) (M 0 1 < 40)))) (v := .int (nI (M 0 1))) F hK hP hi3 rfl (0) 17 (by omega) cM_0 (by decide) rfl (by decide +kernel) dX3_open_73 ?_
          refine lv_iload_n hx hb dX3_open_76 rfl (lv_at hl 3 rfl) ?_
          refine z_iast (f' := (cM k bd (zu (zu (zu M 9 (M 0 1) i) 10 (M 0 1) kd) 11 (M 0 1) g) O (nI (x3 (zI 4 (nI i) ∧ zI 4 (nI kd)) (nI 0 ≤ (nI g) ∧ (nI g) ≤ nI 2) (M 0 1 < 40))))) (cA := k 0) (len := 40) (g := mA (zu (zu M 9 (M 0 1) i) 10 (M 0 1) kd) O 11) F hK hP hD hS (11) 0 (by omega) rfl rfl (i := nI (M 0 1)) (M 0 1) rfl hlt (by decide) (cM_urow 11 (by decide) (by decide) (by decide) (by decide) (by decide) _ _) dX3_open_77 (fun H locs hP hD hS => ?_)
          refine lv_aload_n hx hb dX3_open_78 rfl (lv_at hl 0 rfl) ?_
          refine z_get (C := RX3) (T := TX3) (N := 21) (ci := 3) (fs := mObj bd (zu (zu (zu M 9 (M 0 1) i) 10 (M 0 1) kd) 11 (M 0 1) g) (nI (x3 (zI 4 (nI i) ∧ zI 4 (nI kd)) (nI 0 ≤ (nI g) ∧ (nI g) ≤ nI 2) (M 0 1 < 40)))) (v := .ref (bd 12)) F hK hP hi3 rfl (0) 12 (by omega) cM_0 (by decide) rfl (by decide +kernel) dX3_open_79 ?_
          refine lv_aload_n hx hb dX3_open_82 rfl (lv_at hl 0 rfl) ?_
          refine z_get (C := RX3) (T := TX3) (N := 21) (ci := 3) (fs := mObj bd (zu (zu (zu M 9 (M 0 1) i) 10 (M 0 1) kd) 11 (M 0 1) g) (nI (x3 (zI 4 (nI i) ∧ zI 4 (nI kd)) (nI 0 ≤ (nI g) ∧ (nI g) ≤ nI 2) (M 0 1 < 40)))) (v := .int (nI (M 0 1))) F hK hP hi3 rfl (0) 17 (by omega) cM_0 (by decide) rfl (by decide +kernel) dX3_open_83 ?_
          refine lv_iconst (v := nI 0) hx hb dX3_open_86 (by decide) ?_
          refine z_iast (f' := (cM k bd (zu (zu (zu (zu M 9 (M 0 1) i) 10 (M 0 1) kd) 11 (M 0 1) g) 12 (M 0 1) 0) O (nI (x3 (zI 4 (nI i) ∧ zI 4 (nI kd)) (nI 0 ≤ (nI g) ∧ (nI g) ≤ nI 2) (M 0 1 < 40))))) (cA := k 0) (len := 40) (g := mA (zu (zu (zu M 9 (M 0 1) i) 10 (M 0 1) kd) 11 (M 0 1) g) O 12) F hK hP hD hS (12) 0 (by omega) rfl rfl (i := nI (M 0 1)) (M 0 1) rfl hlt (by decide) (cM_urow 12 (by decide) (by decide) (by decide) (by decide) (by decide) _ _) dX3_open_87 (fun H locs hP hD hS => ?_)
          refine lv_aload_n hx hb dX3_open_88 rfl (lv_at hl 0 rfl) ?_
          refine z_get (C := RX3) (T := TX3) (N := 21) (ci := 3) (fs := mObj bd (zu (zu (zu (zu M 9 (M 0 1) i) 10 (M 0 1) kd) 11 (M 0 1) g) 12 (M 0 1) 0) (nI (x3 (zI 4 (nI i) ∧ zI 4 (nI kd)) (nI 0 ≤ (nI g) ∧ (nI g) ≤ nI 2) (M 0 1 < 40)))) (v := .ref (bd 13)) F hK hP hi3 rfl (0) 13 (by omega) cM_0 (by decide) rfl (by decide +kernel) dX3_open_89 ?_
          refine lv_aload_n hx hb dX3_open_92 rfl (lv_at hl 0 rfl) ?_
          refine z_get (C := RX3) (T := TX3) (N := 21) (ci := 3) (fs := mObj bd (zu (zu (zu (zu M 9 (M 0 1) i) 10 (M 0 1) kd) 11 (M 0 1) g) 12 (M 0 1) 0) (nI (x3 (zI 4 (nI i) ∧ zI 4 (nI kd)) (nI 0 ≤ (nI g) ∧ (nI g) ≤ nI 2) (M 0 1 < 40)))) (v := .int (nI (M 0 1))) F hK hP hi3 rfl (0) 17 (by omega) cM_0 (by decide) rfl (by decide +kernel) dX3_open_93 ?_
          refine lv_iconst (v := (-1)) hx hb dX3_open_96 (by decide) ?_
          refine z_iast (f' := (cM k bd (zu (zu (zu (zu (zu M 9 (M 0 1) i) 10 (M 0 1) kd) 11 (M 0 1) g) 12 (M 0 1) 0) 13 (M 0 1) 0) O (nI (x3 (zI 4 (nI i) ∧ zI 4 (nI kd)) (nI 0 ≤ (nI g) ∧ (nI g) ≤ nI 2) (M 0 1 < 40))))) (cA := k 0) (len := 40) (g := mA (zu (zu (zu (zu M 9 (M 0 1) i) 10 (M 0 1) kd) 11 (M 0 1) g) 12 (M 0 1) 0) O 13) F hK hP hD hS (13) 0 (by omega) rfl rfl (i := nI (M 0 1)) (M 0 1) rfl hlt (by decide) (cM_uhead _ 0) dX3_open_97 (fun H locs hP hD hS => ?_)
          refine lv_aload_n hx hb dX3_open_98 rfl (lv_at hl 0 rfl) ?_
          refine lv_dup hx hb dX3_open_99 rfl ?_
          refine z_get (C := RX3) (T := TX3) (N := 21) (ci := 3) (fs := mObj bd (zu (zu (zu (zu (zu M 9 (M 0 1) i) 10 (M 0 1) kd) 11 (M 0 1) g) 12 (M 0 1) 0) 13 (M 0 1) 0) (nI (x3 (zI 4 (nI i) ∧ zI 4 (nI kd)) (nI 0 ≤ (nI g) ∧ (nI g) ≤ nI 2) (M 0 1 < 40)))) (v := .int (nI (M 0 1))) F hK hP hi3 rfl (0) 17 (by omega) cM_0 (by decide) rfl (by decide +kernel) dX3_open_100 ?_
          refine lv_iconst (v := nI 1) hx hb dX3_open_103 (by decide) ?_
          refine z_add F dX3_open_104 ?_
          refine z_put (C := RX3) (T := TX3) (N := 21) (ci := 3) (fs := mObj bd (zu (zu (zu (zu (zu M 9 (M 0 1) i) 10 (M 0 1) kd) 11 (M 0 1) g) 12 (M 0 1) 0) 13 (M 0 1) 0) (nI (x3 (zI 4 (nI i) ∧ zI 4 (nI kd)) (nI 0 ≤ (nI g) ∧ (nI g) ≤ nI 2) (M 0 1 < 40)))) (f' := (cM k bd (zu (zu (zu (zu (zu (zu M 9 (M 0 1) i) 10 (M 0 1) kd) 11 (M 0 1) g) 12 (M 0 1) 0) 13 (M 0 1) 0) 0 1 ((M 0 1) + 1)) O (nI (x3 (zI 4 (nI i) ∧ zI 4 (nI kd)) (nI 0 ≤ (nI g) ∧ (nI g) ≤ nI 2) (M 0 1 < 40))))) F hK hP hD hS hi3 rfl tyX3 tyX3_ok nmX3 (0) 17 (by omega) cM_0 (by decide) (Nat.le_of_ble_eq_true rfl) (by decide +kernel) rfl rfl rfl rfl (cM_ucnt _) dX3_open_105 (fun H locs hP hD hS => ?_)
          refine lv_aload_n hx hb dX3_open_108 rfl (lv_at hl 0 rfl) ?_
          refine z_get (C := RX3) (T := TX3) (N := 21) (ci := 3) (fs := mObj bd (zu (zu (zu (zu (zu (zu M 9 (M 0 1) i) 10 (M 0 1) kd) 11 (M 0 1) g) 12 (M 0 1) 0) 13 (M 0 1) 0) 0 1 ((M 0 1) + 1)) (nI (x3 (zI 4 (nI i) ∧ zI 4 (nI kd)) (nI 0 ≤ (nI g) ∧ (nI g) ≤ nI 2) (M 0 1 < 40)))) (v := .int (nI ((M 0 1) + 1))) F hK hP hi3 rfl (0) 17 (by omega) cM_0 (by decide) rfl (by decide +kernel) dX3_open_109 ?_
          refine lv_iconst (v := nI 1) hx hb dX3_open_112 (by decide) ?_
          refine z_sub F (by omega) dX3_open_113 ?_
          have hx0 : (x3 (zI 4 (nI i) ∧ zI 4 (nI kd)) (nI 0 ≤ (nI g) ∧ (nI g) ≤ nI 2) (M 0 1 < 40)) = 0 := x3_0 c31.1 c31.2.1 c31.2.2
          have eW : cM k bd (if (x3 (zI 4 (nI i) ∧ zI 4 (nI kd)) (nI 0 ≤ (nI g) ∧ (nI g) ≤ nI 2) (M 0 1 < 40)) = 0 then (opM M (i) (kd) (g)) else M) O (nI ((x3 (zI 4 (nI i) ∧ zI 4 (nI kd)) (nI 0 ≤ (nI g) ∧ (nI g) ≤ nI 2) (M 0 1 < 40)))) = cM k bd (zu (zu (zu (zu (zu (zu M 9 (M 0 1) i) 10 (M 0 1) kd) 11 (M 0 1) g) 12 (M 0 1) 0) 13 (M 0 1) 0) 0 1 ((M 0 1) + 1)) O (nI (x3 (zI 4 (nI i) ∧ zI 4 (nI kd)) (nI 0 ≤ (nI g) ∧ (nI g) ≤ nI 2) (M 0 1 < 40))) := by rw [if_pos hx0, ← x3_id, opM_zu] <;> rfl
          rw [← eW] at hP hD
          refine W.widen (k := 0) (n := 0) (Nat.le_of_ble_eq_true rfl) (Nat.le_of_ble_eq_true rfl) ?_
          exact W.iret (v := nI (((M 0 1) + 1) - 1)) hx hb hr (fun t ht hW => ⟨⟨nI (((M 0 1) + 1) - 1), (), rfl, fun _ => (by rw [Nat.add_sub_cancel]), ⟨by rw [ht]; exact hP, va_K.moved hW.alike hK⟩, hD⟩, hS.F ht⟩) hS.2.2 dX3_open_114
        · refine lv_iconst (v := nI 0) hx hb dX3_open_46 (by decide) ?_
          have hx0 : (x3 (zI 4 p0 ∧ zI 4 p1) (nI 0 ≤ p2 ∧ p2 ≤ nI 2) (M 0 1 < 40)) ≠ 0 := x3_no (c31)
          have eW : cM k bd (if (x3 (zI 4 p0 ∧ zI 4 p1) (nI 0 ≤ p2 ∧ p2 ≤ nI 2) (M 0 1 < 40)) = 0 then (opM M (ix p0) (ix p1) (ix p2)) else M) O (nI ((x3 (zI 4 p0 ∧ zI 4 p1) (nI 0 ≤ p2 ∧ p2 ≤ nI 2) (M 0 1 < 40)))) = cM k bd M O (nI (x3 (zI 4 p0 ∧ zI 4 p1) (nI 0 ≤ p2 ∧ p2 ≤ nI 2) (M 0 1 < 40))) := by rw [if_neg hx0, ← x3_id] <;> rfl
          rw [← eW] at hP hD
          refine W.widen (k := 0) (n := 0) (Nat.le_of_ble_eq_true rfl) (Nat.le_of_ble_eq_true rfl) ?_
          exact W.iret (v := nI 0) hx hb hr (fun t ht hW => ⟨⟨nI 0, (), rfl, fun zz1 => absurd zz1 hx0, ⟨by rw [ht]; exact hP, va_K.moved hW.alike hK⟩, hD⟩, hS.F ht⟩) hS.2.2 dX3_open_47
    · refine lv_iconst (v := nI 1) hx hb dX3_open_15 (by decide) ?_
      refine lv_goto (tgt := 20) hx hb dX3_open_16 (by decide) ?_
      refine z_top (show nI 1 = bI (zI 4 p0 ∧ zI 4 p1) from (bI_t ⟨c24, c28⟩).symm) ?_
      refine lv_iload_n hx hb dX3_open_20 rfl (lv_at hl 3 rfl) ?_
      refine lv_iconst (v := nI 0) hx hb dX3_open_21 (by decide) ?_
      refine lv_iconst (v := nI 2) hx hb dX3_open_22 (by decide) ?_
      refine z_cS (As := [.int p2, .int (nI 0), .int (nI 2)]) (rest := [.int (bI (zI 4 p0 ∧ zI 4 p1)), .ref (bd 0)]) F (c_X3_in l p2 (nI 0) (nI 2)) (va_cwS 3 hts gX3_open_X3_in rfl rfl rfl (by decide +kernel) ⟨Nat.le_of_ble_eq_true rfl, Nat.le_of_ble_eq_true rfl⟩) rfl hl.1 rfl (Nat.le_of_ble_eq_true rfl) dX3_open_23 ⟨Nat.le_of_ble_eq_true rfl, Nat.le_of_ble_eq_true rfl⟩ (fun r hr => ?_)
      subst hr
      refine lv_aload_n hx hb dX3_open_26 rfl (lv_at hl 0 rfl) ?_
      refine z_get (C := RX3) (T := TX3) (N := 21) (ci := 3) (fs := mObj bd M th) (v := .int (nI (M 0 1))) F hK hP hi3 rfl (0) 17 (by omega) cM_0 (by decide) rfl (by decide +kernel) dX3_open_27 ?_
      refine lv_bipush (v := nI 40) hx hb dX3_open_30 (by decide) ?_
      refine z_icmp_ge (tgt := 39) F (by omega) (by omega) dX3_open_32 (by decide) (fun c32 => ?_) (fun c32 => ?_)
      · refine lv_iconst (v := nI 0) hx hb dX3_open_39 (by decide) ?_
        refine z_top (show nI 0 = bI (M 0 1 < 40) from (bI_f (fun zz1 => by have zz2 := zz1; first | exact c32 zz2 | omega)).symm) ?_
        refine z_mV (qc := (RX3, TX3, 21)) (As := [.int (bI (zI 4 p0 ∧ zI 4 p1)), .int (bI (nI 0 ≤ p2 ∧ p2 ≤ nI 2)), .int (bI (M 0 1 < 40))]) (rest := []) (0) F (c_X3_asked__ l D k bd M O th _ (zI 4 p0 ∧ zI 4 p1) (nI 0 ≤ p2 ∧ p2 ≤ nI 2) (M 0 1 < 40)) (cwV 3 hts gX3_open_X3_asked__ rfl rfl rfl (by decide +kernel) ⟨Nat.le_of_ble_eq_true rfl, Nat.le_of_ble_eq_true rfl⟩) hK hP hD hS hA (by omega) cM_0 rfl rfl hl.1 rfl (Nat.le_of_ble_eq_true rfl) dX3_open_40 ⟨Nat.le_of_ble_eq_true rfl, Nat.le_of_ble_eq_true rfl⟩ (fun r H locs hr0 hP hD hS => ?_)
        subst hr0
        refine z_ifb_ne (tgt := 48) F dX3_open_43 (by decide) (fun c33 => ?_) (fun c33 => ?_)
        · obtain ⟨i, hi, rfl⟩ := id (c33.1.1)
          try rw [ix_nI (show i < 2 ^ 31 by omega)]
          obtain ⟨kd, hkd, rfl⟩ := id (c33.1.2)
          try rw [ix_nI (show kd < 2 ^ 31 by omega)]
          obtain ⟨g, hg0, hg, rfl⟩ := (zB_iff (by omega) (by decide)).mp (c33.2.1)
          try rw [ix_nI (show g < 2 ^ 31 by omega)]
          have hlt := c33.2.2
          refine lv_aload_n hx hb dX3_open_48 rfl (lv_at hl 0 rfl) ?_
          refine z_get (C := RX3) (T := TX3) (N := 21) (ci := 3) (fs := mObj bd M (nI (x3 (zI 4 (nI i) ∧ zI 4 (nI kd)) (nI 0 ≤ (nI g) ∧ (nI g) ≤ nI 2) (M 0 1 < 40)))) (v := .ref (bd 9)) F hK hP hi3 rfl (0) 9 (by omega) cM_0 (by decide) rfl (by decide +kernel) dX3_open_49 ?_
          refine lv_aload_n hx hb dX3_open_52 rfl (lv_at hl 0 rfl) ?_
          refine z_get (C := RX3) (T := TX3) (N := 21) (ci := 3) (fs := mObj bd M (nI (x3 (zI 4 (nI i) ∧ zI 4 (nI kd)) (nI 0 ≤ (nI g) ∧ (nI g) ≤ nI 2) (M 0 1 < 40)))) (v := .int (nI (M 0 1))) F hK hP hi3 rfl (0) 17 (by omega) cM_0 (by decide) rfl (by decide +kernel) dX3_open_53 ?_
          refine lv_iload_n hx hb dX3_open_56 rfl (lv_at hl 1 rfl) ?_
          refine z_iast (f' := (cM k bd (zu M 9 (M 0 1) i) O (nI (x3 (zI 4 (nI i) ∧ zI 4 (nI kd)) (nI 0 ≤ (nI g) ∧ (nI g) ≤ nI 2) (M 0 1 < 40))))) (cA := k 0) (len := 40) (g := mA M O 9) F hK hP hD hS (9) 0 (by omega) rfl rfl (i := nI (M 0 1)) (M 0 1) rfl hlt (by decide) (cM_urow 9 (by decide) (by decide) (by decide) (by decide) (by decide) _ _) dX3_open_57 (fun H locs hP hD hS => ?_)
          refine lv_aload_n hx hb dX3_open_58 rfl (lv_at hl 0 rfl) ?_
          refine z_get (C := RX3) (T := TX3) (N := 21) (ci := 3) (fs := mObj bd (zu M 9 (M 0 1) i) (nI (x3 (zI 4 (nI i) ∧ zI 4 (nI kd)) (nI 0 ≤ (nI g) ∧ (nI g) ≤ nI 2) (M 0 1 < 40)))) (v := .ref (bd 10)) F hK hP hi3 rfl (0) 10 (by omega) cM_0 (by decide) rfl (by decide +kernel) dX3_open_59 ?_
          refine lv_aload_n hx hb dX3_open_62 rfl (lv_at hl 0 rfl) ?_
          refine z_get (C := RX3) (T := TX3) (N := 21) (ci := 3) (fs := mObj bd (zu M 9 (M 0 1) i) (nI (x3 (zI 4 (nI i) ∧ zI 4 (nI kd)) (nI 0 ≤ (nI g) ∧ (nI g) ≤ nI 2) (M 0 1 < 40)))) (v := .int (nI (M 0 1))) F hK hP hi3 rfl (0) 17 (by omega) cM_0 (by decide) rfl (by decide +kernel) dX3_open_63 ?_
          refine lv_iload_n hx hb dX3_open_66 rfl (lv_at hl 2 rfl) ?_
          refine z_iast (f' := (cM k bd (zu (zu M 9 (M 0 1) i) 10 (M 0 1) kd) O (nI (x3 (zI 4 (nI i) ∧ zI 4 (nI kd)) (nI 0 ≤ (nI g) ∧ (nI g) ≤ nI 2) (M 0 1 < 40))))) (cA := k 0) (len := 40) (g := mA (zu M 9 (M 0 1) i) O 10) F hK hP hD hS (10) 0 (by omega) rfl rfl (i := nI (M 0 1)) (M 0 1) rfl hlt (by decide) (cM_urow 10 (by decide) (by decide) (by decide) (by decide) (by decide) _ _) dX3_open_67 (fun H locs hP hD hS => ?_)
          refine lv_aload_n hx hb dX3_open_68 rfl (lv_at hl 0 rfl) ?_
          refine z_get (C := RX3) (T := TX3) (N := 21) (ci := 3) (fs := mObj bd (zu (zu M 9 (M 0 1) i) 10 (M 0 1) kd) (nI (x3 (zI 4 (nI i) ∧ zI 4 (nI kd)) (nI 0 ≤ (nI g) ∧ (nI g) ≤ nI 2) (M 0 1 < 40)))) (v := .ref (bd 11)) F hK hP hi3 rfl (0) 11 (by omega) cM_0 (by decide) rfl (by decide +kernel) dX3_open_69 ?_
          refine lv_aload_n hx hb dX3_open_72 rfl (lv_at hl 0 rfl) ?_
          refine z_get (C := RX3) (T := TX3) (N := 21) (ci := 3) (fs := mObj bd (zu (zu M 9 (M 0 1) i) 10 (M 0 1) kd) (nI (x3 (zI 4 (nI i) ∧ zI 4 (nI kd)) (nI 0 ≤ (nI g) ∧ (nI g) ≤ nI 2) (M 0 1 < 40)))) (v := .int (nI (M 0 1))) F hK hP hi3 rfl (0) 17 (by omega) cM_0 (by decide) rfl (by decide +kernel) dX3_open_73 ?_
          refine lv_iload_n hx hb dX3_open_76 rfl (lv_at hl 3 rfl) ?_
          refine z_iast (f' := (cM k bd (zu (zu (zu M 9 (M 0 1) i) 10 (M 0 1) kd) 11 (M 0 1) g) O (nI (x3 (zI 4 (nI i) ∧ zI 4 (nI kd)) (nI 0 ≤ (nI g) ∧ (nI g) ≤ nI 2) (M 0 1 < 40))))) (cA := k 0) (len := 40) (g := mA (zu (zu M 9 (M 0 1) i) 10 (M 0 1) kd) O 11) F hK hP hD hS (11) 0 (by omega) rfl rfl (i := nI (M 0 1)) (M 0 1) rfl hlt (by decide) (cM_urow 11 (by decide) (by decide) (by decide) (by decide) (by decide) _ _) dX3_open_77 (fun H locs hP hD hS => ?_)
          refine lv_aload_n hx hb dX3_open_78 rfl (lv_at hl 0 rfl) ?_
          refine z_get (C := RX3) (T := TX3) (N := 21) (ci := 3) (fs := mObj bd (zu (zu (zu M 9 (M 0 1) i) 10 (M 0 1) kd) 11 (M 0 1) g) (nI (x3 (zI 4 (nI i) ∧ zI 4 (nI kd)) (nI 0 ≤ (nI g) ∧ (nI g) ≤ nI 2) (M 0 1 < 40)))) (v := .ref (bd 12)) F hK hP hi3 rfl (0) 12 (by omega) cM_0 (by decide) rfl (by decide +kernel) dX3_open_79 ?_
          refine lv_aload_n hx hb dX3_open_82 rfl (lv_at hl 0 rfl) ?_
          refine z_get (C := RX3) (T := TX3) (N := 21) (ci := 3) (fs := mObj bd (zu (zu (zu M 9 (M 0 1) i) 10 (M 0 1) kd) 11 (M 0 1) g) (nI (x3 (zI 4 (nI i) ∧ zI 4 (nI kd)) (nI 0 ≤ (nI g) ∧ (nI g) ≤ nI 2) (M 0 1 < 40)))) (v := .int (nI (M 0 1))) F hK hP hi3 rfl (0) 17 (by omega) cM_0 (by decide) rfl (by decide +kernel) dX3_open_83 ?_
          refine lv_iconst (v := nI 0) hx hb dX3_open_86 (by decide) ?_
          refine z_iast (f' := (cM k bd (zu (zu (zu (zu M 9 (M 0 1) i) 10 (M 0 1) kd) 11 (M 0 1) g) 12 (M 0 1) 0) O (nI (x3 (zI 4 (nI i) ∧ zI 4 (nI kd)) (nI 0 ≤ (nI g) ∧ (nI g) ≤ nI 2) (M 0 1 < 40))))) (cA := k 0) (len := 40) (g := mA (zu (zu (zu M 9 (M 0 1) i) 10 (M 0 1) kd) 11 (M 0 1) g) O 12) F hK hP hD hS (12) 0 (by omega) rfl rfl (i := nI (M 0 1)) (M 0 1) rfl hlt (by decide) (cM_urow 12 (by decide) (by decide) (by decide) (by decide) (by decide) _ _) dX3_open_87 (fun H locs hP hD hS => ?_)
          refine lv_aload_n hx hb dX3_open_88 rfl (lv_at hl 0 rfl) ?_
          refine z_get (C := RX3) (T := TX3) (N := 21) (ci := 3) (fs := mObj bd (zu (zu (zu (zu M 9 (M 0 1) i) 10 (M 0 1) kd) 11 (M 0 1) g) 12 (M 0 1) 0) (nI (x3 (zI 4 (nI i) ∧ zI 4 (nI kd)) (nI 0 ≤ (nI g) ∧ (nI g) ≤ nI 2) (M 0 1 < 40)))) (v := .ref (bd 13)) F hK hP hi3 rfl (0) 13 (by omega) cM_0 (by decide) rfl (by decide +kernel) dX3_open_89 ?_
          refine lv_aload_n hx hb dX3_open_92 rfl (lv_at hl 0 rfl) ?_
          refine z_get (C := RX3) (T := TX3) (N := 21) (ci := 3) (fs := mObj bd (zu (zu (zu (zu M 9 (M 0 1) i) 10 (M 0 1) kd) 11 (M 0 1) g) 12 (M 0 1) 0) (nI (x3 (zI 4 (nI i) ∧ zI 4 (nI kd)) (nI 0 ≤ (nI g) ∧ (nI g) ≤ nI 2) (M 0 1 < 40)))) (v := .int (nI (M 0 1))) F hK hP hi3 rfl (0) 17 (by omega) cM_0 (by decide) rfl (by decide +kernel) dX3_open_93 ?_
          refine lv_iconst (v := (-1)) hx hb dX3_open_96 (by decide) ?_
          refine z_iast (f' := (cM k bd (zu (zu (zu (zu (zu M 9 (M 0 1) i) 10 (M 0 1) kd) 11 (M 0 1) g) 12 (M 0 1) 0) 13 (M 0 1) 0) O (nI (x3 (zI 4 (nI i) ∧ zI 4 (nI kd)) (nI 0 ≤ (nI g) ∧ (nI g) ≤ nI 2) (M 0 1 < 40))))) (cA := k 0) (len := 40) (g := mA (zu (zu (zu (zu M 9 (M 0 1) i) 10 (M 0 1) kd) 11 (M 0 1) g) 12 (M 0 1) 0) O 13) F hK hP hD hS (13) 0 (by omega) rfl rfl (i := nI (M 0 1)) (M 0 1) rfl hlt (by decide) (cM_uhead _ 0) dX3_open_97 (fun H locs hP hD hS => ?_)
          refine lv_aload_n hx hb dX3_open_98 rfl (lv_at hl 0 rfl) ?_
          refine lv_dup hx hb dX3_open_99 rfl ?_
          refine z_get (C := RX3) (T := TX3) (N := 21) (ci := 3) (fs := mObj bd (zu (zu (zu (zu (zu M 9 (M 0 1) i) 10 (M 0 1) kd) 11 (M 0 1) g) 12 (M 0 1) 0) 13 (M 0 1) 0) (nI (x3 (zI 4 (nI i) ∧ zI 4 (nI kd)) (nI 0 ≤ (nI g) ∧ (nI g) ≤ nI 2) (M 0 1 < 40)))) (v := .int (nI (M 0 1))) F hK hP hi3 rfl (0) 17 (by omega) cM_0 (by decide) rfl (by decide +kernel) dX3_open_100 ?_
          refine lv_iconst (v := nI 1) hx hb dX3_open_103 (by decide) ?_
          refine z_add F dX3_open_104 ?_
          refine z_put (C := RX3) (T := TX3) (N := 21) (ci := 3) (fs := mObj bd (zu (zu (zu (zu (zu M 9 (M 0 1) i) 10 (M 0 1) kd) 11 (M 0 1) g) 12 (M 0 1) 0) 13 (M 0 1) 0) (nI (x3 (zI 4 (nI i) ∧ zI 4 (nI kd)) (nI 0 ≤ (nI g) ∧ (nI g) ≤ nI 2) (M 0 1 < 40)))) (f' := (cM k bd (zu (zu (zu (zu (zu (zu M 9 (M 0 1) i) 10 (M 0 1) kd) 11 (M 0 1) g) 12 (M 0 1) 0) 13 (M 0 1) 0) 0 1 ((M 0 1) + 1)) O (nI (x3 (zI 4 (nI i) ∧ zI 4 (nI kd)) (nI 0 ≤ (nI g) ∧ (nI g) ≤ nI 2) (M 0 1 < 40))))) F hK hP hD hS hi3 rfl tyX3 tyX3_ok nmX3 (0) 17 (by omega) cM_0 (by decide) (Nat.le_of_ble_eq_true rfl) (by decide +kernel) rfl rfl rfl rfl (cM_ucnt _) dX3_open_105 (fun H locs hP hD hS => ?_)
          refine lv_aload_n hx hb dX3_open_108 rfl (lv_at hl 0 rfl) ?_
          refine z_get (C := RX3) (T := TX3) (N := 21) (ci := 3) (fs := mObj bd (zu (zu (zu (zu (zu (zu M 9 (M 0 1) i) 10 (M 0 1) kd) 11 (M 0 1) g) 12 (M 0 1) 0) 13 (M 0 1) 0) 0 1 ((M 0 1) + 1)) (nI (x3 (zI 4 (nI i) ∧ zI 4 (nI kd)) (nI 0 ≤ (nI g) ∧ (nI g) ≤ nI 2) (M 0 1 < 40)))) (v := .int (nI ((M 0 1) + 1))) F hK hP hi3 rfl (0) 17 (by omega) cM_0 (by decide) rfl (by decide +kernel) dX3_open_109 ?_
          refine lv_iconst (v := nI 1) hx hb dX3_open_112 (by decide) ?_
          refine z_sub F (by omega) dX3_open_113 ?_
          have hx0 : (x3 (zI 4 (nI i) ∧ zI 4 (nI kd)) (nI 0 ≤ (nI g) ∧ (nI g) ≤ nI 2) (M 0 1 < 40)) = 0 := x3_0 c33.1 c33.2.1 c33.2.2
          have eW : cM k bd (if (x3 (zI 4 (nI i) ∧ zI 4 (nI kd)) (nI 0 ≤ (nI g) ∧ (nI g) ≤ nI 2) (M 0 1 < 40)) = 0 then (opM M (i) (kd) (g)) else M) O (nI ((x3 (zI 4 (nI i) ∧ zI 4 (nI kd)) (nI 0 ≤ (nI g) ∧ (nI g) ≤ nI 2) (M 0 1 < 40)))) = cM k bd (zu (zu (zu (zu (zu (zu M 9 (M 0 1) i) 10 (M 0 1) kd) 11 (M 0 1) g) 12 (M 0 1) 0) 13 (M 0 1) 0) 0 1 ((M 0 1) + 1)) O (nI (x3 (zI 4 (nI i) ∧ zI 4 (nI kd)) (nI 0 ≤ (nI g) ∧ (nI g) ≤ nI 2) (M 0 1 < 40))) := by rw [if_pos hx0, ← x3_id, opM_zu] <;> rfl
          rw [← eW] at hP hD
          refine W.widen (k := 0) (n := 0) (Nat.le_of_ble_eq_true rfl) (Nat.le_of_ble_eq_true rfl) ?_
          exact W.iret (v := nI (((M 0 1) + 1) - 1)) hx hb hr (fun t ht hW => ⟨⟨nI (((M 0 1) + 1) - 1), (), rfl, fun _ => (by rw [Nat.add_sub_cancel]), ⟨by rw [ht]; exact hP, va_K.moved hW.alike hK⟩, hD⟩, hS.F ht⟩) hS.2.2 dX3_open_114
        · refine lv_iconst (v := nI 0) hx hb dX3_open_46 (by decide) ?_
          have hx0 : (x3 (zI 4 p0 ∧ zI 4 p1) (nI 0 ≤ p2 ∧ p2 ≤ nI 2) (M 0 1 < 40)) ≠ 0 := x3_no (c33)
          have eW : cM k bd (if (x3 (zI 4 p0 ∧ zI 4 p1) (nI 0 ≤ p2 ∧ p2 ≤ nI 2) (M 0 1 < 40)) = 0 then (opM M (ix p0) (ix p1) (ix p2)) else M) O (nI ((x3 (zI 4 p0 ∧ zI 4 p1) (nI 0 ≤ p2 ∧ p2 ≤ nI 2) (M 0 1 < 40)))) = cM k bd M O (nI (x3 (zI 4 p0 ∧ zI 4 p1) (nI 0 ≤ p2 ∧ p2 ≤ nI 2) (M 0 1 < 40))) := by rw [if_neg hx0, ← x3_id] <;> rfl
          rw [← eW] at hP hD
          refine W.widen (k := 0) (n := 0) (Nat.le_of_ble_eq_true rfl) (Nat.le_of_ble_eq_true rfl) ?_
          exact W.iret (v := nI 0) hx hb hr (fun t ht hW => ⟨⟨nI 0, (), rfl, fun zz1 => absurd zz1 hx0, ⟨by rw [ht]; exact hP, va_K.moved hW.alike hK⟩, hD⟩, hS.F ht⟩) hS.2.2 dX3_open_47
      · refine lv_iconst (v := nI 1) hx hb dX3_open_35 (by decide) ?_
        refine lv_goto (tgt := 40) hx hb dX3_open_36 (by decide) ?_
        refine z_top (show nI 1 = bI (M 0 1 < 40) from (bI_t c32).symm) ?_
        refine z_mV (qc := (RX3, TX3, 21)) (As := [.int (bI (zI 4 p0 ∧ zI 4 p1)), .int (bI (nI 0 ≤ p2 ∧ p2 ≤ nI 2)), .int (bI (M 0 1 < 40))]) (rest := []) (0) F (c_X3_asked__ l D k bd M O th _ (zI 4 p0 ∧ zI 4 p1) (nI 0 ≤ p2 ∧ p2 ≤ nI 2) (M 0 1 < 40)) (cwV 3 hts gX3_open_X3_asked__ rfl rfl rfl (by decide +kernel) ⟨Nat.le_of_ble_eq_true rfl, Nat.le_of_ble_eq_true rfl⟩) hK hP hD hS hA (by omega) cM_0 rfl rfl hl.1 rfl (Nat.le_of_ble_eq_true rfl) dX3_open_40 ⟨Nat.le_of_ble_eq_true rfl, Nat.le_of_ble_eq_true rfl⟩ (fun r H locs hr0 hP hD hS => ?_)
        subst hr0
        refine z_ifb_ne (tgt := 48) F dX3_open_43 (by decide) (fun c34 => ?_) (fun c34 => ?_)
        · obtain ⟨i, hi, rfl⟩ := id (c34.1.1)
          try rw [ix_nI (show i < 2 ^ 31 by omega)]
          obtain ⟨kd, hkd, rfl⟩ := id (c34.1.2)
          try rw [ix_nI (show kd < 2 ^ 31 by omega)]
          obtain ⟨g, hg0, hg, rfl⟩ := (zB_iff (by omega) (by decide)).mp (c34.2.1)
          try rw [ix_nI (show g < 2 ^ 31 by omega)]
          have hlt := c34.2.2
          refine lv_aload_n hx hb dX3_open_48 rfl (lv_at hl 0 rfl) ?_
          refine z_get (C := RX3) (T := TX3) (N := 21) (ci := 3) (fs := mObj bd M (nI (x3 (zI 4 (nI i) ∧ zI 4 (nI kd)) (nI 0 ≤ (nI g) ∧ (nI g) ≤ nI 2) (M 0 1 < 40)))) (v := .ref (bd 9)) F hK hP hi3 rfl (0) 9 (by omega) cM_0 (by decide) rfl (by decide +kernel) dX3_open_49 ?_
          refine lv_aload_n hx hb dX3_open_52 rfl (lv_at hl 0 rfl) ?_
          refine z_get (C := RX3) (T := TX3) (N := 21) (ci := 3) (fs := mObj bd M (nI (x3 (zI 4 (nI i) ∧ zI 4 (nI kd)) (nI 0 ≤ (nI g) ∧ (nI g) ≤ nI 2) (M 0 1 < 40)))) (v := .int (nI (M 0 1))) F hK hP hi3 rfl (0) 17 (by omega) cM_0 (by decide) rfl (by decide +kernel) dX3_open_53 ?_
          refine lv_iload_n hx hb dX3_open_56 rfl (lv_at hl 1 rfl) ?_
          refine z_iast (f' := (cM k bd (zu M 9 (M 0 1) i) O (nI (x3 (zI 4 (nI i) ∧ zI 4 (nI kd)) (nI 0 ≤ (nI g) ∧ (nI g) ≤ nI 2) (M 0 1 < 40))))) (cA := k 0) (len := 40) (g := mA M O 9) F hK hP hD hS (9) 0 (by omega) rfl rfl (i := nI (M 0 1)) (M 0 1) rfl hlt (by decide) (cM_urow 9 (by decide) (by decide) (by decide) (by decide) (by decide) _ _) dX3_open_57 (fun H locs hP hD hS => ?_)
          refine lv_aload_n hx hb dX3_open_58 rfl (lv_at hl 0 rfl) ?_
          refine z_get (C := RX3) (T := TX3) (N := 21) (ci := 3) (fs := mObj bd (zu M 9 (M 0 1) i) (nI (x3 (zI 4 (nI i) ∧ zI 4 (nI kd)) (nI 0 ≤ (nI g) ∧ (nI g) ≤ nI 2) (M 0 1 < 40)))) (v := .ref (bd 10)) F hK hP hi3 rfl (0) 10 (by omega) cM_0 (by decide) rfl (by decide +kernel) dX3_open_59 ?_
          refine lv_aload_n hx hb dX3_open_62 rfl (lv_at hl 0 rfl) ?_
          refine z_get (C := RX3) (T := TX3) (N := 21) (ci := 3) (fs := mObj bd (zu M 9 (M 0 1) i) (nI (x3 (zI 4 (nI i) ∧ zI 4 (nI kd)) (nI 0 ≤ (nI g) ∧ (nI g) ≤ nI 2) (M 0 1 < 40)))) (v := .int (nI (M 0 1))) F hK hP hi3 rfl (0) 17 (by omega) cM_0 (by decide) rfl (by decide +kernel) dX3_open_63 ?_
          refine lv_iload_n hx hb dX3_open_66 rfl (lv_at hl 2 rfl) ?_
          refine z_iast (f' := (cM k bd (zu (zu M 9 (M 0 1) i) 10 (M 0 1) kd) O (nI (x3 (zI 4 (nI i) ∧ zI 4 (nI kd)) (nI 0 ≤ (nI g) ∧ (nI g) ≤ nI 2) (M 0 1 < 40))))) (cA := k 0) (len := 40) (g := mA (zu M 9 (M 0 1) i) O 10) F hK hP hD hS (10) 0 (by omega) rfl rfl (i := nI (M 0 1)) (M 0 1) rfl hlt (by decide) (cM_urow 10 (by decide) (by decide) (by decide) (by decide) (by decide) _ _) dX3_open_67 (fun H locs hP hD hS => ?_)
          refine lv_aload_n hx hb dX3_open_68 rfl (lv_at hl 0 rfl) ?_
          refine z_get (C := RX3) (T := TX3) (N := 21) (ci := 3) (fs := mObj bd (zu (zu M 9 (M 0 1) i) 10 (M 0 1) kd) (nI (x3 (zI 4 (nI i) ∧ zI 4 (nI kd)) (nI 0 ≤ (nI g) ∧ (nI g) ≤ nI 2) (M 0 1 < 40)))) (v := .ref (bd 11)) F hK hP hi3 rfl (0) 11 (by omega) cM_0 (by decide) rfl (by decide +kernel) dX3_open_69 ?_
          refine lv_aload_n hx hb dX3_open_72 rfl (lv_at hl 0 rfl) ?_
          refine z_get (C := RX3) (T := TX3) (N := 21) (ci := 3) (fs := mObj bd (zu (zu M 9 (M 0 1) i) 10 (M 0 1) kd) (nI (x3 (zI 4 (nI i) ∧ zI 4 (nI kd)) (nI 0 ≤ (nI g) ∧ (nI g) ≤ nI 2) (M 0 1 < 40)))) (v := .int (nI (M 0 1))) F hK hP hi3 rfl (0) 17 (by omega) cM_0 (by decide) rfl (by decide +kernel) dX3_open_73 ?_
          refine lv_iload_n hx hb dX3_open_76 rfl (lv_at hl 3 rfl) ?_
          refine z_iast (f' := (cM k bd (zu (zu (zu M 9 (M 0 1) i) 10 (M 0 1) kd) 11 (M 0 1) g) O (nI (x3 (zI 4 (nI i) ∧ zI 4 (nI kd)) (nI 0 ≤ (nI g) ∧ (nI g) ≤ nI 2) (M 0 1 < 40))))) (cA := k 0) (len := 40) (g := mA (zu (zu M 9 (M 0 1) i) 10 (M 0 1) kd) O 11) F hK hP hD hS (11) 0 (by omega) rfl rfl (i := nI (M 0 1)) (M 0 1) rfl hlt (by decide) (cM_urow 11 (by decide) (by decide) (by decide) (by decide) (by decide) _ _) dX3_open_77 (fun H locs hP hD hS => ?_)
          refine lv_aload_n hx hb dX3_open_78 rfl (lv_at hl 0 rfl) ?_
          refine z_get (C := RX3) (T := TX3) (N := 21) (ci := 3) (fs := mObj bd (zu (zu (zu M 9 (M 0 1) i) 10 (M 0 1) kd) 11 (M 0 1) g) (nI (x3 (zI 4 (nI i) ∧ zI 4 (nI kd)) (nI 0 ≤ (nI g) ∧ (nI g) ≤ nI 2) (M 0 1 < 40)))) (v := .ref (bd 12)) F hK hP hi3 rfl (0) 12 (by omega) cM_0 (by decide) rfl (by decide +kernel) dX3_open_79 ?_
          refine lv_aload_n hx hb dX3_open_82 rfl (lv_at hl 0 rfl) ?_
          refine z_get (C := RX3) (T := TX3) (N := 21) (ci := 3) (fs := mObj bd (zu (zu (zu M 9 (M 0 1) i) 10 (M 0 1) kd) 11 (M 0 1) g) (nI (x3 (zI 4 (nI i) ∧ zI 4 (nI kd)) (nI 0 ≤ (nI g) ∧ (nI g) ≤ nI 2) (M 0 1 < 40)))) (v := .int (nI (M 0 1))) F hK hP hi3 rfl (0) 17 (by omega) cM_0 (by decide) rfl (by decide +kernel) dX3_open_83 ?_
          refine lv_iconst (v := nI 0) hx hb dX3_open_86 (by decide) ?_
          refine z_iast (f' := (cM k bd (zu (zu (zu (zu M 9 (M 0 1) i) 10 (M 0 1) kd) 11 (M 0 1) g) 12 (M 0 1) 0) O (nI (x3 (zI 4 (nI i) ∧ zI 4 (nI kd)) (nI 0 ≤ (nI g) ∧ (nI g) ≤ nI 2) (M 0 1 < 40))))) (cA := k 0) (len := 40) (g := mA (zu (zu (zu M 9 (M 0 1) i) 10 (M 0 1) kd) 11 (M 0 1) g) O 12) F hK hP hD hS (12) 0 (by omega) rfl rfl (i := nI (M 0 1)) (M 0 1) rfl hlt (by decide) (cM_urow 12 (by decide) (by decide) (by decide) (by decide) (by decide) _ _) dX3_open_87 (fun H locs hP hD hS => ?_)
          refine lv_aload_n hx hb dX3_open_88 rfl (lv_at hl 0 rfl) ?_
          refine z_get (C := RX3) (T := TX3) (N := 21) (ci := 3) (fs := mObj bd (zu (zu (zu (zu M 9 (M 0 1) i) 10 (M 0 1) kd) 11 (M 0 1) g) 12 (M 0 1) 0) (nI (x3 (zI 4 (nI i) ∧ zI 4 (nI kd)) (nI 0 ≤ (nI g) ∧ (nI g) ≤ nI 2) (M 0 1 < 40)))) (v := .ref (bd 13)) F hK hP hi3 rfl (0) 13 (by omega) cM_0 (by decide) rfl (by decide +kernel) dX3_open_89 ?_
          refine lv_aload_n hx hb dX3_open_92 rfl (lv_at hl 0 rfl) ?_
          refine z_get (C := RX3) (T := TX3) (N := 21) (ci := 3) (fs := mObj bd (zu (zu (zu (zu M 9 (M 0 1) i) 10 (M 0 1) kd) 11 (M 0 1) g) 12 (M 0 1) 0) (nI (x3 (zI 4 (nI i) ∧ zI 4 (nI kd)) (nI 0 ≤ (nI g) ∧ (nI g) ≤ nI 2) (M 0 1 < 40)))) (v := .int (nI (M 0 1))) F hK hP hi3 rfl (0) 17 (by omega) cM_0 (by decide) rfl (by decide +kernel) dX3_open_93 ?_
          refine lv_iconst (v := (-1)) hx hb dX3_open_96 (by decide) ?_
          refine z_iast (f' := (cM k bd (zu (zu (zu (zu (zu M 9 (M 0 1) i) 10 (M 0 1) kd) 11 (M 0 1) g) 12 (M 0 1) 0) 13 (M 0 1) 0) O (nI (x3 (zI 4 (nI i) ∧ zI 4 (nI kd)) (nI 0 ≤ (nI g) ∧ (nI g) ≤ nI 2) (M 0 1 < 40))))) (cA := k 0) (len := 40) (g := mA (zu (zu (zu (zu M 9 (M 0 1) i) 10 (M 0 1) kd) 11 (M 0 1) g) 12 (M 0 1) 0) O 13) F hK hP hD hS (13) 0 (by omega) rfl rfl (i := nI (M 0 1)) (M 0 1) rfl hlt (by decide) (cM_uhead _ 0) dX3_open_97 (fun H locs hP hD hS => ?_)
          refine lv_aload_n hx hb dX3_open_98 rfl (lv_at hl 0 rfl) ?_
          refine lv_dup hx hb dX3_open_99 rfl ?_
          refine z_get (C := RX3) (T := TX3) (N := 21) (ci := 3) (fs := mObj bd (zu (zu (zu (zu (zu M 9 (M 0 1) i) 10 (M 0 1) kd) 11 (M 0 1) g) 12 (M 0 1) 0) 13 (M 0 1) 0) (nI (x3 (zI 4 (nI i) ∧ zI 4 (nI kd)) (nI 0 ≤ (nI g) ∧ (nI g) ≤ nI 2) (M 0 1 < 40)))) (v := .int (nI (M 0 1))) F hK hP hi3 rfl (0) 17 (by omega) cM_0 (by decide) rfl (by decide +kernel) dX3_open_100 ?_
          refine lv_iconst (v := nI 1) hx hb dX3_open_103 (by decide) ?_
          refine z_add F dX3_open_104 ?_
          refine z_put (C := RX3) (T := TX3) (N := 21) (ci := 3) (fs := mObj bd (zu (zu (zu (zu (zu M 9 (M 0 1) i) 10 (M 0 1) kd) 11 (M 0 1) g) 12 (M 0 1) 0) 13 (M 0 1) 0) (nI (x3 (zI 4 (nI i) ∧ zI 4 (nI kd)) (nI 0 ≤ (nI g) ∧ (nI g) ≤ nI 2) (M 0 1 < 40)))) (f' := (cM k bd (zu (zu (zu (zu (zu (zu M 9 (M 0 1) i) 10 (M 0 1) kd) 11 (M 0 1) g) 12 (M 0 1) 0) 13 (M 0 1) 0) 0 1 ((M 0 1) + 1)) O (nI (x3 (zI 4 (nI i) ∧ zI 4 (nI kd)) (nI 0 ≤ (nI g) ∧ (nI g) ≤ nI 2) (M 0 1 < 40))))) F hK hP hD hS hi3 rfl tyX3 tyX3_ok nmX3 (0) 17 (by omega) cM_0 (by decide) (Nat.le_of_ble_eq_true rfl) (by decide +kernel) rfl rfl rfl rfl (cM_ucnt _) dX3_open_105 (fun H locs hP hD hS => ?_)
          refine lv_aload_n hx hb dX3_open_108 rfl (lv_at hl 0 rfl) ?_
          refine z_get (C := RX3) (T := TX3) (N := 21) (ci := 3) (fs := mObj bd (zu (zu (zu (zu (zu (zu M 9 (M 0 1) i) 10 (M 0 1) kd) 11 (M 0 1) g) 12 (M 0 1) 0) 13 (M 0 1) 0) 0 1 ((M 0 1) + 1)) (nI (x3 (zI 4 (nI i) ∧ zI 4 (nI kd)) (nI 0 ≤ (nI g) ∧ (nI g) ≤ nI 2) (M 0 1 < 40)))) (v := .int (nI ((M 0 1) + 1))) F hK hP hi3 rfl (0) 17 (by omega) cM_0 (by decide) rfl (by decide +kernel) dX3_open_109 ?_
          refine lv_iconst (v := nI 1) hx hb dX3_open_112 (by decide) ?_
          refine z_sub F (by omega) dX3_open_113 ?_
          have hx0 : (x3 (zI 4 (nI i) ∧ zI 4 (nI kd)) (nI 0 ≤ (nI g) ∧ (nI g) ≤ nI 2) (M 0 1 < 40)) = 0 := x3_0 c34.1 c34.2.1 c34.2.2
          have eW : cM k bd (if (x3 (zI 4 (nI i) ∧ zI 4 (nI kd)) (nI 0 ≤ (nI g) ∧ (nI g) ≤ nI 2) (M 0 1 < 40)) = 0 then (opM M (i) (kd) (g)) else M) O (nI ((x3 (zI 4 (nI i) ∧ zI 4 (nI kd)) (nI 0 ≤ (nI g) ∧ (nI g) ≤ nI 2) (M 0 1 < 40)))) = cM k bd (zu (zu (zu (zu (zu (zu M 9 (M 0 1) i) 10 (M 0 1) kd) 11 (M 0 1) g) 12 (M 0 1) 0) 13 (M 0 1) 0) 0 1 ((M 0 1) + 1)) O (nI (x3 (zI 4 (nI i) ∧ zI 4 (nI kd)) (nI 0 ≤ (nI g) ∧ (nI g) ≤ nI 2) (M 0 1 < 40))) := by rw [if_pos hx0, ← x3_id, opM_zu] <;> rfl
          rw [← eW] at hP hD
          refine W.widen (k := 0) (n := 0) (Nat.le_of_ble_eq_true rfl) (Nat.le_of_ble_eq_true rfl) ?_
          exact W.iret (v := nI (((M 0 1) + 1) - 1)) hx hb hr (fun t ht hW => ⟨⟨nI (((M 0 1) + 1) - 1), (), rfl, fun _ => (by rw [Nat.add_sub_cancel]), ⟨by rw [ht]; exact hP, va_K.moved hW.alike hK⟩, hD⟩, hS.F ht⟩) hS.2.2 dX3_open_114
        · refine lv_iconst (v := nI 0) hx hb dX3_open_46 (by decide) ?_
          have hx0 : (x3 (zI 4 p0 ∧ zI 4 p1) (nI 0 ≤ p2 ∧ p2 ≤ nI 2) (M 0 1 < 40)) ≠ 0 := x3_no (c34)
          have eW : cM k bd (if (x3 (zI 4 p0 ∧ zI 4 p1) (nI 0 ≤ p2 ∧ p2 ≤ nI 2) (M 0 1 < 40)) = 0 then (opM M (ix p0) (ix p1) (ix p2)) else M) O (nI ((x3 (zI 4 p0 ∧ zI 4 p1) (nI 0 ≤ p2 ∧ p2 ≤ nI 2) (M 0 1 < 40)))) = cM k bd M O (nI (x3 (zI 4 p0 ∧ zI 4 p1) (nI 0 ≤ p2 ∧ p2 ≤ nI 2) (M 0 1 < 40))) := by rw [if_neg hx0, ← x3_id] <;> rfl
          rw [← eW] at hP hD
          refine W.widen (k := 0) (n := 0) (Nat.le_of_ble_eq_true rfl) (Nat.le_of_ble_eq_true rfl) ?_
          exact W.iret (v := nI 0) hx hb hr (fun t ht hW => ⟨⟨nI 0, (), rfl, fun zz1 => absurd zz1 hx0, ⟨by rw [ht]; exact hP, va_K.moved hW.alike hK⟩, hD⟩, hS.F ht⟩) hS.2.2 dX3_open_47
set_option maxRecDepth 100000 in
set_option maxHeartbeats 1000000 in
theorem c_X3_work (l : Launch) (D : va_G) (k : Nat → ClassId) (bd : Nat → Nat) (M : Nat → Nat → Nat) (O : Nat → Nat → Int32) (th : Int32) (sz : Nat) (hI : zInv M) (p0 p1 : Int32) : Met l yX3_work wsX3_work ({ frames := 2, cells := 0, slots := 0, locals := 47 }) (va_Pc [.ref (bd 0), .int p0, .int p1] (zG D k 19 bd (cM k bd M O th) sz)) (zQw D k 19 bd (cM k bd M (if (x3 (zI (M 0 1) p0) (nI 1 ≤ p1 ∧ p1 ≤ nI 100) (M 12 (ix p0) = 0)) = 0 then (wkO M O (ix p0) (ix p1)) else O) (nI ((x3 (zI (M 0 1) p0) (nI 1 ≤ p1 ∧ p1 ≤ nI 100) (M 12 (ix p0) = 0))))) (va_A (zw 19 bd (cM k bd M O th)) sz) (fun r => (x3 (zI (M 0 1) p0) (nI 1 ≤ p1 ∧ p1 ≤ nI 100) (M 12 (ix p0) = 0)) = 0 → r = (wkR M O (ix p0) (ix p1)))) 0 0 (va_A (zw 19 bd (cM k bd M O th)) sz) := by
  refine Met.ofW (cc := cX3_work) (maxL := 6) (ret := (some .int)) (by decide) rfl ?_
  intro p e s m args below meth c s₁ B hml hv
  obtain ⟨rfl, hsz, ⟨hP, hK⟩, hD0⟩ := hv
  have hx := B.exec
  have hb := B.bytes
  have hr := B.returns
  have hts := atoms_spec (ws := wsX3_work) B.pre
  have hown : s.vm.findClass RX3 = some m.cls := findClass_of_methodNamed B.named
  have hlocks := B.notSynchronized
  have F : CallFix p m c cX3_work 6 s _ wsX3_work RX3 := ⟨hx, hb, hml, hown, hts⟩
  subst hsz
  have hD := hD0.self (sz := s.heap.size)
  generalize hAe : va_A (zw 19 bd (cM k bd M O th)) s.heap.size = A at hD ⊢
  have hA : ∀ q : Nat, s.heap.size ≤ q → A q := fun q h => by rw [← hAe]; exact Or.inr h
  have hS : va_S A s.heap s.heap [] := va_S.rf
  have hl := lv_entry ([.ref (bd 0), .int p0, .int p1]) (n := 6) (Nat.le_of_ble_eq_true rfl)
  rw [lg_entry_eq]
  generalize (lg_sl ([.ref (bd 0), .int p0, .int p1]) ++ List.replicate (6 - (lg_sl ([.ref (bd 0), .int p0, .int p1])).length) Slot.unset).toArray = ls at hl ⊢
  have hl : lv_has ls 6 [(0, .ref (bd 0)), (1, .int p0), (2, .int p1)] := hl
  have hi3 : ∀ w ∈ u_ws RX3 TX3 21, w ∈ wsX3_work := by decide +kernel
  obtain ⟨hI1, hI2, hI3, hI4, hI5, hI6, hI7⟩ := id hI
  refine lv_aload_n hx hb dX3_work_0 rfl (lv_at hl 0 rfl) ?_
  refine lv_iload_n hx hb dX3_work_1 rfl (lv_at hl 1 rfl) ?_
  refine z_cV (qc := (RX3, TX3, 21)) (As := [.int p0]) (rest := []) (0) F (c_X3_isCase l D k bd M O th hI2 p0) (cwV 1 hts gX3_work_X3_isCase rfl rfl rfl (by decide +kernel) ⟨Nat.le_of_ble_eq_true rfl, Nat.le_of_ble_eq_true rfl⟩) hK hP (by omega) cM_0 rfl rfl hl.1 rfl (Nat.le_of_ble_eq_true rfl) dX3_work_2 ⟨Nat.le_of_ble_eq_true rfl, Nat.le_of_ble_eq_true rfl⟩ (fun r hr => ?_)
  subst hr
  refine lv_istore_n (lv' := [(3, .int (bI (zI (M 0 1) p0))), (0, .ref (bd 0)), (1, .int p0), (2, .int p1)]) hx hb dX3_work_5 rfl hl (by decide) rfl (fun ls hl => ?_)
  refine lv_aload_n hx hb dX3_work_6 rfl (lv_at hl 1 rfl) ?_
  refine lv_iload_n hx hb dX3_work_7 rfl (lv_at hl 0 rfl) ?_
  refine lv_iload_n hx hb dX3_work_8 rfl (lv_at hl 3 rfl) ?_
  refine lv_iconst (v := nI 1) hx hb dX3_work_9 (by decide) ?_
  refine lv_bipush (v := nI 100) hx hb dX3_work_10 (by decide) ?_
  refine z_cS (As := [.int p1, .int (nI 1), .int (nI 100)]) (rest := [.int (bI (zI (M 0 1) p0)), .ref (bd 0)]) F (c_X3_in l p1 (nI 1) (nI 100)) (va_cwS 3 hts gX3_work_X3_in rfl rfl rfl (by decide +kernel) ⟨Nat.le_of_ble_eq_true rfl, Nat.le_of_ble_eq_true rfl⟩) rfl hl.1 rfl (Nat.le_of_ble_eq_true rfl) dX3_work_12 ⟨Nat.le_of_ble_eq_true rfl, Nat.le_of_ble_eq_true rfl⟩ (fun r hr => ?_)
  subst hr
  refine lv_iload_n hx hb dX3_work_15 rfl (lv_at hl 0 rfl) ?_
  refine z_ifb_eq (tgt := 32) F dX3_work_16 (by decide) (fun c35 => ?_) (fun c35 => ?_)
  · refine lv_iconst (v := nI 0) hx hb dX3_work_32 (by decide) ?_
    refine z_top (show nI 0 = bI (zI (M 0 1) p0 ∧ M 12 (ix p0) = 0) from (bI_f (fun zz1 => by have zz2 := zz1.1; first | exact c35 zz2 | omega)).symm) ?_
    refine z_mV (qc := (RX3, TX3, 21)) (As := [.int (bI (zI (M 0 1) p0)), .int (bI (nI 1 ≤ p1 ∧ p1 ≤ nI 100)), .int (bI (zI (M 0 1) p0 ∧ M 12 (ix p0) = 0))]) (rest := []) (0) F (c_X3_asked__ l D k bd M O th _ (zI (M 0 1) p0) (nI 1 ≤ p1 ∧ p1 ≤ nI 100) (zI (M 0 1) p0 ∧ M 12 (ix p0) = 0)) (cwV 3 hts gX3_work_X3_asked__ rfl rfl rfl (by decide +kernel) ⟨Nat.le_of_ble_eq_true rfl, Nat.le_of_ble_eq_true rfl⟩) hK hP hD hS hA (by omega) cM_0 rfl rfl hl.1 rfl (Nat.le_of_ble_eq_true rfl) dX3_work_33 ⟨Nat.le_of_ble_eq_true rfl, Nat.le_of_ble_eq_true rfl⟩ (fun r H locs hr0 hP hD hS => ?_)
    subst hr0
    refine z_ifb_ne (tgt := 41) F dX3_work_36 (by decide) (fun c36 => ?_) (fun c36 => ?_)
    · first | exact absurd c36.1 c35
    · refine lv_iconst (v := nI 0) hx hb dX3_work_39 (by decide) ?_
      have hx0 : (x3 (zI (M 0 1) p0) (nI 1 ≤ p1 ∧ p1 ≤ nI 100) (M 12 (ix p0) = 0)) ≠ 0 := x3_no (fun zz1 => c36 ⟨zz1.1, zz1.2.1, zz1.1, zz1.2.2⟩)
      have eW : cM k bd M (if (x3 (zI (M 0 1) p0) (nI 1 ≤ p1 ∧ p1 ≤ nI 100) (M 12 (ix p0) = 0)) = 0 then (wkO M O (ix p0) (ix p1)) else O) (nI ((x3 (zI (M 0 1) p0) (nI 1 ≤ p1 ∧ p1 ≤ nI 100) (M 12 (ix p0) = 0)))) = cM k bd M O (nI (x3 (zI (M 0 1) p0) (nI 1 ≤ p1 ∧ p1 ≤ nI 100) (zI (M 0 1) p0 ∧ M 12 (ix p0) = 0))) := by rw [if_neg hx0, ← x3_ac] <;> rfl
      rw [← eW] at hP hD
      refine W.widen (k := 0) (n := 0) (Nat.le_of_ble_eq_true rfl) (Nat.le_of_ble_eq_true rfl) ?_
      exact W.iret (v := nI 0) hx hb hr (fun t ht hW => ⟨⟨nI 0, (), rfl, fun zz1 => absurd zz1 hx0, ⟨by rw [ht]; exact hP, va_K.moved hW.alike hK⟩, hD⟩, hS.F ht⟩) hS.2.2 dX3_work_40
  · obtain ⟨i, hi, rfl⟩ := id (c35)
    try rw [ix_nI (show i < 2 ^ 31 by omega)]
    have hz := hI5 i hi
    obtain ⟨hc1, hc2, hc3, hc4, hc5, hc6, hc7⟩ := id hz
    refine lv_aload_n hx hb dX3_work_19 rfl (lv_at hl 1 rfl) ?_
    refine z_get (C := RX3) (T := TX3) (N := 21) (ci := 3) (fs := mObj bd M th) (v := .ref (bd 12)) F hK hP hi3 rfl (0) 12 (by omega) cM_0 (by decide) rfl (by decide +kernel) dX3_work_20 ?_
    refine lv_iload_n hx hb dX3_work_23 rfl (lv_at hl 2 rfl) ?_
    refine z_iald (v := nI (M 12 i)) (cA := k 0) (len := 40) (g := mA M O 12) F hK hP (12) 0 (by omega) rfl rfl (i := nI i) i rfl (by omega) (by decide) rfl dX3_work_24 ?_
    refine z_ifn_ne (tgt := 32) F (by omega) dX3_work_25 (by decide) (fun c37 => ?_) (fun c37 => ?_)
    · refine lv_iconst (v := nI 0) hx hb dX3_work_32 (by decide) ?_
      refine z_top (show nI 0 = bI (zI (M 0 1) (nI i) ∧ M 12 (i) = 0) from (bI_f (fun zz1 => by have zz2 := zz1.2; first | exact c37 zz2 | omega)).symm) ?_
      refine z_mV (qc := (RX3, TX3, 21)) (As := [.int (bI (zI (M 0 1) (nI i))), .int (bI (nI 1 ≤ p1 ∧ p1 ≤ nI 100)), .int (bI (zI (M 0 1) (nI i) ∧ M 12 (i) = 0))]) (rest := []) (0) F (c_X3_asked__ l D k bd M O th _ (zI (M 0 1) (nI i)) (nI 1 ≤ p1 ∧ p1 ≤ nI 100) (zI (M 0 1) (nI i) ∧ M 12 (i) = 0)) (cwV 3 hts gX3_work_X3_asked__ rfl rfl rfl (by decide +kernel) ⟨Nat.le_of_ble_eq_true rfl, Nat.le_of_ble_eq_true rfl⟩) hK hP hD hS hA (by omega) cM_0 rfl rfl hl.1 rfl (Nat.le_of_ble_eq_true rfl) dX3_work_33 ⟨Nat.le_of_ble_eq_true rfl, Nat.le_of_ble_eq_true rfl⟩ (fun r H locs hr0 hP hD hS => ?_)
      subst hr0
      refine z_ifb_ne (tgt := 41) F dX3_work_36 (by decide) (fun c38 => ?_) (fun c38 => ?_)
      · obtain ⟨h, hh0, hh, rfl⟩ := (zB_iff (by omega) (by decide)).mp (c38.2.1)
        try rw [ix_nI (show h < 2 ^ 31 by omega)]
        obtain ⟨hs, hco⟩ := hI3 _ hc1
        refine lv_aload_n hx hb dX3_work_41 rfl (lv_at hl 1 rfl) ?_
        refine z_get (C := RX3) (T := TX3) (N := 21) (ci := 3) (fs := mObj bd M (nI (x3 (zI (M 0 1) (nI i)) (nI 1 ≤ (nI h) ∧ (nI h) ≤ nI 100) (zI (M 0 1) (nI i) ∧ M 12 (i) = 0)))) (v := .ref (bd 9)) F hK hP hi3 rfl (0) 9 (by omega) cM_0 (by decide) rfl (by decide +kernel) dX3_work_42 ?_
        refine lv_iload_n hx hb dX3_work_45 rfl (lv_at hl 2 rfl) ?_
        refine z_iald (v := nI (M 9 i)) (cA := k 0) (len := 40) (g := mA M O 9) F hK hP (9) 0 (by omega) rfl rfl (i := nI i) i rfl (by omega) (by decide) rfl dX3_work_46 ?_
        refine lv_istore (lv' := [(4, .int (nI (M 9 i))), (3, .int (bI (zI (M 0 1) (nI i)))), (0, .ref (bd 0)), (1, .int (nI i)), (2, .int (nI h))]) hx hb dX3_work_47 hl (by decide) rfl (fun ls hl => ?_)
        refine lv_aload_n hx hb dX3_work_49 rfl (lv_at hl 2 rfl) ?_
        refine lv_iload hx hb dX3_work_50 (lv_at hl 0 rfl) ?_
        refine lv_aload_n hx hb dX3_work_52 rfl (lv_at hl 2 rfl) ?_
        refine z_get (C := RX3) (T := TX3) (N := 21) (ci := 3) (fs := mObj bd M (nI (x3 (zI (M 0 1) (nI i)) (nI 1 ≤ (nI h) ∧ (nI h) ≤ nI 100) (zI (M 0 1) (nI i) ∧ M 12 (i) = 0)))) (v := .ref (bd 10)) F hK hP hi3 rfl (0) 10 (by omega) cM_0 (by decide) rfl (by decide +kernel) dX3_work_53 ?_
        refine lv_iload_n hx hb dX3_work_56 rfl (lv_at hl 3 rfl) ?_
        refine z_iald (v := nI (M 10 i)) (cA := k 0) (len := 40) (g := mA M O 10) F hK hP (10) 0 (by omega) rfl rfl (i := nI i) i rfl (by omega) (by decide) rfl dX3_work_57 ?_
        refine lv_aload_n hx hb dX3_work_58 rfl (lv_at hl 2 rfl) ?_
        refine z_get (C := RX3) (T := TX3) (N := 21) (ci := 3) (fs := mObj bd M (nI (x3 (zI (M 0 1) (nI i)) (nI 1 ≤ (nI h) ∧ (nI h) ≤ nI 100) (zI (M 0 1) (nI i) ∧ M 12 (i) = 0)))) (v := .int (nI (M 0 0))) F hK hP hi3 rfl (0) 0 (by omega) cM_0 (by decide) rfl (by decide +kernel) dX3_work_59 ?_
        refine lv_bipush (v := nI 24) hx hb dX3_work_62 (by decide) ?_
        refine z_div F (by omega) (by omega) (by omega) dX3_work_64 ?_
        refine z_cV (qc := (RX3, TX3, 21)) (As := [.int (nI (M 9 i)), .int (nI (M 10 i)), .int (nI ((M 0 0) / 24))]) (rest := []) (0) F (c_X3_covered l D k bd M O (nI (x3 (zI (M 0 1) (nI i)) (nI 1 ≤ (nI h) ∧ (nI h) ≤ nI 100) (zI (M 0 1) (nI i) ∧ M 12 (i) = 0))) (M 9 i) (M 10 i) (M 0 0 / 24) hs hco hc1 hc2 (by omega)) (cwV 3 hts gX3_work_X3_covered rfl rfl rfl (by decide +kernel) ⟨Nat.le_of_ble_eq_true rfl, Nat.le_of_ble_eq_true rfl⟩) hK hP (by omega) cM_0 rfl rfl hl.1 rfl (Nat.le_of_ble_eq_true rfl) dX3_work_65 ⟨Nat.le_of_ble_eq_true rfl, Nat.le_of_ble_eq_true rfl⟩ (fun r hr => ?_)
        subst hr
        refine z_ifb_eq (tgt := 73) F dX3_work_68 (by decide) (fun c39 => ?_) (fun c39 => ?_)
        · refine lv_aload_n hx hb dX3_work_73 rfl (lv_at hl 2 rfl) ?_
          refine z_get (C := RX3) (T := TX3) (N := 21) (ci := 3) (fs := mObj bd M (nI (x3 (zI (M 0 1) (nI i)) (nI 1 ≤ (nI h) ∧ (nI h) ≤ nI 100) (zI (M 0 1) (nI i) ∧ M 12 (i) = 0)))) (v := .ref (bd 17)) F hK hP hi3 rfl (0) 18 (by omega) cM_0 (by decide) rfl (by decide +kernel) dX3_work_74 ?_
          refine lv_iload hx hb dX3_work_77 (lv_at hl 0 rfl) ?_
          refine z_iald (v := O 0 (M 9 i)) (cA := k 0) (len := 4) (g := mA M O 17) F hK hP (17) 0 (by omega) rfl rfl (i := nI (M 9 i)) (M 9 i) rfl hc1 (by decide) rfl dX3_work_79 ?_
          refine lv_iload_n hx hb dX3_work_80 rfl (lv_at hl 4 rfl) ?_
          refine lv_icmp_ge (tgt := 94) hx hb dX3_work_81 (by decide) (fun c40 => ?_) (fun c40 => ?_)
          · refine lv_iload_n hx hb dX3_work_94 rfl (lv_at hl 4 rfl) ?_
            refine z_top (show nI h = wkU O (M 9 i) h by unfold wkU; rw [if_neg (Int32.not_lt.mpr c40)]) ?_
            refine lv_istore (lv' := [(5, .int (wkU O (M 9 i) h)), (4, .int (nI (M 9 i))), (3, .int (bI (zI (M 0 1) (nI i)))), (0, .ref (bd 0)), (1, .int (nI i)), (2, .int (nI h))]) hx hb dX3_work_95 hl (by decide) rfl (fun ls hl => ?_)
            refine lv_aload_n hx hb dX3_work_97 rfl (lv_at hl 3 rfl) ?_
            refine z_get (C := RX3) (T := TX3) (N := 21) (ci := 3) (fs := mObj bd M (nI (x3 (zI (M 0 1) (nI i)) (nI 1 ≤ (nI h) ∧ (nI h) ≤ nI 100) (zI (M 0 1) (nI i) ∧ M 12 (i) = 0)))) (v := .ref (bd 17)) F hK hP hi3 rfl (0) 18 (by omega) cM_0 (by decide) rfl (by decide +kernel) dX3_work_98 ?_
            refine lv_iload hx hb dX3_work_101 (lv_at hl 1 rfl) ?_
            refine lv_dup2_11 hx hb dX3_work_103 rfl rfl ?_
            refine z_iald (v := O 0 (M 9 i)) (cA := k 0) (len := 4) (g := mA M O 17) F hK hP (17) 0 (by omega) rfl rfl (i := nI (M 9 i)) (M 9 i) rfl hc1 (by decide) rfl dX3_work_104 ?_
            refine lv_iload hx hb dX3_work_105 (lv_at hl 0 rfl) ?_
            refine lv_isub hx hb dX3_work_107 ?_
            refine z_iast (f' := (cM k bd M (zo O 0 (M 9 i) ((O 0 (M 9 i)) - (wkU O (M 9 i) h))) (nI (x3 (zI (M 0 1) (nI i)) (nI 1 ≤ (nI h) ∧ (nI h) ≤ nI 100) (zI (M 0 1) (nI i) ∧ M 12 (i) = 0))))) (cA := k 0) (len := 4) (g := mA M O 17) F hK hP hD hS (17) 0 (by omega) rfl rfl (i := nI (M 9 i)) (M 9 i) rfl hc1 (by decide) (cM_uahead _ _) dX3_work_108 (fun H locs hP hD hS => ?_)
            refine lv_aload_n hx hb dX3_work_109 rfl (lv_at hl 3 rfl) ?_
            refine z_get (C := RX3) (T := TX3) (N := 21) (ci := 3) (fs := mObj bd M (nI (x3 (zI (M 0 1) (nI i)) (nI 1 ≤ (nI h) ∧ (nI h) ≤ nI 100) (zI (M 0 1) (nI i) ∧ M 12 (i) = 0)))) (v := .ref (bd 18)) F hK hP hi3 rfl (0) 19 (by omega) cM_0 (by decide) rfl (by decide +kernel) dX3_work_110 ?_
            refine lv_iload hx hb dX3_work_113 (lv_at hl 1 rfl) ?_
            refine lv_dup2_11 hx hb dX3_work_115 rfl rfl ?_
            refine z_iald (v := (zo O 0 (M 9 i) ((O 0 (M 9 i)) - (wkU O (M 9 i) h))) 1 (M 9 i)) (cA := k 0) (len := 4) (g := mA M (zo O 0 (M 9 i) ((O 0 (M 9 i)) - (wkU O (M 9 i) h))) 18) F hK hP (18) 0 (by omega) rfl rfl (i := nI (M 9 i)) (M 9 i) rfl hc1 (by decide) rfl dX3_work_116 ?_
            refine lv_sipush (v := nI 9000) hx hb dX3_work_117 (by decide) ?_
            refine lv_iload_n hx hb dX3_work_120 rfl (lv_at hl 5 rfl) ?_
            refine lv_iload hx hb dX3_work_121 (lv_at hl 0 rfl) ?_
            refine lv_isub hx hb dX3_work_123 ?_
            refine lv_imul hx hb dX3_work_124 ?_
            refine z_top (show _ = wkC O (M 9 i) h by unfold wkC; rw [Int32.mul_comm]) ?_
            refine lv_iadd hx hb dX3_work_125 ?_
            refine z_iast (f' := (cM k bd M (zo (zo O 0 (M 9 i) ((O 0 (M 9 i)) - (wkU O (M 9 i) h))) 1 (M 9 i) (((zo O 0 (M 9 i) ((O 0 (M 9 i)) - (wkU O (M 9 i) h))) 1 (M 9 i)) + (wkC O (M 9 i) h))) (nI (x3 (zI (M 0 1) (nI i)) (nI 1 ≤ (nI h) ∧ (nI h) ≤ nI 100) (zI (M 0 1) (nI i) ∧ M 12 (i) = 0))))) (cA := k 0) (len := 4) (g := mA M (zo O 0 (M 9 i) ((O 0 (M 9 i)) - (wkU O (M 9 i) h))) 18) F hK hP hD hS (18) 0 (by omega) rfl rfl (i := nI (M 9 i)) (M 9 i) rfl hc1 (by decide) (cM_uowes _ _) dX3_work_126 (fun H locs hP hD hS => ?_)
            refine lv_sipush (v := nI 9000) hx hb dX3_work_127 (by decide) ?_
            refine lv_iload_n hx hb dX3_work_130 rfl (lv_at hl 5 rfl) ?_
            refine lv_iload hx hb dX3_work_131 (lv_at hl 0 rfl) ?_
            refine lv_isub hx hb dX3_work_133 ?_
            refine lv_imul hx hb dX3_work_134 ?_
            refine z_top (show _ = wkC O (M 9 i) h by unfold wkC; rw [Int32.mul_comm]) ?_
            have hx0 : (x3 (zI (M 0 1) (nI i)) (nI 1 ≤ (nI h) ∧ (nI h) ≤ nI 100) (M 12 (i) = 0)) = 0 := x3_0 c38.1 c38.2.1 c38.2.2.2
            have eW : cM k bd M (if (x3 (zI (M 0 1) (nI i)) (nI 1 ≤ (nI h) ∧ (nI h) ≤ nI 100) (M 12 (i) = 0)) = 0 then (wkO M O (i) (h)) else O) (nI ((x3 (zI (M 0 1) (nI i)) (nI 1 ≤ (nI h) ∧ (nI h) ≤ nI 100) (M 12 (i) = 0)))) = cM k bd M (zo (zo O 0 (M 9 i) ((O 0 (M 9 i)) - (wkU O (M 9 i) h))) 1 (M 9 i) (((zo O 0 (M 9 i) ((O 0 (M 9 i)) - (wkU O (M 9 i) h))) 1 (M 9 i)) + (wkC O (M 9 i) h))) (nI (x3 (zI (M 0 1) (nI i)) (nI 1 ≤ (nI h) ∧ (nI h) ≤ nI 100) (zI (M 0 1) (nI i) ∧ M 12 (i) = 0))) := by rw [if_pos hx0, ← x3_ac, wkO_f c39] <;> rfl
            rw [← eW] at hP hD
            refine W.widen (k := 0) (n := 0) (Nat.le_of_ble_eq_true rfl) (Nat.le_of_ble_eq_true rfl) ?_
            exact W.iret (v := wkC O (M 9 i) h) hx hb hr (fun t ht hW => ⟨⟨wkC O (M 9 i) h, (), rfl, fun _ => (wkR_f c39).symm, ⟨by rw [ht]; exact hP, va_K.moved hW.alike hK⟩, hD⟩, hS.F ht⟩) hS.2.2 dX3_work_135
          · refine lv_aload_n hx hb dX3_work_84 rfl (lv_at hl 2 rfl) ?_
            refine z_get (C := RX3) (T := TX3) (N := 21) (ci := 3) (fs := mObj bd M (nI (x3 (zI (M 0 1) (nI i)) (nI 1 ≤ (nI h) ∧ (nI h) ≤ nI 100) (zI (M 0 1) (nI i) ∧ M 12 (i) = 0)))) (v := .ref (bd 17)) F hK hP hi3 rfl (0) 18 (by omega) cM_0 (by decide) rfl (by decide +kernel) dX3_work_85 ?_
            refine lv_iload hx hb dX3_work_88 (lv_at hl 0 rfl) ?_
            refine z_iald (v := O 0 (M 9 i)) (cA := k 0) (len := 4) (g := mA M O 17) F hK hP (17) 0 (by omega) rfl rfl (i := nI (M 9 i)) (M 9 i) rfl hc1 (by decide) rfl dX3_work_90 ?_
            refine lv_goto (tgt := 95) hx hb dX3_work_91 (by decide) ?_
            refine z_top (show O 0 (M 9 i) = wkU O (M 9 i) h by unfold wkU; rw [if_pos (Int32.not_le.mp c40)]) ?_
            refine lv_istore (lv' := [(5, .int (wkU O (M 9 i) h)), (4, .int (nI (M 9 i))), (3, .int (bI (zI (M 0 1) (nI i)))), (0, .ref (bd 0)), (1, .int (nI i)), (2, .int (nI h))]) hx hb dX3_work_95 hl (by decide) rfl (fun ls hl => ?_)
            refine lv_aload_n hx hb dX3_work_97 rfl (lv_at hl 3 rfl) ?_
            refine z_get (C := RX3) (T := TX3) (N := 21) (ci := 3) (fs := mObj bd M (nI (x3 (zI (M 0 1) (nI i)) (nI 1 ≤ (nI h) ∧ (nI h) ≤ nI 100) (zI (M 0 1) (nI i) ∧ M 12 (i) = 0)))) (v := .ref (bd 17)) F hK hP hi3 rfl (0) 18 (by omega) cM_0 (by decide) rfl (by decide +kernel) dX3_work_98 ?_
            refine lv_iload hx hb dX3_work_101 (lv_at hl 1 rfl) ?_
            refine lv_dup2_11 hx hb dX3_work_103 rfl rfl ?_
            refine z_iald (v := O 0 (M 9 i)) (cA := k 0) (len := 4) (g := mA M O 17) F hK hP (17) 0 (by omega) rfl rfl (i := nI (M 9 i)) (M 9 i) rfl hc1 (by decide) rfl dX3_work_104 ?_
            refine lv_iload hx hb dX3_work_105 (lv_at hl 0 rfl) ?_
            refine lv_isub hx hb dX3_work_107 ?_
            refine z_iast (f' := (cM k bd M (zo O 0 (M 9 i) ((O 0 (M 9 i)) - (wkU O (M 9 i) h))) (nI (x3 (zI (M 0 1) (nI i)) (nI 1 ≤ (nI h) ∧ (nI h) ≤ nI 100) (zI (M 0 1) (nI i) ∧ M 12 (i) = 0))))) (cA := k 0) (len := 4) (g := mA M O 17) F hK hP hD hS (17) 0 (by omega) rfl rfl (i := nI (M 9 i)) (M 9 i) rfl hc1 (by decide) (cM_uahead _ _) dX3_work_108 (fun H locs hP hD hS => ?_)
            refine lv_aload_n hx hb dX3_work_109 rfl (lv_at hl 3 rfl) ?_
            refine z_get (C := RX3) (T := TX3) (N := 21) (ci := 3) (fs := mObj bd M (nI (x3 (zI (M 0 1) (nI i)) (nI 1 ≤ (nI h) ∧ (nI h) ≤ nI 100) (zI (M 0 1) (nI i) ∧ M 12 (i) = 0)))) (v := .ref (bd 18)) F hK hP hi3 rfl (0) 19 (by omega) cM_0 (by decide) rfl (by decide +kernel) dX3_work_110 ?_
            refine lv_iload hx hb dX3_work_113 (lv_at hl 1 rfl) ?_
            refine lv_dup2_11 hx hb dX3_work_115 rfl rfl ?_
            refine z_iald (v := (zo O 0 (M 9 i) ((O 0 (M 9 i)) - (wkU O (M 9 i) h))) 1 (M 9 i)) (cA := k 0) (len := 4) (g := mA M (zo O 0 (M 9 i) ((O 0 (M 9 i)) - (wkU O (M 9 i) h))) 18) F hK hP (18) 0 (by omega) rfl rfl (i := nI (M 9 i)) (M 9 i) rfl hc1 (by decide) rfl dX3_work_116 ?_
            refine lv_sipush (v := nI 9000) hx hb dX3_work_117 (by decide) ?_
            refine lv_iload_n hx hb dX3_work_120 rfl (lv_at hl 5 rfl) ?_
            refine lv_iload hx hb dX3_work_121 (lv_at hl 0 rfl) ?_
            refine lv_isub hx hb dX3_work_123 ?_
            refine lv_imul hx hb dX3_work_124 ?_
            refine z_top (show _ = wkC O (M 9 i) h by unfold wkC; rw [Int32.mul_comm]) ?_
            refine lv_iadd hx hb dX3_work_125 ?_
            refine z_iast (f' := (cM k bd M (zo (zo O 0 (M 9 i) ((O 0 (M 9 i)) - (wkU O (M 9 i) h))) 1 (M 9 i) (((zo O 0 (M 9 i) ((O 0 (M 9 i)) - (wkU O (M 9 i) h))) 1 (M 9 i)) + (wkC O (M 9 i) h))) (nI (x3 (zI (M 0 1) (nI i)) (nI 1 ≤ (nI h) ∧ (nI h) ≤ nI 100) (zI (M 0 1) (nI i) ∧ M 12 (i) = 0))))) (cA := k 0) (len := 4) (g := mA M (zo O 0 (M 9 i) ((O 0 (M 9 i)) - (wkU O (M 9 i) h))) 18) F hK hP hD hS (18) 0 (by omega) rfl rfl (i := nI (M 9 i)) (M 9 i) rfl hc1 (by decide) (cM_uowes _ _) dX3_work_126 (fun H locs hP hD hS => ?_)
            refine lv_sipush (v := nI 9000) hx hb dX3_work_127 (by decide) ?_
            refine lv_iload_n hx hb dX3_work_130 rfl (lv_at hl 5 rfl) ?_
            refine lv_iload hx hb dX3_work_131 (lv_at hl 0 rfl) ?_
            refine lv_isub hx hb dX3_work_133 ?_
            refine lv_imul hx hb dX3_work_134 ?_
            refine z_top (show _ = wkC O (M 9 i) h by unfold wkC; rw [Int32.mul_comm]) ?_
            have hx0 : (x3 (zI (M 0 1) (nI i)) (nI 1 ≤ (nI h) ∧ (nI h) ≤ nI 100) (M 12 (i) = 0)) = 0 := x3_0 c38.1 c38.2.1 c38.2.2.2
            have eW : cM k bd M (if (x3 (zI (M 0 1) (nI i)) (nI 1 ≤ (nI h) ∧ (nI h) ≤ nI 100) (M 12 (i) = 0)) = 0 then (wkO M O (i) (h)) else O) (nI ((x3 (zI (M 0 1) (nI i)) (nI 1 ≤ (nI h) ∧ (nI h) ≤ nI 100) (M 12 (i) = 0)))) = cM k bd M (zo (zo O 0 (M 9 i) ((O 0 (M 9 i)) - (wkU O (M 9 i) h))) 1 (M 9 i) (((zo O 0 (M 9 i) ((O 0 (M 9 i)) - (wkU O (M 9 i) h))) 1 (M 9 i)) + (wkC O (M 9 i) h))) (nI (x3 (zI (M 0 1) (nI i)) (nI 1 ≤ (nI h) ∧ (nI h) ≤ nI 100) (zI (M 0 1) (nI i) ∧ M 12 (i) = 0))) := by rw [if_pos hx0, ← x3_ac, wkO_f c39] <;> rfl
            rw [← eW] at hP hD
            refine W.widen (k := 0) (n := 0) (Nat.le_of_ble_eq_true rfl) (Nat.le_of_ble_eq_true rfl) ?_
            exact W.iret (v := wkC O (M 9 i) h) hx hb hr (fun t ht hW => ⟨⟨wkC O (M 9 i) h, (), rfl, fun _ => (wkR_f c39).symm, ⟨by rw [ht]; exact hP, va_K.moved hW.alike hK⟩, hD⟩, hS.F ht⟩) hS.2.2 dX3_work_135
        · refine lv_iconst (v := nI 0) hx hb dX3_work_71 (by decide) ?_
          have hx0 : (x3 (zI (M 0 1) (nI i)) (nI 1 ≤ (nI h) ∧ (nI h) ≤ nI 100) (M 12 (i) = 0)) = 0 := x3_0 c38.1 c38.2.1 c38.2.2.2
          have eW : cM k bd M (if (x3 (zI (M 0 1) (nI i)) (nI 1 ≤ (nI h) ∧ (nI h) ≤ nI 100) (M 12 (i) = 0)) = 0 then (wkO M O (i) (h)) else O) (nI ((x3 (zI (M 0 1) (nI i)) (nI 1 ≤ (nI h) ∧ (nI h) ≤ nI 100) (M 12 (i) = 0)))) = cM k bd M O (nI (x3 (zI (M 0 1) (nI i)) (nI 1 ≤ (nI h) ∧ (nI h) ≤ nI 100) (zI (M 0 1) (nI i) ∧ M 12 (i) = 0))) := by rw [if_pos hx0, ← x3_ac, wkO_t c39] <;> rfl
          rw [← eW] at hP hD
          refine W.widen (k := 0) (n := 0) (Nat.le_of_ble_eq_true rfl) (Nat.le_of_ble_eq_true rfl) ?_
          exact W.iret (v := nI 0) hx hb hr (fun t ht hW => ⟨⟨nI 0, (), rfl, fun _ => (wkR_t c39).symm, ⟨by rw [ht]; exact hP, va_K.moved hW.alike hK⟩, hD⟩, hS.F ht⟩) hS.2.2 dX3_work_72
      · refine lv_iconst (v := nI 0) hx hb dX3_work_39 (by decide) ?_
        have hx0 : (x3 (zI (M 0 1) (nI i)) (nI 1 ≤ p1 ∧ p1 ≤ nI 100) (M 12 (i) = 0)) ≠ 0 := x3_no (fun zz1 => c38 ⟨zz1.1, zz1.2.1, zz1.1, zz1.2.2⟩)
        have eW : cM k bd M (if (x3 (zI (M 0 1) (nI i)) (nI 1 ≤ p1 ∧ p1 ≤ nI 100) (M 12 (i) = 0)) = 0 then (wkO M O (i) (ix p1)) else O) (nI ((x3 (zI (M 0 1) (nI i)) (nI 1 ≤ p1 ∧ p1 ≤ nI 100) (M 12 (i) = 0)))) = cM k bd M O (nI (x3 (zI (M 0 1) (nI i)) (nI 1 ≤ p1 ∧ p1 ≤ nI 100) (zI (M 0 1) (nI i) ∧ M 12 (i) = 0))) := by rw [if_neg hx0, ← x3_ac] <;> rfl
        rw [← eW] at hP hD
        refine W.widen (k := 0) (n := 0) (Nat.le_of_ble_eq_true rfl) (Nat.le_of_ble_eq_true rfl) ?_
        exact W.iret (v := nI 0) hx hb hr (fun t ht hW => ⟨⟨nI 0, (), rfl, fun zz1 => absurd zz1 hx0, ⟨by rw [ht]; exact hP, va_K.moved hW.alike hK⟩, hD⟩, hS.F ht⟩) hS.2.2 dX3_work_40
    · refine lv_iconst (v := nI 1) hx hb dX3_work_28 (by decide) ?_
      refine lv_goto (tgt := 33) hx hb dX3_work_29 (by decide) ?_
      refine z_top (show nI 1 = bI (zI (M 0 1) (nI i) ∧ M 12 (i) = 0) from (bI_t ⟨c35, c37⟩).symm) ?_
      refine z_mV (qc := (RX3, TX3, 21)) (As := [.int (bI (zI (M 0 1) (nI i))), .int (bI (nI 1 ≤ p1 ∧ p1 ≤ nI 100)), .int (bI (zI (M 0 1) (nI i) ∧ M 12 (i) = 0))]) (rest := []) (0) F (c_X3_asked__ l D k bd M O th _ (zI (M 0 1) (nI i)) (nI 1 ≤ p1 ∧ p1 ≤ nI 100) (zI (M 0 1) (nI i) ∧ M 12 (i) = 0)) (cwV 3 hts gX3_work_X3_asked__ rfl rfl rfl (by decide +kernel) ⟨Nat.le_of_ble_eq_true rfl, Nat.le_of_ble_eq_true rfl⟩) hK hP hD hS hA (by omega) cM_0 rfl rfl hl.1 rfl (Nat.le_of_ble_eq_true rfl) dX3_work_33 ⟨Nat.le_of_ble_eq_true rfl, Nat.le_of_ble_eq_true rfl⟩ (fun r H locs hr0 hP hD hS => ?_)
      subst hr0
      refine z_ifb_ne (tgt := 41) F dX3_work_36 (by decide) (fun c41 => ?_) (fun c41 => ?_)
      · obtain ⟨h, hh0, hh, rfl⟩ := (zB_iff (by omega) (by decide)).mp (c41.2.1)
        try rw [ix_nI (show h < 2 ^ 31 by omega)]
        obtain ⟨hs, hco⟩ := hI3 _ hc1
        refine lv_aload_n hx hb dX3_work_41 rfl (lv_at hl 1 rfl) ?_
        refine z_get (C := RX3) (T := TX3) (N := 21) (ci := 3) (fs := mObj bd M (nI (x3 (zI (M 0 1) (nI i)) (nI 1 ≤ (nI h) ∧ (nI h) ≤ nI 100) (zI (M 0 1) (nI i) ∧ M 12 (i) = 0)))) (v := .ref (bd 9)) F hK hP hi3 rfl (0) 9 (by omega) cM_0 (by decide) rfl (by decide +kernel) dX3_work_42 ?_
        refine lv_iload_n hx hb dX3_work_45 rfl (lv_at hl 2 rfl) ?_
        refine z_iald (v := nI (M 9 i)) (cA := k 0) (len := 40) (g := mA M O 9) F hK hP (9) 0 (by omega) rfl rfl (i := nI i) i rfl (by omega) (by decide) rfl dX3_work_46 ?_
        refine lv_istore (lv' := [(4, .int (nI (M 9 i))), (3, .int (bI (zI (M 0 1) (nI i)))), (0, .ref (bd 0)), (1, .int (nI i)), (2, .int (nI h))]) hx hb dX3_work_47 hl (by decide) rfl (fun ls hl => ?_)
        refine lv_aload_n hx hb dX3_work_49 rfl (lv_at hl 2 rfl) ?_
        refine lv_iload hx hb dX3_work_50 (lv_at hl 0 rfl) ?_
        refine lv_aload_n hx hb dX3_work_52 rfl (lv_at hl 2 rfl) ?_
        refine z_get (C := RX3) (T := TX3) (N := 21) (ci := 3) (fs := mObj bd M (nI (x3 (zI (M 0 1) (nI i)) (nI 1 ≤ (nI h) ∧ (nI h) ≤ nI 100) (zI (M 0 1) (nI i) ∧ M 12 (i) = 0)))) (v := .ref (bd 10)) F hK hP hi3 rfl (0) 10 (by omega) cM_0 (by decide) rfl (by decide +kernel) dX3_work_53 ?_
        refine lv_iload_n hx hb dX3_work_56 rfl (lv_at hl 3 rfl) ?_
        refine z_iald (v := nI (M 10 i)) (cA := k 0) (len := 40) (g := mA M O 10) F hK hP (10) 0 (by omega) rfl rfl (i := nI i) i rfl (by omega) (by decide) rfl dX3_work_57 ?_
        refine lv_aload_n hx hb dX3_work_58 rfl (lv_at hl 2 rfl) ?_
        refine z_get (C := RX3) (T := TX3) (N := 21) (ci := 3) (fs := mObj bd M (nI (x3 (zI (M 0 1) (nI i)) (nI 1 ≤ (nI h) ∧ (nI h) ≤ nI 100) (zI (M 0 1) (nI i) ∧ M 12 (i) = 0)))) (v := .int (nI (M 0 0))) F hK hP hi3 rfl (0) 0 (by omega) cM_0 (by decide) rfl (by decide +kernel) dX3_work_59 ?_
        refine lv_bipush (v := nI 24) hx hb dX3_work_62 (by decide) ?_
        refine z_div F (by omega) (by omega) (by omega) dX3_work_64 ?_
        refine z_cV (qc := (RX3, TX3, 21)) (As := [.int (nI (M 9 i)), .int (nI (M 10 i)), .int (nI ((M 0 0) / 24))]) (rest := []) (0) F (c_X3_covered l D k bd M O (nI (x3 (zI (M 0 1) (nI i)) (nI 1 ≤ (nI h) ∧ (nI h) ≤ nI 100) (zI (M 0 1) (nI i) ∧ M 12 (i) = 0))) (M 9 i) (M 10 i) (M 0 0 / 24) hs hco hc1 hc2 (by omega)) (cwV 3 hts gX3_work_X3_covered rfl rfl rfl (by decide +kernel) ⟨Nat.le_of_ble_eq_true rfl, Nat.le_of_ble_eq_true rfl⟩) hK hP (by omega) cM_0 rfl rfl hl.1 rfl (Nat.le_of_ble_eq_true rfl) dX3_work_65 ⟨Nat.le_of_ble_eq_true rfl, Nat.le_of_ble_eq_true rfl⟩ (fun r hr => ?_)
        subst hr
        refine z_ifb_eq (tgt := 73) F dX3_work_68 (by decide) (fun c42 => ?_) (fun c42 => ?_)
        · refine lv_aload_n hx hb dX3_work_73 rfl (lv_at hl 2 rfl) ?_
          refine z_get (C := RX3) (T := TX3) (N := 21) (ci := 3) (fs := mObj bd M (nI (x3 (zI (M 0 1) (nI i)) (nI 1 ≤ (nI h) ∧ (nI h) ≤ nI 100) (zI (M 0 1) (nI i) ∧ M 12 (i) = 0)))) (v := .ref (bd 17)) F hK hP hi3 rfl (0) 18 (by omega) cM_0 (by decide) rfl (by decide +kernel) dX3_work_74 ?_
          refine lv_iload hx hb dX3_work_77 (lv_at hl 0 rfl) ?_
          refine z_iald (v := O 0 (M 9 i)) (cA := k 0) (len := 4) (g := mA M O 17) F hK hP (17) 0 (by omega) rfl rfl (i := nI (M 9 i)) (M 9 i) rfl hc1 (by decide) rfl dX3_work_79 ?_
          refine lv_iload_n hx hb dX3_work_80 rfl (lv_at hl 4 rfl) ?_
          refine lv_icmp_ge (tgt := 94) hx hb dX3_work_81 (by decide) (fun c43 => ?_) (fun c43 => ?_)
          · refine lv_iload_n hx hb dX3_work_94 rfl (lv_at hl 4 rfl) ?_
            refine z_top (show nI h = wkU O (M 9 i) h by unfold wkU; rw [if_neg (Int32.not_lt.mpr c43)]) ?_
            refine lv_istore (lv' := [(5, .int (wkU O (M 9 i) h)), (4, .int (nI (M 9 i))), (3, .int (bI (zI (M 0 1) (nI i)))), (0, .ref (bd 0)), (1, .int (nI i)), (2, .int (nI h))]) hx hb dX3_work_95 hl (by decide) rfl (fun ls hl => ?_)
            refine lv_aload_n hx hb dX3_work_97 rfl (lv_at hl 3 rfl) ?_
            refine z_get (C := RX3) (T := TX3) (N := 21) (ci := 3) (fs := mObj bd M (nI (x3 (zI (M 0 1) (nI i)) (nI 1 ≤ (nI h) ∧ (nI h) ≤ nI 100) (zI (M 0 1) (nI i) ∧ M 12 (i) = 0)))) (v := .ref (bd 17)) F hK hP hi3 rfl (0) 18 (by omega) cM_0 (by decide) rfl (by decide +kernel) dX3_work_98 ?_
            refine lv_iload hx hb dX3_work_101 (lv_at hl 1 rfl) ?_
            refine lv_dup2_11 hx hb dX3_work_103 rfl rfl ?_
            refine z_iald (v := O 0 (M 9 i)) (cA := k 0) (len := 4) (g := mA M O 17) F hK hP (17) 0 (by omega) rfl rfl (i := nI (M 9 i)) (M 9 i) rfl hc1 (by decide) rfl dX3_work_104 ?_
            refine lv_iload hx hb dX3_work_105 (lv_at hl 0 rfl) ?_
            refine lv_isub hx hb dX3_work_107 ?_
            refine z_iast (f' := (cM k bd M (zo O 0 (M 9 i) ((O 0 (M 9 i)) - (wkU O (M 9 i) h))) (nI (x3 (zI (M 0 1) (nI i)) (nI 1 ≤ (nI h) ∧ (nI h) ≤ nI 100) (zI (M 0 1) (nI i) ∧ M 12 (i) = 0))))) (cA := k 0) (len := 4) (g := mA M O 17) F hK hP hD hS (17) 0 (by omega) rfl rfl (i := nI (M 9 i)) (M 9 i) rfl hc1 (by decide) (cM_uahead _ _) dX3_work_108 (fun H locs hP hD hS => ?_)
            refine lv_aload_n hx hb dX3_work_109 rfl (lv_at hl 3 rfl) ?_
            refine z_get (C := RX3) (T := TX3) (N := 21) (ci := 3) (fs := mObj bd M (nI (x3 (zI (M 0 1) (nI i)) (nI 1 ≤ (nI h) ∧ (nI h) ≤ nI 100) (zI (M 0 1) (nI i) ∧ M 12 (i) = 0)))) (v := .ref (bd 18)) F hK hP hi3 rfl (0) 19 (by omega) cM_0 (by decide) rfl (by decide +kernel) dX3_work_110 ?_
            refine lv_iload hx hb dX3_work_113 (lv_at hl 1 rfl) ?_
            refine lv_dup2_11 hx hb dX3_work_115 rfl rfl ?_
            refine z_iald (v := (zo O 0 (M 9 i) ((O 0 (M 9 i)) - (wkU O (M 9 i) h))) 1 (M 9 i)) (cA := k 0) (len := 4) (g := mA M (zo O 0 (M 9 i) ((O 0 (M 9 i)) - (wkU O (M 9 i) h))) 18) F hK hP (18) 0 (by omega) rfl rfl (i := nI (M 9 i)) (M 9 i) rfl hc1 (by decide) rfl dX3_work_116 ?_
            refine lv_sipush (v := nI 9000) hx hb dX3_work_117 (by decide) ?_
            refine lv_iload_n hx hb dX3_work_120 rfl (lv_at hl 5 rfl) ?_
            refine lv_iload hx hb dX3_work_121 (lv_at hl 0 rfl) ?_
            refine lv_isub hx hb dX3_work_123 ?_
            refine lv_imul hx hb dX3_work_124 ?_
            refine z_top (show _ = wkC O (M 9 i) h by unfold wkC; rw [Int32.mul_comm]) ?_
            refine lv_iadd hx hb dX3_work_125 ?_
            refine z_iast (f' := (cM k bd M (zo (zo O 0 (M 9 i) ((O 0 (M 9 i)) - (wkU O (M 9 i) h))) 1 (M 9 i) (((zo O 0 (M 9 i) ((O 0 (M 9 i)) - (wkU O (M 9 i) h))) 1 (M 9 i)) + (wkC O (M 9 i) h))) (nI (x3 (zI (M 0 1) (nI i)) (nI 1 ≤ (nI h) ∧ (nI h) ≤ nI 100) (zI (M 0 1) (nI i) ∧ M 12 (i) = 0))))) (cA := k 0) (len := 4) (g := mA M (zo O 0 (M 9 i) ((O 0 (M 9 i)) - (wkU O (M 9 i) h))) 18) F hK hP hD hS (18) 0 (by omega) rfl rfl (i := nI (M 9 i)) (M 9 i) rfl hc1 (by decide) (cM_uowes _ _) dX3_work_126 (fun H locs hP hD hS => ?_)
            refine lv_sipush (v := nI 9000) hx hb dX3_work_127 (by decide) ?_
            refine lv_iload_n hx hb dX3_work_130 rfl (lv_at hl 5 rfl) ?_
            refine lv_iload hx hb dX3_work_131 (lv_at hl 0 rfl) ?_
            refine lv_isub hx hb dX3_work_133 ?_
            refine lv_imul hx hb dX3_work_134 ?_
            refine z_top (show _ = wkC O (M 9 i) h by unfold wkC; rw [Int32.mul_comm]) ?_
            have hx0 : (x3 (zI (M 0 1) (nI i)) (nI 1 ≤ (nI h) ∧ (nI h) ≤ nI 100) (M 12 (i) = 0)) = 0 := x3_0 c41.1 c41.2.1 c41.2.2.2
            have eW : cM k bd M (if (x3 (zI (M 0 1) (nI i)) (nI 1 ≤ (nI h) ∧ (nI h) ≤ nI 100) (M 12 (i) = 0)) = 0 then (wkO M O (i) (h)) else O) (nI ((x3 (zI (M 0 1) (nI i)) (nI 1 ≤ (nI h) ∧ (nI h) ≤ nI 100) (M 12 (i) = 0)))) = cM k bd M (zo (zo O 0 (M 9 i) ((O 0 (M 9 i)) - (wkU O (M 9 i) h))) 1 (M 9 i) (((zo O 0 (M 9 i) ((O 0 (M 9 i)) - (wkU O (M 9 i) h))) 1 (M 9 i)) + (wkC O (M 9 i) h))) (nI (x3 (zI (M 0 1) (nI i)) (nI 1 ≤ (nI h) ∧ (nI h) ≤ nI 100) (zI (M 0 1) (nI i) ∧ M 12 (i) = 0))) := by rw [if_pos hx0, ← x3_ac, wkO_f c42] <;> rfl
            rw [← eW] at hP hD
            refine W.widen (k := 0) (n := 0) (Nat.le_of_ble_eq_true rfl) (Nat.le_of_ble_eq_true rfl) ?_
            exact W.iret (v := wkC O (M 9 i) h) hx hb hr (fun t ht hW => ⟨⟨wkC O (M 9 i) h, (), rfl, fun _ => (wkR_f c42).symm, ⟨by rw [ht]; exact hP, va_K.moved hW.alike hK⟩, hD⟩, hS.F ht⟩) hS.2.2 dX3_work_135
          · refine lv_aload_n hx hb dX3_work_84 rfl (lv_at hl 2 rfl) ?_
            refine z_get (C := RX3) (T := TX3) (N := 21) (ci := 3) (fs := mObj bd M (nI (x3 (zI (M 0 1) (nI i)) (nI 1 ≤ (nI h) ∧ (nI h) ≤ nI 100) (zI (M 0 1) (nI i) ∧ M 12 (i) = 0)))) (v := .ref (bd 17)) F hK hP hi3 rfl (0) 18 (by omega) cM_0 (by decide) rfl (by decide +kernel) dX3_work_85 ?_
            refine lv_iload hx hb dX3_work_88 (lv_at hl 0 rfl) ?_
            refine z_iald (v := O 0 (M 9 i)) (cA := k 0) (len := 4) (g := mA M O 17) F hK hP (17) 0 (by omega) rfl rfl (i := nI (M 9 i)) (M 9 i) rfl hc1 (by decide) rfl dX3_work_90 ?_
            refine lv_goto (tgt := 95) hx hb dX3_work_91 (by decide) ?_
            refine z_top (show O 0 (M 9 i) = wkU O (M 9 i) h by unfold wkU; rw [if_pos (Int32.not_le.mp c43)]) ?_
            refine lv_istore (lv' := [(5, .int (wkU O (M 9 i) h)), (4, .int (nI (M 9 i))), (3, .int (bI (zI (M 0 1) (nI i)))), (0, .ref (bd 0)), (1, .int (nI i)), (2, .int (nI h))]) hx hb dX3_work_95 hl (by decide) rfl (fun ls hl => ?_)
            refine lv_aload_n hx hb dX3_work_97 rfl (lv_at hl 3 rfl) ?_
            refine z_get (C := RX3) (T := TX3) (N := 21) (ci := 3) (fs := mObj bd M (nI (x3 (zI (M 0 1) (nI i)) (nI 1 ≤ (nI h) ∧ (nI h) ≤ nI 100) (zI (M 0 1) (nI i) ∧ M 12 (i) = 0)))) (v := .ref (bd 17)) F hK hP hi3 rfl (0) 18 (by omega) cM_0 (by decide) rfl (by decide +kernel) dX3_work_98 ?_
            refine lv_iload hx hb dX3_work_101 (lv_at hl 1 rfl) ?_
            refine lv_dup2_11 hx hb dX3_work_103 rfl rfl ?_
            refine z_iald (v := O 0 (M 9 i)) (cA := k 0) (len := 4) (g := mA M O 17) F hK hP (17) 0 (by omega) rfl rfl (i := nI (M 9 i)) (M 9 i) rfl hc1 (by decide) rfl dX3_work_104 ?_
            refine lv_iload hx hb dX3_work_105 (lv_at hl 0 rfl) ?_
            refine lv_isub hx hb dX3_work_107 ?_
            refine z_iast (f' := (cM k bd M (zo O 0 (M 9 i) ((O 0 (M 9 i)) - (wkU O (M 9 i) h))) (nI (x3 (zI (M 0 1) (nI i)) (nI 1 ≤ (nI h) ∧ (nI h) ≤ nI 100) (zI (M 0 1) (nI i) ∧ M 12 (i) = 0))))) (cA := k 0) (len := 4) (g := mA M O 17) F hK hP hD hS (17) 0 (by omega) rfl rfl (i := nI (M 9 i)) (M 9 i) rfl hc1 (by decide) (cM_uahead _ _) dX3_work_108 (fun H locs hP hD hS => ?_)
            refine lv_aload_n hx hb dX3_work_109 rfl (lv_at hl 3 rfl) ?_
            refine z_get (C := RX3) (T := TX3) (N := 21) (ci := 3) (fs := mObj bd M (nI (x3 (zI (M 0 1) (nI i)) (nI 1 ≤ (nI h) ∧ (nI h) ≤ nI 100) (zI (M 0 1) (nI i) ∧ M 12 (i) = 0)))) (v := .ref (bd 18)) F hK hP hi3 rfl (0) 19 (by omega) cM_0 (by decide) rfl (by decide +kernel) dX3_work_110 ?_
            refine lv_iload hx hb dX3_work_113 (lv_at hl 1 rfl) ?_
            refine lv_dup2_11 hx hb dX3_work_115 rfl rfl ?_
            refine z_iald (v := (zo O 0 (M 9 i) ((O 0 (M 9 i)) - (wkU O (M 9 i) h))) 1 (M 9 i)) (cA := k 0) (len := 4) (g := mA M (zo O 0 (M 9 i) ((O 0 (M 9 i)) - (wkU O (M 9 i) h))) 18) F hK hP (18) 0 (by omega) rfl rfl (i := nI (M 9 i)) (M 9 i) rfl hc1 (by decide) rfl dX3_work_116 ?_
            refine lv_sipush (v := nI 9000) hx hb dX3_work_117 (by decide) ?_
            refine lv_iload_n hx hb dX3_work_120 rfl (lv_at hl 5 rfl) ?_
            refine lv_iload hx hb dX3_work_121 (lv_at hl 0 rfl) ?_
            refine lv_isub hx hb dX3_work_123 ?_
            refine lv_imul hx hb dX3_work_124 ?_
            refine z_top (show _ = wkC O (M 9 i) h by unfold wkC; rw [Int32.mul_comm]) ?_
            refine lv_iadd hx hb dX3_work_125 ?_
            refine z_iast (f' := (cM k bd M (zo (zo O 0 (M 9 i) ((O 0 (M 9 i)) - (wkU O (M 9 i) h))) 1 (M 9 i) (((zo O 0 (M 9 i) ((O 0 (M 9 i)) - (wkU O (M 9 i) h))) 1 (M 9 i)) + (wkC O (M 9 i) h))) (nI (x3 (zI (M 0 1) (nI i)) (nI 1 ≤ (nI h) ∧ (nI h) ≤ nI 100) (zI (M 0 1) (nI i) ∧ M 12 (i) = 0))))) (cA := k 0) (len := 4) (g := mA M (zo O 0 (M 9 i) ((O 0 (M 9 i)) - (wkU O (M 9 i) h))) 18) F hK hP hD hS (18) 0 (by omega) rfl rfl (i := nI (M 9 i)) (M 9 i) rfl hc1 (by decide) (cM_uowes _ _) dX3_work_126 (fun H locs hP hD hS => ?_)
            refine lv_sipush (v := nI 9000) hx hb dX3_work_127 (by decide) ?_
            refine lv_iload_n hx hb dX3_work_130 rfl (lv_at hl 5 rfl) ?_
            refine lv_iload hx hb dX3_work_131 (lv_at hl 0 rfl) ?_
            refine lv_isub hx hb dX3_work_133 ?_
            refine lv_imul hx hb dX3_work_134 ?_
            refine z_top (show _ = wkC O (M 9 i) h by unfold wkC; rw [Int32.mul_comm]) ?_
            have hx0 : (x3 (zI (M 0 1) (nI i)) (nI 1 ≤ (nI h) ∧ (nI h) ≤ nI 100) (M 12 (i) = 0)) = 0 := x3_0 c41.1 c41.2.1 c41.2.2.2
            have eW : cM k bd M (if (x3 (zI (M 0 1) (nI i)) (nI 1 ≤ (nI h) ∧ (nI h) ≤ nI 100) (M 12 (i) = 0)) = 0 then (wkO M O (i) (h)) else O) (nI ((x3 (zI (M 0 1) (nI i)) (nI 1 ≤ (nI h) ∧ (nI h) ≤ nI 100) (M 12 (i) = 0)))) = cM k bd M (zo (zo O 0 (M 9 i) ((O 0 (M 9 i)) - (wkU O (M 9 i) h))) 1 (M 9 i) (((zo O 0 (M 9 i) ((O 0 (M 9 i)) - (wkU O (M 9 i) h))) 1 (M 9 i)) + (wkC O (M 9 i) h))) (nI (x3 (zI (M 0 1) (nI i)) (nI 1 ≤ (nI h) ∧ (nI h) ≤ nI 100) (zI (M 0 1) (nI i) ∧ M 12 (i) = 0))) := by rw [if_pos hx0, ← x3_ac, wkO_f c42] <;> rfl
            rw [← eW] at hP hD
            refine W.widen (k := 0) (n := 0) (Nat.le_of_ble_eq_true rfl) (Nat.le_of_ble_eq_true rfl) ?_
            exact W.iret (v := wkC O (M 9 i) h) hx hb hr (fun t ht hW => ⟨⟨wkC O (M 9 i) h, (), rfl, fun _ => (wkR_f c42).symm, ⟨by rw [ht]; exact hP, va_K.moved hW.alike hK⟩, hD⟩, hS.F ht⟩) hS.2.2 dX3_work_135
        · refine lv_iconst (v := nI 0) hx hb dX3_work_71 (by decide) ?_
          have hx0 : (x3 (zI (M 0 1) (nI i)) (nI 1 ≤ (nI h) ∧ (nI h) ≤ nI 100) (M 12 (i) = 0)) = 0 := x3_0 c41.1 c41.2.1 c41.2.2.2
          have eW : cM k bd M (if (x3 (zI (M 0 1) (nI i)) (nI 1 ≤ (nI h) ∧ (nI h) ≤ nI 100) (M 12 (i) = 0)) = 0 then (wkO M O (i) (h)) else O) (nI ((x3 (zI (M 0 1) (nI i)) (nI 1 ≤ (nI h) ∧ (nI h) ≤ nI 100) (M 12 (i) = 0)))) = cM k bd M O (nI (x3 (zI (M 0 1) (nI i)) (nI 1 ≤ (nI h) ∧ (nI h) ≤ nI 100) (zI (M 0 1) (nI i) ∧ M 12 (i) = 0))) := by rw [if_pos hx0, ← x3_ac, wkO_t c42] <;> rfl
          rw [← eW] at hP hD
          refine W.widen (k := 0) (n := 0) (Nat.le_of_ble_eq_true rfl) (Nat.le_of_ble_eq_true rfl) ?_
          exact W.iret (v := nI 0) hx hb hr (fun t ht hW => ⟨⟨nI 0, (), rfl, fun _ => (wkR_t c42).symm, ⟨by rw [ht]; exact hP, va_K.moved hW.alike hK⟩, hD⟩, hS.F ht⟩) hS.2.2 dX3_work_72
      · refine lv_iconst (v := nI 0) hx hb dX3_work_39 (by decide) ?_
        have hx0 : (x3 (zI (M 0 1) (nI i)) (nI 1 ≤ p1 ∧ p1 ≤ nI 100) (M 12 (i) = 0)) ≠ 0 := x3_no (fun zz1 => c41 ⟨zz1.1, zz1.2.1, zz1.1, zz1.2.2⟩)
        have eW : cM k bd M (if (x3 (zI (M 0 1) (nI i)) (nI 1 ≤ p1 ∧ p1 ≤ nI 100) (M 12 (i) = 0)) = 0 then (wkO M O (i) (ix p1)) else O) (nI ((x3 (zI (M 0 1) (nI i)) (nI 1 ≤ p1 ∧ p1 ≤ nI 100) (M 12 (i) = 0)))) = cM k bd M O (nI (x3 (zI (M 0 1) (nI i)) (nI 1 ≤ p1 ∧ p1 ≤ nI 100) (zI (M 0 1) (nI i) ∧ M 12 (i) = 0))) := by rw [if_neg hx0, ← x3_ac] <;> rfl
        rw [← eW] at hP hD
        refine W.widen (k := 0) (n := 0) (Nat.le_of_ble_eq_true rfl) (Nat.le_of_ble_eq_true rfl) ?_
        exact W.iret (v := nI 0) hx hb hr (fun t ht hW => ⟨⟨nI 0, (), rfl, fun zz1 => absurd zz1 hx0, ⟨by rw [ht]; exact hP, va_K.moved hW.alike hK⟩, hD⟩, hS.F ht⟩) hS.2.2 dX3_work_40
theorem x3_jn {a b c : Prop} : x3 a (a ∧ b) ((a ∧ b) ∧ c) = x3 a b c := x3_ab2.trans x3_abc
set_option maxRecDepth 100000 in
set_option maxHeartbeats 1000000 in
theorem c_X3_join (l : Launch) (D : va_G) (k : Nat → ClassId) (bd : Nat → Nat) (M : Nat → Nat → Nat) (O : Nat → Nat → Int32) (th : Int32) (sz : Nat) (hI : zInv M) (p0 p1 : Int32) : Met l yX3_join wsX3_join ({ frames := 2, cells := 0, slots := 0, locals := 43 }) (va_Pc [.ref (bd 0), .int p0, .int p1] (zG D k 19 bd (cM k bd M O th) sz)) (zQw D k 19 bd (cM k bd (if (x3 (zI (M 0 1) p0 ∧ zI (M 0 1) p1) (ix p0 ≠ ix p1 ∧ M 9 (ix p0) = M 9 (ix p1)) (M 12 (ix p0) = 0 ∧ M 12 (ix p1) = 0 ∧ jN M (ix p0) (M 0 1) = 0)) = 0 then (zu (zu M 12 (ix p0) 1) 13 (ix p0) (ix p1 + 1)) else M) O (nI ((x3 (zI (M 0 1) p0 ∧ zI (M 0 1) p1) (ix p0 ≠ ix p1 ∧ M 9 (ix p0) = M 9 (ix p1)) (M 12 (ix p0) = 0 ∧ M 12 (ix p1) = 0 ∧ jN M (ix p0) (M 0 1) = 0))))) (va_A (zw 19 bd (cM k bd M O th)) sz) (fun r => (x3 (zI (M 0 1) p0 ∧ zI (M 0 1) p1) (ix p0 ≠ ix p1 ∧ M 9 (ix p0) = M 9 (ix p1)) (M 12 (ix p0) = 0 ∧ M 12 (ix p1) = 0 ∧ jN M (ix p0) (M 0 1) = 0)) = 0 → r = (nI (jN (zu (zu M 12 (ix p0) 1) 13 (ix p0) (ix p1 + 1)) (ix p1) (M 0 1))))) 0 0 (va_A (zw 19 bd (cM k bd M O th)) sz) := by
  refine Met.ofW (cc := cX3_join) (maxL := 5) (ret := (some .int)) (by decide) rfl ?_
  intro p e s m args below meth c s₁ B hml hv
  obtain ⟨rfl, hsz, ⟨hP, hK⟩, hD0⟩ := hv
  have hx := B.exec
  have hb := B.bytes
  have hr := B.returns
  have hts := atoms_spec (ws := wsX3_join) B.pre
  have hown : s.vm.findClass RX3 = some m.cls := findClass_of_methodNamed B.named
  have hlocks := B.notSynchronized
  have F : CallFix p m c cX3_join 5 s _ wsX3_join RX3 := ⟨hx, hb, hml, hown, hts⟩
  subst hsz
  have hD := hD0.self (sz := s.heap.size)
  generalize hAe : va_A (zw 19 bd (cM k bd M O th)) s.heap.size = A at hD ⊢
  have hA : ∀ q : Nat, s.heap.size ≤ q → A q := fun q h => by rw [← hAe]; exact Or.inr h
  have hS : va_S A s.heap s.heap [] := va_S.rf
  have hl := lv_entry ([.ref (bd 0), .int p0, .int p1]) (n := 5) (Nat.le_of_ble_eq_true rfl)
  rw [lg_entry_eq]
  generalize (lg_sl ([.ref (bd 0), .int p0, .int p1]) ++ List.replicate (5 - (lg_sl ([.ref (bd 0), .int p0, .int p1])).length) Slot.unset).toArray = ls at hl ⊢
  have hl : lv_has ls 5 [(0, .ref (bd 0)), (1, .int p0), (2, .int p1)] := hl
  have hi3 : ∀ w ∈ u_ws RX3 TX3 21, w ∈ wsX3_join := by decide +kernel
  obtain ⟨hI1, hI2, hI3, hI4, hI5, hI6, hI7⟩ := id hI
  refine lv_aload_n hx hb dX3_join_0 rfl (lv_at hl 0 rfl) ?_
  refine lv_iload_n hx hb dX3_join_1 rfl (lv_at hl 1 rfl) ?_
  refine z_cV (qc := (RX3, TX3, 21)) (As := [.int p0]) (rest := []) (0) F (c_X3_isCase l D k bd M O th hI2 p0) (cwV 1 hts gX3_join_X3_isCase rfl rfl rfl (by decide +kernel) ⟨Nat.le_of_ble_eq_true rfl, Nat.le_of_ble_eq_true rfl⟩) hK hP (by omega) cM_0 rfl rfl hl.1 rfl (Nat.le_of_ble_eq_true rfl) dX3_join_2 ⟨Nat.le_of_ble_eq_true rfl, Nat.le_of_ble_eq_true rfl⟩ (fun r hr => ?_)
  subst hr
  refine z_ifb_eq (tgt := 20) F dX3_join_5 (by decide) (fun c44 => ?_) (fun c44 => ?_)
  · refine lv_iconst (v := nI 0) hx hb dX3_join_20 (by decide) ?_
    refine z_top (show nI 0 = bI (zI (M 0 1) p0 ∧ zI (M 0 1) p1) from (bI_f (fun zz1 => by have zz2 := zz1.1; first | exact c44 zz2 | omega)).symm) ?_
    refine lv_istore_n (lv' := [(3, .int (bI (zI (M 0 1) p0 ∧ zI (M 0 1) p1))), (0, .ref (bd 0)), (1, .int p0), (2, .int p1)]) hx hb dX3_join_21 rfl hl (by decide) rfl (fun ls hl => ?_)
    refine lv_iload_n hx hb dX3_join_22 rfl (lv_at hl 0 rfl) ?_
    refine z_ifb_eq (tgt := 50) F dX3_join_23 (by decide) (fun c45 => ?_) (fun c45 => ?_)
    · refine lv_iconst (v := nI 0) hx hb dX3_join_50 (by decide) ?_
      refine z_top (show nI 0 = bI ((zI (M 0 1) p0 ∧ zI (M 0 1) p1) ∧ ix p0 ≠ ix p1 ∧ M 9 (ix p0) = M 9 (ix p1)) from (bI_f (fun zz1 => by have zz2 := zz1.1; first | exact c45 zz2 | omega)).symm) ?_
      refine lv_istore (lv' := [(4, .int (bI ((zI (M 0 1) p0 ∧ zI (M 0 1) p1) ∧ ix p0 ≠ ix p1 ∧ M 9 (ix p0) = M 9 (ix p1)))), (3, .int (bI (zI (M 0 1) p0 ∧ zI (M 0 1) p1))), (0, .ref (bd 0)), (1, .int p0), (2, .int p1)]) hx hb dX3_join_51 hl (by decide) rfl (fun ls hl => ?_)
      refine lv_aload_n hx hb dX3_join_53 rfl (lv_at hl 2 rfl) ?_
      refine lv_iload_n hx hb dX3_join_54 rfl (lv_at hl 1 rfl) ?_
      refine lv_iload hx hb dX3_join_55 (lv_at hl 0 rfl) ?_
      refine lv_iload hx hb dX3_join_57 (lv_at hl 0 rfl) ?_
      refine z_ifb_eq (tgt := 92) F dX3_join_59 (by decide) (fun c46 => ?_) (fun c46 => ?_)
      · refine lv_iconst (v := nI 0) hx hb dX3_join_92 (by decide) ?_
        refine z_top (show nI 0 = bI (((zI (M 0 1) p0 ∧ zI (M 0 1) p1) ∧ ix p0 ≠ ix p1 ∧ M 9 (ix p0) = M 9 (ix p1)) ∧ M 12 (ix p0) = 0 ∧ M 12 (ix p1) = 0 ∧ jN M (ix p0) (M 0 1) = 0) from (bI_f (fun zz1 => by have zz2 := zz1.1; first | exact c46 zz2 | omega)).symm) ?_
        refine z_mV (qc := (RX3, TX3, 21)) (As := [.int (bI (zI (M 0 1) p0 ∧ zI (M 0 1) p1)), .int (bI ((zI (M 0 1) p0 ∧ zI (M 0 1) p1) ∧ ix p0 ≠ ix p1 ∧ M 9 (ix p0) = M 9 (ix p1))), .int (bI (((zI (M 0 1) p0 ∧ zI (M 0 1) p1) ∧ ix p0 ≠ ix p1 ∧ M 9 (ix p0) = M 9 (ix p1)) ∧ M 12 (ix p0) = 0 ∧ M 12 (ix p1) = 0 ∧ jN M (ix p0) (M 0 1) = 0))]) (rest := []) (0) F (c_X3_asked__ l D k bd M O th _ (zI (M 0 1) p0 ∧ zI (M 0 1) p1) ((zI (M 0 1) p0 ∧ zI (M 0 1) p1) ∧ ix p0 ≠ ix p1 ∧ M 9 (ix p0) = M 9 (ix p1)) (((zI (M 0 1) p0 ∧ zI (M 0 1) p1) ∧ ix p0 ≠ ix p1 ∧ M 9 (ix p0) = M 9 (ix p1)) ∧ M 12 (ix p0) = 0 ∧ M 12 (ix p1) = 0 ∧ jN M (ix p0) (M 0 1) = 0)) (cwV 3 hts gX3_join_X3_asked__ rfl rfl rfl (by decide +kernel) ⟨Nat.le_of_ble_eq_true rfl, Nat.le_of_ble_eq_true rfl⟩) hK hP hD hS hA (by omega) cM_0 rfl rfl hl.1 rfl (Nat.le_of_ble_eq_true rfl) dX3_join_93 ⟨Nat.le_of_ble_eq_true rfl, Nat.le_of_ble_eq_true rfl⟩ (fun r H locs hr0 hP hD hS => ?_)
        subst hr0
        refine z_ifb_ne (tgt := 101) F dX3_join_96 (by decide) (fun c47 => ?_) (fun c47 => ?_)
        · exact absurd c47.2.2 (fun zz1 => by have zz2 := zz1.1; first | exact c46 zz2 | omega)
        · refine lv_iconst (v := nI 0) hx hb dX3_join_99 (by decide) ?_
          have hx0 : (x3 (zI (M 0 1) p0 ∧ zI (M 0 1) p1) (ix p0 ≠ ix p1 ∧ M 9 (ix p0) = M 9 (ix p1)) (M 12 (ix p0) = 0 ∧ M 12 (ix p1) = 0 ∧ jN M (ix p0) (M 0 1) = 0)) ≠ 0 := x3_no (fun zz1 => c47 ⟨zz1.1, ⟨zz1.1, zz1.2.1⟩, ⟨zz1.1, zz1.2.1⟩, zz1.2.2⟩)
          have eW : cM k bd (if (x3 (zI (M 0 1) p0 ∧ zI (M 0 1) p1) (ix p0 ≠ ix p1 ∧ M 9 (ix p0) = M 9 (ix p1)) (M 12 (ix p0) = 0 ∧ M 12 (ix p1) = 0 ∧ jN M (ix p0) (M 0 1) = 0)) = 0 then (zu (zu M 12 (ix p0) 1) 13 (ix p0) (ix p1 + 1)) else M) O (nI ((x3 (zI (M 0 1) p0 ∧ zI (M 0 1) p1) (ix p0 ≠ ix p1 ∧ M 9 (ix p0) = M 9 (ix p1)) (M 12 (ix p0) = 0 ∧ M 12 (ix p1) = 0 ∧ jN M (ix p0) (M 0 1) = 0)))) = cM k bd M O (nI (x3 (zI (M 0 1) p0 ∧ zI (M 0 1) p1) ((zI (M 0 1) p0 ∧ zI (M 0 1) p1) ∧ ix p0 ≠ ix p1 ∧ M 9 (ix p0) = M 9 (ix p1)) (((zI (M 0 1) p0 ∧ zI (M 0 1) p1) ∧ ix p0 ≠ ix p1 ∧ M 9 (ix p0) = M 9 (ix p1)) ∧ M 12 (ix p0) = 0 ∧ M 12 (ix p1) = 0 ∧ jN M (ix p0) (M 0 1) = 0))) := by rw [if_neg hx0, ← x3_jn] <;> rfl
          rw [← eW] at hP hD
          refine W.widen (k := 0) (n := 0) (Nat.le_of_ble_eq_true rfl) (Nat.le_of_ble_eq_true rfl) ?_
          exact W.iret (v := nI 0) hx hb hr (fun t ht hW => ⟨⟨nI 0, (), rfl, fun zz1 => absurd zz1 hx0, ⟨by rw [ht]; exact hP, va_K.moved hW.alike hK⟩, hD⟩, hS.F ht⟩) hS.2.2 dX3_join_100
      · exact absurd c46 (fun zz1 => by have zz2 := zz1.1; first | exact c45 zz2 | omega)
    · obtain ⟨i, hi, rfl⟩ := id (c45.1)
      try rw [ix_nI (show i < 2 ^ 31 by omega)]
      obtain ⟨j, hj, rfl⟩ := id (c45.2)
      try rw [ix_nI (show j < 2 ^ 31 by omega)]
      have hzi := hI5 i hi
      have hzj := hI5 j hj
      obtain ⟨hc1, hc2, hc3, hc4, hc5, hc6, hc7⟩ := id hzi
      obtain ⟨gc1, gc2, gc3, gc4, gc5, gc6, gc7⟩ := id hzj
      refine lv_iload_n hx hb dX3_join_26 rfl (lv_at hl 2 rfl) ?_
      refine lv_iload_n hx hb dX3_join_27 rfl (lv_at hl 3 rfl) ?_
      refine z_icmp_eq (tgt := 50) F (by omega) (by omega) dX3_join_28 (by decide) (fun c48 => ?_) (fun c48 => ?_)
      · refine lv_iconst (v := nI 0) hx hb dX3_join_50 (by decide) ?_
        refine z_top (show nI 0 = bI ((zI (M 0 1) (nI i) ∧ zI (M 0 1) (nI j)) ∧ i ≠ j ∧ M 9 (i) = M 9 (j)) from (bI_f (fun zz1 => by have zz2 := zz1.2.1; first | exact c48 zz2 | omega)).symm) ?_
        refine lv_istore (lv' := [(4, .int (bI ((zI (M 0 1) (nI i) ∧ zI (M 0 1) (nI j)) ∧ i ≠ j ∧ M 9 (i) = M 9 (j)))), (3, .int (bI (zI (M 0 1) (nI i) ∧ zI (M 0 1) (nI j)))), (0, .ref (bd 0)), (1, .int (nI i)), (2, .int (nI j))]) hx hb dX3_join_51 hl (by decide) rfl (fun ls hl => ?_)
        refine lv_aload_n hx hb dX3_join_53 rfl (lv_at hl 2 rfl) ?_
        refine lv_iload_n hx hb dX3_join_54 rfl (lv_at hl 1 rfl) ?_
        refine lv_iload hx hb dX3_join_55 (lv_at hl 0 rfl) ?_
        refine lv_iload hx hb dX3_join_57 (lv_at hl 0 rfl) ?_
        refine z_ifb_eq (tgt := 92) F dX3_join_59 (by decide) (fun c49 => ?_) (fun c49 => ?_)
        · refine lv_iconst (v := nI 0) hx hb dX3_join_92 (by decide) ?_
          refine z_top (show nI 0 = bI (((zI (M 0 1) (nI i) ∧ zI (M 0 1) (nI j)) ∧ i ≠ j ∧ M 9 (i) = M 9 (j)) ∧ M 12 (i) = 0 ∧ M 12 (j) = 0 ∧ jN M (i) (M 0 1) = 0) from (bI_f (fun zz1 => by have zz2 := zz1.1; first | exact c49 zz2 | omega)).symm) ?_
          refine z_mV (qc := (RX3, TX3, 21)) (As := [.int (bI (zI (M 0 1) (nI i) ∧ zI (M 0 1) (nI j))), .int (bI ((zI (M 0 1) (nI i) ∧ zI (M 0 1) (nI j)) ∧ i ≠ j ∧ M 9 (i) = M 9 (j))), .int (bI (((zI (M 0 1) (nI i) ∧ zI (M 0 1) (nI j)) ∧ i ≠ j ∧ M 9 (i) = M 9 (j)) ∧ M 12 (i) = 0 ∧ M 12 (j) = 0 ∧ jN M (i) (M 0 1) = 0))]) (rest := []) (0) F (c_X3_asked__ l D k bd M O th _ (zI (M 0 1) (nI i) ∧ zI (M 0 1) (nI j)) ((zI (M 0 1) (nI i) ∧ zI (M 0 1) (nI j)) ∧ i ≠ j ∧ M 9 (i) = M 9 (j)) (((zI (M 0 1) (nI i) ∧ zI (M 0 1) (nI j)) ∧ i ≠ j ∧ M 9 (i) = M 9 (j)) ∧ M 12 (i) = 0 ∧ M 12 (j) = 0 ∧ jN M (i) (M 0 1) = 0)) (cwV 3 hts gX3_join_X3_asked__ rfl rfl rfl (by decide +kernel) ⟨Nat.le_of_ble_eq_true rfl, Nat.le_of_ble_eq_true rfl⟩) hK hP hD hS hA (by omega) cM_0 rfl rfl hl.1 rfl (Nat.le_of_ble_eq_true rfl) dX3_join_93 ⟨Nat.le_of_ble_eq_true rfl, Nat.le_of_ble_eq_true rfl⟩ (fun r H locs hr0 hP hD hS => ?_)
          subst hr0
          refine z_ifb_ne (tgt := 101) F dX3_join_96 (by decide) (fun c50 => ?_) (fun c50 => ?_)
          · exact absurd c50.2.2 (fun zz1 => by have zz2 := zz1.1; first | exact c49 zz2 | omega)
          · refine lv_iconst (v := nI 0) hx hb dX3_join_99 (by decide) ?_
            have hx0 : (x3 (zI (M 0 1) (nI i) ∧ zI (M 0 1) (nI j)) (i ≠ j ∧ M 9 (i) = M 9 (j)) (M 12 (i) = 0 ∧ M 12 (j) = 0 ∧ jN M (i) (M 0 1) = 0)) ≠ 0 := x3_no (fun zz1 => c50 ⟨zz1.1, ⟨zz1.1, zz1.2.1⟩, ⟨zz1.1, zz1.2.1⟩, zz1.2.2⟩)
            have eW : cM k bd (if (x3 (zI (M 0 1) (nI i) ∧ zI (M 0 1) (nI j)) (i ≠ j ∧ M 9 (i) = M 9 (j)) (M 12 (i) = 0 ∧ M 12 (j) = 0 ∧ jN M (i) (M 0 1) = 0)) = 0 then (zu (zu M 12 (i) 1) 13 (i) (j + 1)) else M) O (nI ((x3 (zI (M 0 1) (nI i) ∧ zI (M 0 1) (nI j)) (i ≠ j ∧ M 9 (i) = M 9 (j)) (M 12 (i) = 0 ∧ M 12 (j) = 0 ∧ jN M (i) (M 0 1) = 0)))) = cM k bd M O (nI (x3 (zI (M 0 1) (nI i) ∧ zI (M 0 1) (nI j)) ((zI (M 0 1) (nI i) ∧ zI (M 0 1) (nI j)) ∧ i ≠ j ∧ M 9 (i) = M 9 (j)) (((zI (M 0 1) (nI i) ∧ zI (M 0 1) (nI j)) ∧ i ≠ j ∧ M 9 (i) = M 9 (j)) ∧ M 12 (i) = 0 ∧ M 12 (j) = 0 ∧ jN M (i) (M 0 1) = 0))) := by rw [if_neg hx0, ← x3_jn] <;> rfl
            rw [← eW] at hP hD
            refine W.widen (k := 0) (n := 0) (Nat.le_of_ble_eq_true rfl) (Nat.le_of_ble_eq_true rfl) ?_
            exact W.iret (v := nI 0) hx hb hr (fun t ht hW => ⟨⟨nI 0, (), rfl, fun zz1 => absurd zz1 hx0, ⟨by rw [ht]; exact hP, va_K.moved hW.alike hK⟩, hD⟩, hS.F ht⟩) hS.2.2 dX3_join_100
        · exact absurd c49 (fun zz1 => by have zz2 := zz1.2.1; first | exact c48 zz2 | omega)
      · refine lv_aload_n hx hb dX3_join_31 rfl (lv_at hl 1 rfl) ?_
        refine z_get (C := RX3) (T := TX3) (N := 21) (ci := 3) (fs := mObj bd M th) (v := .ref (bd 9)) F hK hP hi3 rfl (0) 9 (by omega) cM_0 (by decide) rfl (by decide +kernel) dX3_join_32 ?_
        refine lv_iload_n hx hb dX3_join_35 rfl (lv_at hl 2 rfl) ?_
        refine z_iald (v := nI (M 9 i)) (cA := k 0) (len := 40) (g := mA M O 9) F hK hP (9) 0 (by omega) rfl rfl (i := nI i) i rfl (by omega) (by decide) rfl dX3_join_36 ?_
        refine lv_aload_n hx hb dX3_join_37 rfl (lv_at hl 1 rfl) ?_
        refine z_get (C := RX3) (T := TX3) (N := 21) (ci := 3) (fs := mObj bd M th) (v := .ref (bd 9)) F hK hP hi3 rfl (0) 9 (by omega) cM_0 (by decide) rfl (by decide +kernel) dX3_join_38 ?_
        refine lv_iload_n hx hb dX3_join_41 rfl (lv_at hl 3 rfl) ?_
        refine z_iald (v := nI (M 9 j)) (cA := k 0) (len := 40) (g := mA M O 9) F hK hP (9) 0 (by omega) rfl rfl (i := nI j) j rfl (by omega) (by decide) rfl dX3_join_42 ?_
        refine z_icmp_ne (tgt := 50) F (by omega) (by omega) dX3_join_43 (by decide) (fun c51 => ?_) (fun c51 => ?_)
        · refine lv_iconst (v := nI 0) hx hb dX3_join_50 (by decide) ?_
          refine z_top (show nI 0 = bI ((zI (M 0 1) (nI i) ∧ zI (M 0 1) (nI j)) ∧ i ≠ j ∧ M 9 (i) = M 9 (j)) from (bI_f (fun zz1 => by have zz2 := zz1.2.2; first | exact c51 zz2 | omega)).symm) ?_
          refine lv_istore (lv' := [(4, .int (bI ((zI (M 0 1) (nI i) ∧ zI (M 0 1) (nI j)) ∧ i ≠ j ∧ M 9 (i) = M 9 (j)))), (3, .int (bI (zI (M 0 1) (nI i) ∧ zI (M 0 1) (nI j)))), (0, .ref (bd 0)), (1, .int (nI i)), (2, .int (nI j))]) hx hb dX3_join_51 hl (by decide) rfl (fun ls hl => ?_)
          refine lv_aload_n hx hb dX3_join_53 rfl (lv_at hl 2 rfl) ?_
          refine lv_iload_n hx hb dX3_join_54 rfl (lv_at hl 1 rfl) ?_
          refine lv_iload hx hb dX3_join_55 (lv_at hl 0 rfl) ?_
          refine lv_iload hx hb dX3_join_57 (lv_at hl 0 rfl) ?_
          refine z_ifb_eq (tgt := 92) F dX3_join_59 (by decide) (fun c52 => ?_) (fun c52 => ?_)
          · refine lv_iconst (v := nI 0) hx hb dX3_join_92 (by decide) ?_
            refine z_top (show nI 0 = bI (((zI (M 0 1) (nI i) ∧ zI (M 0 1) (nI j)) ∧ i ≠ j ∧ M 9 (i) = M 9 (j)) ∧ M 12 (i) = 0 ∧ M 12 (j) = 0 ∧ jN M (i) (M 0 1) = 0) from (bI_f (fun zz1 => by have zz2 := zz1.1; first | exact c52 zz2 | omega)).symm) ?_
            refine z_mV (qc := (RX3, TX3, 21)) (As := [.int (bI (zI (M 0 1) (nI i) ∧ zI (M 0 1) (nI j))), .int (bI ((zI (M 0 1) (nI i) ∧ zI (M 0 1) (nI j)) ∧ i ≠ j ∧ M 9 (i) = M 9 (j))), .int (bI (((zI (M 0 1) (nI i) ∧ zI (M 0 1) (nI j)) ∧ i ≠ j ∧ M 9 (i) = M 9 (j)) ∧ M 12 (i) = 0 ∧ M 12 (j) = 0 ∧ jN M (i) (M 0 1) = 0))]) (rest := []) (0) F (c_X3_asked__ l D k bd M O th _ (zI (M 0 1) (nI i) ∧ zI (M 0 1) (nI j)) ((zI (M 0 1) (nI i) ∧ zI (M 0 1) (nI j)) ∧ i ≠ j ∧ M 9 (i) = M 9 (j)) (((zI (M 0 1) (nI i) ∧ zI (M 0 1) (nI j)) ∧ i ≠ j ∧ M 9 (i) = M 9 (j)) ∧ M 12 (i) = 0 ∧ M 12 (j) = 0 ∧ jN M (i) (M 0 1) = 0)) (cwV 3 hts gX3_join_X3_asked__ rfl rfl rfl (by decide +kernel) ⟨Nat.le_of_ble_eq_true rfl, Nat.le_of_ble_eq_true rfl⟩) hK hP hD hS hA (by omega) cM_0 rfl rfl hl.1 rfl (Nat.le_of_ble_eq_true rfl) dX3_join_93 ⟨Nat.le_of_ble_eq_true rfl, Nat.le_of_ble_eq_true rfl⟩ (fun r H locs hr0 hP hD hS => ?_)
            subst hr0
            refine z_ifb_ne (tgt := 101) F dX3_join_96 (by decide) (fun c53 => ?_) (fun c53 => ?_)
            · exact absurd c53.2.2 (fun zz1 => by have zz2 := zz1.1; first | exact c52 zz2 | omega)
            · refine lv_iconst (v := nI 0) hx hb dX3_join_99 (by decide) ?_
              have hx0 : (x3 (zI (M 0 1) (nI i) ∧ zI (M 0 1) (nI j)) (i ≠ j ∧ M 9 (i) = M 9 (j)) (M 12 (i) = 0 ∧ M 12 (j) = 0 ∧ jN M (i) (M 0 1) = 0)) ≠ 0 := x3_no (fun zz1 => c53 ⟨zz1.1, ⟨zz1.1, zz1.2.1⟩, ⟨zz1.1, zz1.2.1⟩, zz1.2.2⟩)
              have eW : cM k bd (if (x3 (zI (M 0 1) (nI i) ∧ zI (M 0 1) (nI j)) (i ≠ j ∧ M 9 (i) = M 9 (j)) (M 12 (i) = 0 ∧ M 12 (j) = 0 ∧ jN M (i) (M 0 1) = 0)) = 0 then (zu (zu M 12 (i) 1) 13 (i) (j + 1)) else M) O (nI ((x3 (zI (M 0 1) (nI i) ∧ zI (M 0 1) (nI j)) (i ≠ j ∧ M 9 (i) = M 9 (j)) (M 12 (i) = 0 ∧ M 12 (j) = 0 ∧ jN M (i) (M 0 1) = 0)))) = cM k bd M O (nI (x3 (zI (M 0 1) (nI i) ∧ zI (M 0 1) (nI j)) ((zI (M 0 1) (nI i) ∧ zI (M 0 1) (nI j)) ∧ i ≠ j ∧ M 9 (i) = M 9 (j)) (((zI (M 0 1) (nI i) ∧ zI (M 0 1) (nI j)) ∧ i ≠ j ∧ M 9 (i) = M 9 (j)) ∧ M 12 (i) = 0 ∧ M 12 (j) = 0 ∧ jN M (i) (M 0 1) = 0))) := by rw [if_neg hx0, ← x3_jn] <;> rfl
              rw [← eW] at hP hD
              refine W.widen (k := 0) (n := 0) (Nat.le_of_ble_eq_true rfl) (Nat.le_of_ble_eq_true rfl) ?_
              exact W.iret (v := nI 0) hx hb hr (fun t ht hW => ⟨⟨nI 0, (), rfl, fun zz1 => absurd zz1 hx0, ⟨by rw [ht]; exact hP, va_K.moved hW.alike hK⟩, hD⟩, hS.F ht⟩) hS.2.2 dX3_join_100
          · exact absurd c52 (fun zz1 => by have zz2 := zz1.2.2; first | exact c51 zz2 | omega)
        · refine lv_iconst (v := nI 1) hx hb dX3_join_46 (by decide) ?_
          refine lv_goto (tgt := 51) hx hb dX3_join_47 (by decide) ?_
          refine z_top (show nI 1 = bI ((zI (M 0 1) (nI i) ∧ zI (M 0 1) (nI j)) ∧ i ≠ j ∧ M 9 (i) = M 9 (j)) from (bI_t ⟨c45, c48, c51⟩).symm) ?_
          refine lv_istore (lv' := [(4, .int (bI ((zI (M 0 1) (nI i) ∧ zI (M 0 1) (nI j)) ∧ i ≠ j ∧ M 9 (i) = M 9 (j)))), (3, .int (bI (zI (M 0 1) (nI i) ∧ zI (M 0 1) (nI j)))), (0, .ref (bd 0)), (1, .int (nI i)), (2, .int (nI j))]) hx hb dX3_join_51 hl (by decide) rfl (fun ls hl => ?_)
          refine lv_aload_n hx hb dX3_join_53 rfl (lv_at hl 2 rfl) ?_
          refine lv_iload_n hx hb dX3_join_54 rfl (lv_at hl 1 rfl) ?_
          refine lv_iload hx hb dX3_join_55 (lv_at hl 0 rfl) ?_
          refine lv_iload hx hb dX3_join_57 (lv_at hl 0 rfl) ?_
          refine z_ifb_eq (tgt := 92) F dX3_join_59 (by decide) (fun c54 => ?_) (fun c54 => ?_)
          · refine lv_iconst (v := nI 0) hx hb dX3_join_92 (by decide) ?_
            refine z_top (show nI 0 = bI (((zI (M 0 1) (nI i) ∧ zI (M 0 1) (nI j)) ∧ i ≠ j ∧ M 9 (i) = M 9 (j)) ∧ M 12 (i) = 0 ∧ M 12 (j) = 0 ∧ jN M (i) (M 0 1) = 0) from (bI_f (fun zz1 => by have zz2 := zz1.1; first | exact c54 zz2 | omega)).symm) ?_
            refine z_mV (qc := (RX3, TX3, 21)) (As := [.int (bI (zI (M 0 1) (nI i) ∧ zI (M 0 1) (nI j))), .int (bI ((zI (M 0 1) (nI i) ∧ zI (M 0 1) (nI j)) ∧ i ≠ j ∧ M 9 (i) = M 9 (j))), .int (bI (((zI (M 0 1) (nI i) ∧ zI (M 0 1) (nI j)) ∧ i ≠ j ∧ M 9 (i) = M 9 (j)) ∧ M 12 (i) = 0 ∧ M 12 (j) = 0 ∧ jN M (i) (M 0 1) = 0))]) (rest := []) (0) F (c_X3_asked__ l D k bd M O th _ (zI (M 0 1) (nI i) ∧ zI (M 0 1) (nI j)) ((zI (M 0 1) (nI i) ∧ zI (M 0 1) (nI j)) ∧ i ≠ j ∧ M 9 (i) = M 9 (j)) (((zI (M 0 1) (nI i) ∧ zI (M 0 1) (nI j)) ∧ i ≠ j ∧ M 9 (i) = M 9 (j)) ∧ M 12 (i) = 0 ∧ M 12 (j) = 0 ∧ jN M (i) (M 0 1) = 0)) (cwV 3 hts gX3_join_X3_asked__ rfl rfl rfl (by decide +kernel) ⟨Nat.le_of_ble_eq_true rfl, Nat.le_of_ble_eq_true rfl⟩) hK hP hD hS hA (by omega) cM_0 rfl rfl hl.1 rfl (Nat.le_of_ble_eq_true rfl) dX3_join_93 ⟨Nat.le_of_ble_eq_true rfl, Nat.le_of_ble_eq_true rfl⟩ (fun r H locs hr0 hP hD hS => ?_)
            subst hr0
            refine z_ifb_ne (tgt := 101) F dX3_join_96 (by decide) (fun c55 => ?_) (fun c55 => ?_)
            · exact absurd c55.2.2 (fun zz1 => by have zz2 := zz1.1; first | exact c54 zz2 | omega)
            · refine lv_iconst (v := nI 0) hx hb dX3_join_99 (by decide) ?_
              have hx0 : (x3 (zI (M 0 1) (nI i) ∧ zI (M 0 1) (nI j)) (i ≠ j ∧ M 9 (i) = M 9 (j)) (M 12 (i) = 0 ∧ M 12 (j) = 0 ∧ jN M (i) (M 0 1) = 0)) ≠ 0 := x3_no (fun zz1 => c55 ⟨zz1.1, ⟨zz1.1, zz1.2.1⟩, ⟨zz1.1, zz1.2.1⟩, zz1.2.2⟩)
              have eW : cM k bd (if (x3 (zI (M 0 1) (nI i) ∧ zI (M 0 1) (nI j)) (i ≠ j ∧ M 9 (i) = M 9 (j)) (M 12 (i) = 0 ∧ M 12 (j) = 0 ∧ jN M (i) (M 0 1) = 0)) = 0 then (zu (zu M 12 (i) 1) 13 (i) (j + 1)) else M) O (nI ((x3 (zI (M 0 1) (nI i) ∧ zI (M 0 1) (nI j)) (i ≠ j ∧ M 9 (i) = M 9 (j)) (M 12 (i) = 0 ∧ M 12 (j) = 0 ∧ jN M (i) (M 0 1) = 0)))) = cM k bd M O (nI (x3 (zI (M 0 1) (nI i) ∧ zI (M 0 1) (nI j)) ((zI (M 0 1) (nI i) ∧ zI (M 0 1) (nI j)) ∧ i ≠ j ∧ M 9 (i) = M 9 (j)) (((zI (M 0 1) (nI i) ∧ zI (M 0 1) (nI j)) ∧ i ≠ j ∧ M 9 (i) = M 9 (j)) ∧ M 12 (i) = 0 ∧ M 12 (j) = 0 ∧ jN M (i) (M 0 1) = 0))) := by rw [if_neg hx0, ← x3_jn] <;> rfl
              rw [← eW] at hP hD
              refine W.widen (k := 0) (n := 0) (Nat.le_of_ble_eq_true rfl) (Nat.le_of_ble_eq_true rfl) ?_
              exact W.iret (v := nI 0) hx hb hr (fun t ht hW => ⟨⟨nI 0, (), rfl, fun zz1 => absurd zz1 hx0, ⟨by rw [ht]; exact hP, va_K.moved hW.alike hK⟩, hD⟩, hS.F ht⟩) hS.2.2 dX3_join_100
          · refine lv_aload_n hx hb dX3_join_62 rfl (lv_at hl 2 rfl) ?_
            refine z_get (C := RX3) (T := TX3) (N := 21) (ci := 3) (fs := mObj bd M th) (v := .ref (bd 12)) F hK hP hi3 rfl (0) 12 (by omega) cM_0 (by decide) rfl (by decide +kernel) dX3_join_63 ?_
            refine lv_iload_n hx hb dX3_join_66 rfl (lv_at hl 3 rfl) ?_
            refine z_iald (v := nI (M 12 i)) (cA := k 0) (len := 40) (g := mA M O 12) F hK hP (12) 0 (by omega) rfl rfl (i := nI i) i rfl (by omega) (by decide) rfl dX3_join_67 ?_
            refine z_ifn_ne (tgt := 92) F (by omega) dX3_join_68 (by decide) (fun c56 => ?_) (fun c56 => ?_)
            · refine lv_iconst (v := nI 0) hx hb dX3_join_92 (by decide) ?_
              refine z_top (show nI 0 = bI (((zI (M 0 1) (nI i) ∧ zI (M 0 1) (nI j)) ∧ i ≠ j ∧ M 9 (i) = M 9 (j)) ∧ M 12 (i) = 0 ∧ M 12 (j) = 0 ∧ jN M (i) (M 0 1) = 0) from (bI_f (fun zz1 => by have zz2 := zz1.2.1; first | exact c56 zz2 | omega)).symm) ?_
              refine z_mV (qc := (RX3, TX3, 21)) (As := [.int (bI (zI (M 0 1) (nI i) ∧ zI (M 0 1) (nI j))), .int (bI ((zI (M 0 1) (nI i) ∧ zI (M 0 1) (nI j)) ∧ i ≠ j ∧ M 9 (i) = M 9 (j))), .int (bI (((zI (M 0 1) (nI i) ∧ zI (M 0 1) (nI j)) ∧ i ≠ j ∧ M 9 (i) = M 9 (j)) ∧ M 12 (i) = 0 ∧ M 12 (j) = 0 ∧ jN M (i) (M 0 1) = 0))]) (rest := []) (0) F (c_X3_asked__ l D k bd M O th _ (zI (M 0 1) (nI i) ∧ zI (M 0 1) (nI j)) ((zI (M 0 1) (nI i) ∧ zI (M 0 1) (nI j)) ∧ i ≠ j ∧ M 9 (i) = M 9 (j)) (((zI (M 0 1) (nI i) ∧ zI (M 0 1) (nI j)) ∧ i ≠ j ∧ M 9 (i) = M 9 (j)) ∧ M 12 (i) = 0 ∧ M 12 (j) = 0 ∧ jN M (i) (M 0 1) = 0)) (cwV 3 hts gX3_join_X3_asked__ rfl rfl rfl (by decide +kernel) ⟨Nat.le_of_ble_eq_true rfl, Nat.le_of_ble_eq_true rfl⟩) hK hP hD hS hA (by omega) cM_0 rfl rfl hl.1 rfl (Nat.le_of_ble_eq_true rfl) dX3_join_93 ⟨Nat.le_of_ble_eq_true rfl, Nat.le_of_ble_eq_true rfl⟩ (fun r H locs hr0 hP hD hS => ?_)
              subst hr0
              refine z_ifb_ne (tgt := 101) F dX3_join_96 (by decide) (fun c57 => ?_) (fun c57 => ?_)
              · exact absurd c57.2.2 (fun zz1 => by have zz2 := zz1.2.1; first | exact c56 zz2 | omega)
              · refine lv_iconst (v := nI 0) hx hb dX3_join_99 (by decide) ?_
                have hx0 : (x3 (zI (M 0 1) (nI i) ∧ zI (M 0 1) (nI j)) (i ≠ j ∧ M 9 (i) = M 9 (j)) (M 12 (i) = 0 ∧ M 12 (j) = 0 ∧ jN M (i) (M 0 1) = 0)) ≠ 0 := x3_no (fun zz1 => c57 ⟨zz1.1, ⟨zz1.1, zz1.2.1⟩, ⟨zz1.1, zz1.2.1⟩, zz1.2.2⟩)
                have eW : cM k bd (if (x3 (zI (M 0 1) (nI i) ∧ zI (M 0 1) (nI j)) (i ≠ j ∧ M 9 (i) = M 9 (j)) (M 12 (i) = 0 ∧ M 12 (j) = 0 ∧ jN M (i) (M 0 1) = 0)) = 0 then (zu (zu M 12 (i) 1) 13 (i) (j + 1)) else M) O (nI ((x3 (zI (M 0 1) (nI i) ∧ zI (M 0 1) (nI j)) (i ≠ j ∧ M 9 (i) = M 9 (j)) (M 12 (i) = 0 ∧ M 12 (j) = 0 ∧ jN M (i) (M 0 1) = 0)))) = cM k bd M O (nI (x3 (zI (M 0 1) (nI i) ∧ zI (M 0 1) (nI j)) ((zI (M 0 1) (nI i) ∧ zI (M 0 1) (nI j)) ∧ i ≠ j ∧ M 9 (i) = M 9 (j)) (((zI (M 0 1) (nI i) ∧ zI (M 0 1) (nI j)) ∧ i ≠ j ∧ M 9 (i) = M 9 (j)) ∧ M 12 (i) = 0 ∧ M 12 (j) = 0 ∧ jN M (i) (M 0 1) = 0))) := by rw [if_neg hx0, ← x3_jn] <;> rfl
                rw [← eW] at hP hD
                refine W.widen (k := 0) (n := 0) (Nat.le_of_ble_eq_true rfl) (Nat.le_of_ble_eq_true rfl) ?_
                exact W.iret (v := nI 0) hx hb hr (fun t ht hW => ⟨⟨nI 0, (), rfl, fun zz1 => absurd zz1 hx0, ⟨by rw [ht]; exact hP, va_K.moved hW.alike hK⟩, hD⟩, hS.F ht⟩) hS.2.2 dX3_join_100
            · refine lv_aload_n hx hb dX3_join_71 rfl (lv_at hl 2 rfl) ?_
              refine z_get (C := RX3) (T := TX3) (N := 21) (ci := 3) (fs := mObj bd M th) (v := .ref (bd 12)) F hK hP hi3 rfl (0) 12 (by omega) cM_0 (by decide) rfl (by decide +kernel) dX3_join_72 ?_
              refine lv_iload_n hx hb dX3_join_75 rfl (lv_at hl 4 rfl) ?_
              refine z_iald (v := nI (M 12 j)) (cA := k 0) (len := 40) (g := mA M O 12) F hK hP (12) 0 (by omega) rfl rfl (i := nI j) j rfl (by omega) (by decide) rfl dX3_join_76 ?_
              refine z_ifn_ne (tgt := 92) F (by omega) dX3_join_77 (by decide) (fun c58 => ?_) (fun c58 => ?_)
              · refine lv_iconst (v := nI 0) hx hb dX3_join_92 (by decide) ?_
                refine z_top (show nI 0 = bI (((zI (M 0 1) (nI i) ∧ zI (M 0 1) (nI j)) ∧ i ≠ j ∧ M 9 (i) = M 9 (j)) ∧ M 12 (i) = 0 ∧ M 12 (j) = 0 ∧ jN M (i) (M 0 1) = 0) from (bI_f (fun zz1 => by have zz2 := zz1.2.2.1; first | exact c58 zz2 | omega)).symm) ?_
                refine z_mV (qc := (RX3, TX3, 21)) (As := [.int (bI (zI (M 0 1) (nI i) ∧ zI (M 0 1) (nI j))), .int (bI ((zI (M 0 1) (nI i) ∧ zI (M 0 1) (nI j)) ∧ i ≠ j ∧ M 9 (i) = M 9 (j))), .int (bI (((zI (M 0 1) (nI i) ∧ zI (M 0 1) (nI j)) ∧ i ≠ j ∧ M 9 (i) = M 9 (j)) ∧ M 12 (i) = 0 ∧ M 12 (j) = 0 ∧ jN M (i) (M 0 1) = 0))]) (rest := []) (0) F (c_X3_asked__ l D k bd M O th _ (zI (M 0 1) (nI i) ∧ zI (M 0 1) (nI j)) ((zI (M 0 1) (nI i) ∧ zI (M 0 1) (nI j)) ∧ i ≠ j ∧ M 9 (i) = M 9 (j)) (((zI (M 0 1) (nI i) ∧ zI (M 0 1) (nI j)) ∧ i ≠ j ∧ M 9 (i) = M 9 (j)) ∧ M 12 (i) = 0 ∧ M 12 (j) = 0 ∧ jN M (i) (M 0 1) = 0)) (cwV 3 hts gX3_join_X3_asked__ rfl rfl rfl (by decide +kernel) ⟨Nat.le_of_ble_eq_true rfl, Nat.le_of_ble_eq_true rfl⟩) hK hP hD hS hA (by omega) cM_0 rfl rfl hl.1 rfl (Nat.le_of_ble_eq_true rfl) dX3_join_93 ⟨Nat.le_of_ble_eq_true rfl, Nat.le_of_ble_eq_true rfl⟩ (fun r H locs hr0 hP hD hS => ?_)
                subst hr0
                refine z_ifb_ne (tgt := 101) F dX3_join_96 (by decide) (fun c59 => ?_) (fun c59 => ?_)
                · exact absurd c59.2.2 (fun zz1 => by have zz2 := zz1.2.2.1; first | exact c58 zz2 | omega)
                · refine lv_iconst (v := nI 0) hx hb dX3_join_99 (by decide) ?_
                  have hx0 : (x3 (zI (M 0 1) (nI i) ∧ zI (M 0 1) (nI j)) (i ≠ j ∧ M 9 (i) = M 9 (j)) (M 12 (i) = 0 ∧ M 12 (j) = 0 ∧ jN M (i) (M 0 1) = 0)) ≠ 0 := x3_no (fun zz1 => c59 ⟨zz1.1, ⟨zz1.1, zz1.2.1⟩, ⟨zz1.1, zz1.2.1⟩, zz1.2.2⟩)
                  have eW : cM k bd (if (x3 (zI (M 0 1) (nI i) ∧ zI (M 0 1) (nI j)) (i ≠ j ∧ M 9 (i) = M 9 (j)) (M 12 (i) = 0 ∧ M 12 (j) = 0 ∧ jN M (i) (M 0 1) = 0)) = 0 then (zu (zu M 12 (i) 1) 13 (i) (j + 1)) else M) O (nI ((x3 (zI (M 0 1) (nI i) ∧ zI (M 0 1) (nI j)) (i ≠ j ∧ M 9 (i) = M 9 (j)) (M 12 (i) = 0 ∧ M 12 (j) = 0 ∧ jN M (i) (M 0 1) = 0)))) = cM k bd M O (nI (x3 (zI (M 0 1) (nI i) ∧ zI (M 0 1) (nI j)) ((zI (M 0 1) (nI i) ∧ zI (M 0 1) (nI j)) ∧ i ≠ j ∧ M 9 (i) = M 9 (j)) (((zI (M 0 1) (nI i) ∧ zI (M 0 1) (nI j)) ∧ i ≠ j ∧ M 9 (i) = M 9 (j)) ∧ M 12 (i) = 0 ∧ M 12 (j) = 0 ∧ jN M (i) (M 0 1) = 0))) := by rw [if_neg hx0, ← x3_jn] <;> rfl
                  rw [← eW] at hP hD
                  refine W.widen (k := 0) (n := 0) (Nat.le_of_ble_eq_true rfl) (Nat.le_of_ble_eq_true rfl) ?_
                  exact W.iret (v := nI 0) hx hb hr (fun t ht hW => ⟨⟨nI 0, (), rfl, fun zz1 => absurd zz1 hx0, ⟨by rw [ht]; exact hP, va_K.moved hW.alike hK⟩, hD⟩, hS.F ht⟩) hS.2.2 dX3_join_100
              · refine lv_aload_n hx hb dX3_join_80 rfl (lv_at hl 2 rfl) ?_
                refine lv_iload_n hx hb dX3_join_81 rfl (lv_at hl 3 rfl) ?_
                refine z_cV (qc := (RX3, TX3, 21)) (As := [.int (nI i)]) (rest := [.int (bI ((zI (M 0 1) (nI i) ∧ zI (M 0 1) (nI j)) ∧ i ≠ j ∧ M 9 (i) = M 9 (j))), .int (bI (zI (M 0 1) (nI i) ∧ zI (M 0 1) (nI j))), .ref (bd 0)]) (0) F (c_X3_joinedTo l D k bd M O th i hI5 hI2 (by omega)) (cwV 1 hts gX3_join_X3_joinedTo rfl rfl rfl (by decide +kernel) ⟨Nat.le_of_ble_eq_true rfl, Nat.le_of_ble_eq_true rfl⟩) hK hP (by omega) cM_0 rfl rfl hl.1 rfl (Nat.le_of_ble_eq_true rfl) dX3_join_82 ⟨Nat.le_of_ble_eq_true rfl, Nat.le_of_ble_eq_true rfl⟩ (fun r hr => ?_)
                subst hr
                have hjl := jN_le M i (M 0 1)
                refine z_ifn_ne (tgt := 92) F (by omega) dX3_join_85 (by decide) (fun c60 => ?_) (fun c60 => ?_)
                · refine lv_iconst (v := nI 0) hx hb dX3_join_92 (by decide) ?_
                  refine z_top (show nI 0 = bI (((zI (M 0 1) (nI i) ∧ zI (M 0 1) (nI j)) ∧ i ≠ j ∧ M 9 (i) = M 9 (j)) ∧ M 12 (i) = 0 ∧ M 12 (j) = 0 ∧ jN M (i) (M 0 1) = 0) from (bI_f (fun zz1 => by have zz2 := zz1.2.2.2; first | exact c60 zz2 | omega)).symm) ?_
                  refine z_mV (qc := (RX3, TX3, 21)) (As := [.int (bI (zI (M 0 1) (nI i) ∧ zI (M 0 1) (nI j))), .int (bI ((zI (M 0 1) (nI i) ∧ zI (M 0 1) (nI j)) ∧ i ≠ j ∧ M 9 (i) = M 9 (j))), .int (bI (((zI (M 0 1) (nI i) ∧ zI (M 0 1) (nI j)) ∧ i ≠ j ∧ M 9 (i) = M 9 (j)) ∧ M 12 (i) = 0 ∧ M 12 (j) = 0 ∧ jN M (i) (M 0 1) = 0))]) (rest := []) (0) F (c_X3_asked__ l D k bd M O th _ (zI (M 0 1) (nI i) ∧ zI (M 0 1) (nI j)) ((zI (M 0 1) (nI i) ∧ zI (M 0 1) (nI j)) ∧ i ≠ j ∧ M 9 (i) = M 9 (j)) (((zI (M 0 1) (nI i) ∧ zI (M 0 1) (nI j)) ∧ i ≠ j ∧ M 9 (i) = M 9 (j)) ∧ M 12 (i) = 0 ∧ M 12 (j) = 0 ∧ jN M (i) (M 0 1) = 0)) (cwV 3 hts gX3_join_X3_asked__ rfl rfl rfl (by decide +kernel) ⟨Nat.le_of_ble_eq_true rfl, Nat.le_of_ble_eq_true rfl⟩) hK hP hD hS hA (by omega) cM_0 rfl rfl hl.1 rfl (Nat.le_of_ble_eq_true rfl) dX3_join_93 ⟨Nat.le_of_ble_eq_true rfl, Nat.le_of_ble_eq_true rfl⟩ (fun r H locs hr0 hP hD hS => ?_)
                  subst hr0
                  refine z_ifb_ne (tgt := 101) F dX3_join_96 (by decide) (fun c61 => ?_) (fun c61 => ?_)
                  · exact absurd c61.2.2 (fun zz1 => by have zz2 := zz1.2.2.2; first | exact c60 zz2 | omega)
                  · refine lv_iconst (v := nI 0) hx hb dX3_join_99 (by decide) ?_
                    have hx0 : (x3 (zI (M 0 1) (nI i) ∧ zI (M 0 1) (nI j)) (i ≠ j ∧ M 9 (i) = M 9 (j)) (M 12 (i) = 0 ∧ M 12 (j) = 0 ∧ jN M (i) (M 0 1) = 0)) ≠ 0 := x3_no (fun zz1 => c61 ⟨zz1.1, ⟨zz1.1, zz1.2.1⟩, ⟨zz1.1, zz1.2.1⟩, zz1.2.2⟩)
                    have eW : cM k bd (if (x3 (zI (M 0 1) (nI i) ∧ zI (M 0 1) (nI j)) (i ≠ j ∧ M 9 (i) = M 9 (j)) (M 12 (i) = 0 ∧ M 12 (j) = 0 ∧ jN M (i) (M 0 1) = 0)) = 0 then (zu (zu M 12 (i) 1) 13 (i) (j + 1)) else M) O (nI ((x3 (zI (M 0 1) (nI i) ∧ zI (M 0 1) (nI j)) (i ≠ j ∧ M 9 (i) = M 9 (j)) (M 12 (i) = 0 ∧ M 12 (j) = 0 ∧ jN M (i) (M 0 1) = 0)))) = cM k bd M O (nI (x3 (zI (M 0 1) (nI i) ∧ zI (M 0 1) (nI j)) ((zI (M 0 1) (nI i) ∧ zI (M 0 1) (nI j)) ∧ i ≠ j ∧ M 9 (i) = M 9 (j)) (((zI (M 0 1) (nI i) ∧ zI (M 0 1) (nI j)) ∧ i ≠ j ∧ M 9 (i) = M 9 (j)) ∧ M 12 (i) = 0 ∧ M 12 (j) = 0 ∧ jN M (i) (M 0 1) = 0))) := by rw [if_neg hx0, ← x3_jn] <;> rfl
                    rw [← eW] at hP hD
                    refine W.widen (k := 0) (n := 0) (Nat.le_of_ble_eq_true rfl) (Nat.le_of_ble_eq_true rfl) ?_
                    exact W.iret (v := nI 0) hx hb hr (fun t ht hW => ⟨⟨nI 0, (), rfl, fun zz1 => absurd zz1 hx0, ⟨by rw [ht]; exact hP, va_K.moved hW.alike hK⟩, hD⟩, hS.F ht⟩) hS.2.2 dX3_join_100
                · refine lv_iconst (v := nI 1) hx hb dX3_join_88 (by decide) ?_
                  refine lv_goto (tgt := 93) hx hb dX3_join_89 (by decide) ?_
                  refine z_top (show nI 1 = bI (((zI (M 0 1) (nI i) ∧ zI (M 0 1) (nI j)) ∧ i ≠ j ∧ M 9 (i) = M 9 (j)) ∧ M 12 (i) = 0 ∧ M 12 (j) = 0 ∧ jN M (i) (M 0 1) = 0) from (bI_t ⟨c54, c56, c58, c60⟩).symm) ?_
                  refine z_mV (qc := (RX3, TX3, 21)) (As := [.int (bI (zI (M 0 1) (nI i) ∧ zI (M 0 1) (nI j))), .int (bI ((zI (M 0 1) (nI i) ∧ zI (M 0 1) (nI j)) ∧ i ≠ j ∧ M 9 (i) = M 9 (j))), .int (bI (((zI (M 0 1) (nI i) ∧ zI (M 0 1) (nI j)) ∧ i ≠ j ∧ M 9 (i) = M 9 (j)) ∧ M 12 (i) = 0 ∧ M 12 (j) = 0 ∧ jN M (i) (M 0 1) = 0))]) (rest := []) (0) F (c_X3_asked__ l D k bd M O th _ (zI (M 0 1) (nI i) ∧ zI (M 0 1) (nI j)) ((zI (M 0 1) (nI i) ∧ zI (M 0 1) (nI j)) ∧ i ≠ j ∧ M 9 (i) = M 9 (j)) (((zI (M 0 1) (nI i) ∧ zI (M 0 1) (nI j)) ∧ i ≠ j ∧ M 9 (i) = M 9 (j)) ∧ M 12 (i) = 0 ∧ M 12 (j) = 0 ∧ jN M (i) (M 0 1) = 0)) (cwV 3 hts gX3_join_X3_asked__ rfl rfl rfl (by decide +kernel) ⟨Nat.le_of_ble_eq_true rfl, Nat.le_of_ble_eq_true rfl⟩) hK hP hD hS hA (by omega) cM_0 rfl rfl hl.1 rfl (Nat.le_of_ble_eq_true rfl) dX3_join_93 ⟨Nat.le_of_ble_eq_true rfl, Nat.le_of_ble_eq_true rfl⟩ (fun r H locs hr0 hP hD hS => ?_)
                  subst hr0
                  refine z_ifb_ne (tgt := 101) F dX3_join_96 (by decide) (fun c62 => ?_) (fun c62 => ?_)
                  · refine lv_aload_n hx hb dX3_join_101 rfl (lv_at hl 2 rfl) ?_
                    refine z_get (C := RX3) (T := TX3) (N := 21) (ci := 3) (fs := mObj bd M (nI (x3 (zI (M 0 1) (nI i) ∧ zI (M 0 1) (nI j)) ((zI (M 0 1) (nI i) ∧ zI (M 0 1) (nI j)) ∧ i ≠ j ∧ M 9 (i) = M 9 (j)) (((zI (M 0 1) (nI i) ∧ zI (M 0 1) (nI j)) ∧ i ≠ j ∧ M 9 (i) = M 9 (j)) ∧ M 12 (i) = 0 ∧ M 12 (j) = 0 ∧ jN M (i) (M 0 1) = 0)))) (v := .ref (bd 12)) F hK hP hi3 rfl (0) 12 (by omega) cM_0 (by decide) rfl (by decide +kernel) dX3_join_102 ?_
                    refine lv_iload_n hx hb dX3_join_105 rfl (lv_at hl 3 rfl) ?_
                    refine lv_iconst (v := nI 1) hx hb dX3_join_106 (by decide) ?_
                    refine z_iast (f' := (cM k bd (zu M 12 i 1) O (nI (x3 (zI (M 0 1) (nI i) ∧ zI (M 0 1) (nI j)) ((zI (M 0 1) (nI i) ∧ zI (M 0 1) (nI j)) ∧ i ≠ j ∧ M 9 (i) = M 9 (j)) (((zI (M 0 1) (nI i) ∧ zI (M 0 1) (nI j)) ∧ i ≠ j ∧ M 9 (i) = M 9 (j)) ∧ M 12 (i) = 0 ∧ M 12 (j) = 0 ∧ jN M (i) (M 0 1) = 0))))) (cA := k 0) (len := 40) (g := mA M O 12) F hK hP hD hS (12) 0 (by omega) rfl rfl (i := nI i) i rfl (by omega) (by decide) (cM_urow 12 (by decide) (by decide) (by decide) (by decide) (by decide) _ _) dX3_join_107 (fun H locs hP hD hS => ?_)
                    refine lv_aload_n hx hb dX3_join_108 rfl (lv_at hl 2 rfl) ?_
                    refine z_get (C := RX3) (T := TX3) (N := 21) (ci := 3) (fs := mObj bd (zu M 12 i 1) (nI (x3 (zI (M 0 1) (nI i) ∧ zI (M 0 1) (nI j)) ((zI (M 0 1) (nI i) ∧ zI (M 0 1) (nI j)) ∧ i ≠ j ∧ M 9 (i) = M 9 (j)) (((zI (M 0 1) (nI i) ∧ zI (M 0 1) (nI j)) ∧ i ≠ j ∧ M 9 (i) = M 9 (j)) ∧ M 12 (i) = 0 ∧ M 12 (j) = 0 ∧ jN M (i) (M 0 1) = 0)))) (v := .ref (bd 13)) F hK hP hi3 rfl (0) 13 (by omega) cM_0 (by decide) rfl (by decide +kernel) dX3_join_109 ?_
                    refine lv_iload_n hx hb dX3_join_112 rfl (lv_at hl 3 rfl) ?_
                    refine lv_iload_n hx hb dX3_join_113 rfl (lv_at hl 4 rfl) ?_
                    refine z_iast (f' := (cM k bd (zu (zu M 12 i 1) 13 i (j + 1)) O (nI (x3 (zI (M 0 1) (nI i) ∧ zI (M 0 1) (nI j)) ((zI (M 0 1) (nI i) ∧ zI (M 0 1) (nI j)) ∧ i ≠ j ∧ M 9 (i) = M 9 (j)) (((zI (M 0 1) (nI i) ∧ zI (M 0 1) (nI j)) ∧ i ≠ j ∧ M 9 (i) = M 9 (j)) ∧ M 12 (i) = 0 ∧ M 12 (j) = 0 ∧ jN M (i) (M 0 1) = 0))))) (cA := k 0) (len := 40) (g := mA (zu M 12 i 1) O 13) F hK hP hD hS (13) 0 (by omega) rfl rfl (i := nI i) i rfl (by omega) (by decide) (cM_uhead _ (j + 1)) dX3_join_114 (fun H locs hP hD hS => ?_)
                    have hcaJ : ∀ c, c < (zu (zu M 12 i 1) 13 i (j + 1)) 0 1 → zCa (zu (zu M 12 i 1) 13 i (j + 1)) c := by
                      intro zc zc1
                      obtain ⟨g1, g2, g3, g4, g5, g6, g7⟩ := hI5 zc zc1
                      refine ⟨g1, g2, g3, ?_, ?_, g6, g7⟩
                      · rw [zu_r _ _ _ _ (by decide)]
                        by_cases zc2 : zc = i
                        · rw [zc2, zu_s]; omega
                        · rw [zu_i _ _ _ _ zc2]; exact g4
                      · by_cases zc2 : zc = i
                        · rw [zc2, zu_s]; show j + 1 ≤ M 0 1; omega
                        · rw [zu_i _ _ _ _ zc2]; exact g5
                    refine lv_aload_n hx hb dX3_join_115 rfl (lv_at hl 2 rfl) ?_
                    refine lv_iload_n hx hb dX3_join_116 rfl (lv_at hl 4 rfl) ?_
                    refine z_cV (qc := (RX3, TX3, 21)) (As := [.int (nI j)]) (rest := []) (0) F (c_X3_joinedTo l D k bd (zu (zu M 12 i 1) 13 i (j + 1)) O (nI (x3 (zI (M 0 1) (nI i) ∧ zI (M 0 1) (nI j)) ((zI (M 0 1) (nI i) ∧ zI (M 0 1) (nI j)) ∧ i ≠ j ∧ M 9 (i) = M 9 (j)) (((zI (M 0 1) (nI i) ∧ zI (M 0 1) (nI j)) ∧ i ≠ j ∧ M 9 (i) = M 9 (j)) ∧ M 12 (i) = 0 ∧ M 12 (j) = 0 ∧ jN M (i) (M 0 1) = 0))) j hcaJ hI2 (by omega)) (cwV 1 hts gX3_join_X3_joinedTo rfl rfl rfl (by decide +kernel) ⟨Nat.le_of_ble_eq_true rfl, Nat.le_of_ble_eq_true rfl⟩) hK hP (by omega) cM_0 rfl rfl hl.1 rfl (Nat.le_of_ble_eq_true rfl) dX3_join_117 ⟨Nat.le_of_ble_eq_true rfl, Nat.le_of_ble_eq_true rfl⟩ (fun r hr => ?_)
                    subst hr
                    have hjl := jN_le (zu (zu M 12 i 1) 13 i (j + 1)) j (M 0 1)
                    have hx0 : (x3 (zI (M 0 1) (nI i) ∧ zI (M 0 1) (nI j)) (i ≠ j ∧ M 9 (i) = M 9 (j)) (M 12 (i) = 0 ∧ M 12 (j) = 0 ∧ jN M (i) (M 0 1) = 0)) = 0 := x3_0 c62.1 c62.2.1.2 c62.2.2.2
                    have eW : cM k bd (if (x3 (zI (M 0 1) (nI i) ∧ zI (M 0 1) (nI j)) (i ≠ j ∧ M 9 (i) = M 9 (j)) (M 12 (i) = 0 ∧ M 12 (j) = 0 ∧ jN M (i) (M 0 1) = 0)) = 0 then (zu (zu M 12 (i) 1) 13 (i) (j + 1)) else M) O (nI ((x3 (zI (M 0 1) (nI i) ∧ zI (M 0 1) (nI j)) (i ≠ j ∧ M 9 (i) = M 9 (j)) (M 12 (i) = 0 ∧ M 12 (j) = 0 ∧ jN M (i) (M 0 1) = 0)))) = cM k bd (zu (zu M 12 i 1) 13 i (j + 1)) O (nI (x3 (zI (M 0 1) (nI i) ∧ zI (M 0 1) (nI j)) ((zI (M 0 1) (nI i) ∧ zI (M 0 1) (nI j)) ∧ i ≠ j ∧ M 9 (i) = M 9 (j)) (((zI (M 0 1) (nI i) ∧ zI (M 0 1) (nI j)) ∧ i ≠ j ∧ M 9 (i) = M 9 (j)) ∧ M 12 (i) = 0 ∧ M 12 (j) = 0 ∧ jN M (i) (M 0 1) = 0))) := by rw [if_pos hx0, ← x3_jn] <;> rfl
                    rw [← eW] at hP hD
                    refine W.widen (k := 0) (n := 0) (Nat.le_of_ble_eq_true rfl) (Nat.le_of_ble_eq_true rfl) ?_
                    exact W.iret (v := nI (jN (zu (zu M 12 i 1) 13 i (j + 1)) j (M 0 1))) hx hb hr (fun t ht hW => ⟨⟨nI (jN (zu (zu M 12 i 1) 13 i (j + 1)) j (M 0 1)), (), rfl, fun _ => rfl, ⟨by rw [ht]; exact hP, va_K.moved hW.alike hK⟩, hD⟩, hS.F ht⟩) hS.2.2 dX3_join_120
                  · refine lv_iconst (v := nI 0) hx hb dX3_join_99 (by decide) ?_
                    have hx0 : (x3 (zI (M 0 1) (nI i) ∧ zI (M 0 1) (nI j)) (i ≠ j ∧ M 9 (i) = M 9 (j)) (M 12 (i) = 0 ∧ M 12 (j) = 0 ∧ jN M (i) (M 0 1) = 0)) ≠ 0 := x3_no (fun zz1 => c62 ⟨zz1.1, ⟨zz1.1, zz1.2.1⟩, ⟨zz1.1, zz1.2.1⟩, zz1.2.2⟩)
                    have eW : cM k bd (if (x3 (zI (M 0 1) (nI i) ∧ zI (M 0 1) (nI j)) (i ≠ j ∧ M 9 (i) = M 9 (j)) (M 12 (i) = 0 ∧ M 12 (j) = 0 ∧ jN M (i) (M 0 1) = 0)) = 0 then (zu (zu M 12 (i) 1) 13 (i) (j + 1)) else M) O (nI ((x3 (zI (M 0 1) (nI i) ∧ zI (M 0 1) (nI j)) (i ≠ j ∧ M 9 (i) = M 9 (j)) (M 12 (i) = 0 ∧ M 12 (j) = 0 ∧ jN M (i) (M 0 1) = 0)))) = cM k bd M O (nI (x3 (zI (M 0 1) (nI i) ∧ zI (M 0 1) (nI j)) ((zI (M 0 1) (nI i) ∧ zI (M 0 1) (nI j)) ∧ i ≠ j ∧ M 9 (i) = M 9 (j)) (((zI (M 0 1) (nI i) ∧ zI (M 0 1) (nI j)) ∧ i ≠ j ∧ M 9 (i) = M 9 (j)) ∧ M 12 (i) = 0 ∧ M 12 (j) = 0 ∧ jN M (i) (M 0 1) = 0))) := by rw [if_neg hx0, ← x3_jn] <;> rfl
                    rw [← eW] at hP hD
                    refine W.widen (k := 0) (n := 0) (Nat.le_of_ble_eq_true rfl) (Nat.le_of_ble_eq_true rfl) ?_
                    exact W.iret (v := nI 0) hx hb hr (fun t ht hW => ⟨⟨nI 0, (), rfl, fun zz1 => absurd zz1 hx0, ⟨by rw [ht]; exact hP, va_K.moved hW.alike hK⟩, hD⟩, hS.F ht⟩) hS.2.2 dX3_join_100
  · refine lv_aload_n hx hb dX3_join_8 rfl (lv_at hl 0 rfl) ?_
    refine lv_iload_n hx hb dX3_join_9 rfl (lv_at hl 2 rfl) ?_
    refine z_cV (qc := (RX3, TX3, 21)) (As := [.int p1]) (rest := []) (0) F (c_X3_isCase l D k bd M O th hI2 p1) (cwV 1 hts gX3_join_X3_isCase rfl rfl rfl (by decide +kernel) ⟨Nat.le_of_ble_eq_true rfl, Nat.le_of_ble_eq_true rfl⟩) hK hP (by omega) cM_0 rfl rfl hl.1 rfl (Nat.le_of_ble_eq_true rfl) dX3_join_10 ⟨Nat.le_of_ble_eq_true rfl, Nat.le_of_ble_eq_true rfl⟩ (fun r hr => ?_)
    subst hr
    refine z_ifb_eq (tgt := 20) F dX3_join_13 (by decide) (fun c63 => ?_) (fun c63 => ?_)
    · refine lv_iconst (v := nI 0) hx hb dX3_join_20 (by decide) ?_
      refine z_top (show nI 0 = bI (zI (M 0 1) p0 ∧ zI (M 0 1) p1) from (bI_f (fun zz1 => by have zz2 := zz1.2; first | exact c63 zz2 | omega)).symm) ?_
      refine lv_istore_n (lv' := [(3, .int (bI (zI (M 0 1) p0 ∧ zI (M 0 1) p1))), (0, .ref (bd 0)), (1, .int p0), (2, .int p1)]) hx hb dX3_join_21 rfl hl (by decide) rfl (fun ls hl => ?_)
      refine lv_iload_n hx hb dX3_join_22 rfl (lv_at hl 0 rfl) ?_
      refine z_ifb_eq (tgt := 50) F dX3_join_23 (by decide) (fun c64 => ?_) (fun c64 => ?_)
      · refine lv_iconst (v := nI 0) hx hb dX3_join_50 (by decide) ?_
        refine z_top (show nI 0 = bI ((zI (M 0 1) p0 ∧ zI (M 0 1) p1) ∧ ix p0 ≠ ix p1 ∧ M 9 (ix p0) = M 9 (ix p1)) from (bI_f (fun zz1 => by have zz2 := zz1.1; first | exact c64 zz2 | omega)).symm) ?_
        refine lv_istore (lv' := [(4, .int (bI ((zI (M 0 1) p0 ∧ zI (M 0 1) p1) ∧ ix p0 ≠ ix p1 ∧ M 9 (ix p0) = M 9 (ix p1)))), (3, .int (bI (zI (M 0 1) p0 ∧ zI (M 0 1) p1))), (0, .ref (bd 0)), (1, .int p0), (2, .int p1)]) hx hb dX3_join_51 hl (by decide) rfl (fun ls hl => ?_)
        refine lv_aload_n hx hb dX3_join_53 rfl (lv_at hl 2 rfl) ?_
        refine lv_iload_n hx hb dX3_join_54 rfl (lv_at hl 1 rfl) ?_
        refine lv_iload hx hb dX3_join_55 (lv_at hl 0 rfl) ?_
        refine lv_iload hx hb dX3_join_57 (lv_at hl 0 rfl) ?_
        refine z_ifb_eq (tgt := 92) F dX3_join_59 (by decide) (fun c65 => ?_) (fun c65 => ?_)
        · refine lv_iconst (v := nI 0) hx hb dX3_join_92 (by decide) ?_
          refine z_top (show nI 0 = bI (((zI (M 0 1) p0 ∧ zI (M 0 1) p1) ∧ ix p0 ≠ ix p1 ∧ M 9 (ix p0) = M 9 (ix p1)) ∧ M 12 (ix p0) = 0 ∧ M 12 (ix p1) = 0 ∧ jN M (ix p0) (M 0 1) = 0) from (bI_f (fun zz1 => by have zz2 := zz1.1; first | exact c65 zz2 | omega)).symm) ?_
          refine z_mV (qc := (RX3, TX3, 21)) (As := [.int (bI (zI (M 0 1) p0 ∧ zI (M 0 1) p1)), .int (bI ((zI (M 0 1) p0 ∧ zI (M 0 1) p1) ∧ ix p0 ≠ ix p1 ∧ M 9 (ix p0) = M 9 (ix p1))), .int (bI (((zI (M 0 1) p0 ∧ zI (M 0 1) p1) ∧ ix p0 ≠ ix p1 ∧ M 9 (ix p0) = M 9 (ix p1)) ∧ M 12 (ix p0) = 0 ∧ M 12 (ix p1) = 0 ∧ jN M (ix p0) (M 0 1) = 0))]) (rest := []) (0) F (c_X3_asked__ l D k bd M O th _ (zI (M 0 1) p0 ∧ zI (M 0 1) p1) ((zI (M 0 1) p0 ∧ zI (M 0 1) p1) ∧ ix p0 ≠ ix p1 ∧ M 9 (ix p0) = M 9 (ix p1)) (((zI (M 0 1) p0 ∧ zI (M 0 1) p1) ∧ ix p0 ≠ ix p1 ∧ M 9 (ix p0) = M 9 (ix p1)) ∧ M 12 (ix p0) = 0 ∧ M 12 (ix p1) = 0 ∧ jN M (ix p0) (M 0 1) = 0)) (cwV 3 hts gX3_join_X3_asked__ rfl rfl rfl (by decide +kernel) ⟨Nat.le_of_ble_eq_true rfl, Nat.le_of_ble_eq_true rfl⟩) hK hP hD hS hA (by omega) cM_0 rfl rfl hl.1 rfl (Nat.le_of_ble_eq_true rfl) dX3_join_93 ⟨Nat.le_of_ble_eq_true rfl, Nat.le_of_ble_eq_true rfl⟩ (fun r H locs hr0 hP hD hS => ?_)
          subst hr0
          refine z_ifb_ne (tgt := 101) F dX3_join_96 (by decide) (fun c66 => ?_) (fun c66 => ?_)
          · exact absurd c66.2.2 (fun zz1 => by have zz2 := zz1.1; first | exact c65 zz2 | omega)
          · refine lv_iconst (v := nI 0) hx hb dX3_join_99 (by decide) ?_
            have hx0 : (x3 (zI (M 0 1) p0 ∧ zI (M 0 1) p1) (ix p0 ≠ ix p1 ∧ M 9 (ix p0) = M 9 (ix p1)) (M 12 (ix p0) = 0 ∧ M 12 (ix p1) = 0 ∧ jN M (ix p0) (M 0 1) = 0)) ≠ 0 := x3_no (fun zz1 => c66 ⟨zz1.1, ⟨zz1.1, zz1.2.1⟩, ⟨zz1.1, zz1.2.1⟩, zz1.2.2⟩)
            have eW : cM k bd (if (x3 (zI (M 0 1) p0 ∧ zI (M 0 1) p1) (ix p0 ≠ ix p1 ∧ M 9 (ix p0) = M 9 (ix p1)) (M 12 (ix p0) = 0 ∧ M 12 (ix p1) = 0 ∧ jN M (ix p0) (M 0 1) = 0)) = 0 then (zu (zu M 12 (ix p0) 1) 13 (ix p0) (ix p1 + 1)) else M) O (nI ((x3 (zI (M 0 1) p0 ∧ zI (M 0 1) p1) (ix p0 ≠ ix p1 ∧ M 9 (ix p0) = M 9 (ix p1)) (M 12 (ix p0) = 0 ∧ M 12 (ix p1) = 0 ∧ jN M (ix p0) (M 0 1) = 0)))) = cM k bd M O (nI (x3 (zI (M 0 1) p0 ∧ zI (M 0 1) p1) ((zI (M 0 1) p0 ∧ zI (M 0 1) p1) ∧ ix p0 ≠ ix p1 ∧ M 9 (ix p0) = M 9 (ix p1)) (((zI (M 0 1) p0 ∧ zI (M 0 1) p1) ∧ ix p0 ≠ ix p1 ∧ M 9 (ix p0) = M 9 (ix p1)) ∧ M 12 (ix p0) = 0 ∧ M 12 (ix p1) = 0 ∧ jN M (ix p0) (M 0 1) = 0))) := by rw [if_neg hx0, ← x3_jn] <;> rfl
            rw [← eW] at hP hD
            refine W.widen (k := 0) (n := 0) (Nat.le_of_ble_eq_true rfl) (Nat.le_of_ble_eq_true rfl) ?_
            exact W.iret (v := nI 0) hx hb hr (fun t ht hW => ⟨⟨nI 0, (), rfl, fun zz1 => absurd zz1 hx0, ⟨by rw [ht]; exact hP, va_K.moved hW.alike hK⟩, hD⟩, hS.F ht⟩) hS.2.2 dX3_join_100
        · exact absurd c65 (fun zz1 => by have zz2 := zz1.1; first | exact c64 zz2 | omega)
      · obtain ⟨i, hi, rfl⟩ := id (c64.1)
        try rw [ix_nI (show i < 2 ^ 31 by omega)]
        obtain ⟨j, hj, rfl⟩ := id (c64.2)
        try rw [ix_nI (show j < 2 ^ 31 by omega)]
        have hzi := hI5 i hi
        have hzj := hI5 j hj
        obtain ⟨hc1, hc2, hc3, hc4, hc5, hc6, hc7⟩ := id hzi
        obtain ⟨gc1, gc2, gc3, gc4, gc5, gc6, gc7⟩ := id hzj
        refine lv_iload_n hx hb dX3_join_26 rfl (lv_at hl 2 rfl) ?_
        refine lv_iload_n hx hb dX3_join_27 rfl (lv_at hl 3 rfl) ?_
        refine z_icmp_eq (tgt := 50) F (by omega) (by omega) dX3_join_28 (by decide) (fun c67 => ?_) (fun c67 => ?_)
        · refine lv_iconst (v := nI 0) hx hb dX3_join_50 (by decide) ?_
          refine z_top (show nI 0 = bI ((zI (M 0 1) (nI i) ∧ zI (M 0 1) (nI j)) ∧ i ≠ j ∧ M 9 (i) = M 9 (j)) from (bI_f (fun zz1 => by have zz2 := zz1.2.1; first | exact c67 zz2 | omega)).symm) ?_
          refine lv_istore (lv' := [(4, .int (bI ((zI (M 0 1) (nI i) ∧ zI (M 0 1) (nI j)) ∧ i ≠ j ∧ M 9 (i) = M 9 (j)))), (3, .int (bI (zI (M 0 1) (nI i) ∧ zI (M 0 1) (nI j)))), (0, .ref (bd 0)), (1, .int (nI i)), (2, .int (nI j))]) hx hb dX3_join_51 hl (by decide) rfl (fun ls hl => ?_)
          refine lv_aload_n hx hb dX3_join_53 rfl (lv_at hl 2 rfl) ?_
          refine lv_iload_n hx hb dX3_join_54 rfl (lv_at hl 1 rfl) ?_
          refine lv_iload hx hb dX3_join_55 (lv_at hl 0 rfl) ?_
          refine lv_iload hx hb dX3_join_57 (lv_at hl 0 rfl) ?_
          refine z_ifb_eq (tgt := 92) F dX3_join_59 (by decide) (fun c68 => ?_) (fun c68 => ?_)
          · refine lv_iconst (v := nI 0) hx hb dX3_join_92 (by decide) ?_
            refine z_top (show nI 0 = bI (((zI (M 0 1) (nI i) ∧ zI (M 0 1) (nI j)) ∧ i ≠ j ∧ M 9 (i) = M 9 (j)) ∧ M 12 (i) = 0 ∧ M 12 (j) = 0 ∧ jN M (i) (M 0 1) = 0) from (bI_f (fun zz1 => by have zz2 := zz1.1; first | exact c68 zz2 | omega)).symm) ?_
            refine z_mV (qc := (RX3, TX3, 21)) (As := [.int (bI (zI (M 0 1) (nI i) ∧ zI (M 0 1) (nI j))), .int (bI ((zI (M 0 1) (nI i) ∧ zI (M 0 1) (nI j)) ∧ i ≠ j ∧ M 9 (i) = M 9 (j))), .int (bI (((zI (M 0 1) (nI i) ∧ zI (M 0 1) (nI j)) ∧ i ≠ j ∧ M 9 (i) = M 9 (j)) ∧ M 12 (i) = 0 ∧ M 12 (j) = 0 ∧ jN M (i) (M 0 1) = 0))]) (rest := []) (0) F (c_X3_asked__ l D k bd M O th _ (zI (M 0 1) (nI i) ∧ zI (M 0 1) (nI j)) ((zI (M 0 1) (nI i) ∧ zI (M 0 1) (nI j)) ∧ i ≠ j ∧ M 9 (i) = M 9 (j)) (((zI (M 0 1) (nI i) ∧ zI (M 0 1) (nI j)) ∧ i ≠ j ∧ M 9 (i) = M 9 (j)) ∧ M 12 (i) = 0 ∧ M 12 (j) = 0 ∧ jN M (i) (M 0 1) = 0)) (cwV 3 hts gX3_join_X3_asked__ rfl rfl rfl (by decide +kernel) ⟨Nat.le_of_ble_eq_true rfl, Nat.le_of_ble_eq_true rfl⟩) hK hP hD hS hA (by omega) cM_0 rfl rfl hl.1 rfl (Nat.le_of_ble_eq_true rfl) dX3_join_93 ⟨Nat.le_of_ble_eq_true rfl, Nat.le_of_ble_eq_true rfl⟩ (fun r H locs hr0 hP hD hS => ?_)
            subst hr0
            refine z_ifb_ne (tgt := 101) F dX3_join_96 (by decide) (fun c69 => ?_) (fun c69 => ?_)
            · exact absurd c69.2.2 (fun zz1 => by have zz2 := zz1.1; first | exact c68 zz2 | omega)
            · refine lv_iconst (v := nI 0) hx hb dX3_join_99 (by decide) ?_
              have hx0 : (x3 (zI (M 0 1) (nI i) ∧ zI (M 0 1) (nI j)) (i ≠ j ∧ M 9 (i) = M 9 (j)) (M 12 (i) = 0 ∧ M 12 (j) = 0 ∧ jN M (i) (M 0 1) = 0)) ≠ 0 := x3_no (fun zz1 => c69 ⟨zz1.1, ⟨zz1.1, zz1.2.1⟩, ⟨zz1.1, zz1.2.1⟩, zz1.2.2⟩)
              have eW : cM k bd (if (x3 (zI (M 0 1) (nI i) ∧ zI (M 0 1) (nI j)) (i ≠ j ∧ M 9 (i) = M 9 (j)) (M 12 (i) = 0 ∧ M 12 (j) = 0 ∧ jN M (i) (M 0 1) = 0)) = 0 then (zu (zu M 12 (i) 1) 13 (i) (j + 1)) else M) O (nI ((x3 (zI (M 0 1) (nI i) ∧ zI (M 0 1) (nI j)) (i ≠ j ∧ M 9 (i) = M 9 (j)) (M 12 (i) = 0 ∧ M 12 (j) = 0 ∧ jN M (i) (M 0 1) = 0)))) = cM k bd M O (nI (x3 (zI (M 0 1) (nI i) ∧ zI (M 0 1) (nI j)) ((zI (M 0 1) (nI i) ∧ zI (M 0 1) (nI j)) ∧ i ≠ j ∧ M 9 (i) = M 9 (j)) (((zI (M 0 1) (nI i) ∧ zI (M 0 1) (nI j)) ∧ i ≠ j ∧ M 9 (i) = M 9 (j)) ∧ M 12 (i) = 0 ∧ M 12 (j) = 0 ∧ jN M (i) (M 0 1) = 0))) := by rw [if_neg hx0, ← x3_jn] <;> rfl
              rw [← eW] at hP hD
              refine W.widen (k := 0) (n := 0) (Nat.le_of_ble_eq_true rfl) (Nat.le_of_ble_eq_true rfl) ?_
              exact W.iret (v := nI 0) hx hb hr (fun t ht hW => ⟨⟨nI 0, (), rfl, fun zz1 => absurd zz1 hx0, ⟨by rw [ht]; exact hP, va_K.moved hW.alike hK⟩, hD⟩, hS.F ht⟩) hS.2.2 dX3_join_100
          · exact absurd c68 (fun zz1 => by have zz2 := zz1.2.1; first | exact c67 zz2 | omega)
        · refine lv_aload_n hx hb dX3_join_31 rfl (lv_at hl 1 rfl) ?_
          refine z_get (C := RX3) (T := TX3) (N := 21) (ci := 3) (fs := mObj bd M th) (v := .ref (bd 9)) F hK hP hi3 rfl (0) 9 (by omega) cM_0 (by decide) rfl (by decide +kernel) dX3_join_32 ?_
          refine lv_iload_n hx hb dX3_join_35 rfl (lv_at hl 2 rfl) ?_
          refine z_iald (v := nI (M 9 i)) (cA := k 0) (len := 40) (g := mA M O 9) F hK hP (9) 0 (by omega) rfl rfl (i := nI i) i rfl (by omega) (by decide) rfl dX3_join_36 ?_
          refine lv_aload_n hx hb dX3_join_37 rfl (lv_at hl 1 rfl) ?_
          refine z_get (C := RX3) (T := TX3) (N := 21) (ci := 3) (fs := mObj bd M th) (v := .ref (bd 9)) F hK hP hi3 rfl (0) 9 (by omega) cM_0 (by decide) rfl (by decide +kernel) dX3_join_38 ?_
          refine lv_iload_n hx hb dX3_join_41 rfl (lv_at hl 3 rfl) ?_
          refine z_iald (v := nI (M 9 j)) (cA := k 0) (len := 40) (g := mA M O 9) F hK hP (9) 0 (by omega) rfl rfl (i := nI j) j rfl (by omega) (by decide) rfl dX3_join_42 ?_
          refine z_icmp_ne (tgt := 50) F (by omega) (by omega) dX3_join_43 (by decide) (fun c70 => ?_) (fun c70 => ?_)
          · refine lv_iconst (v := nI 0) hx hb dX3_join_50 (by decide) ?_
            refine z_top (show nI 0 = bI ((zI (M 0 1) (nI i) ∧ zI (M 0 1) (nI j)) ∧ i ≠ j ∧ M 9 (i) = M 9 (j)) from (bI_f (fun zz1 => by have zz2 := zz1.2.2; first | exact c70 zz2 | omega)).symm) ?_
            refine lv_istore (lv' := [(4, .int (bI ((zI (M 0 1) (nI i) ∧ zI (M 0 1) (nI j)) ∧ i ≠ j ∧ M 9 (i) = M 9 (j)))), (3, .int (bI (zI (M 0 1) (nI i) ∧ zI (M 0 1) (nI j)))), (0, .ref (bd 0)), (1, .int (nI i)), (2, .int (nI j))]) hx hb dX3_join_51 hl (by decide) rfl (fun ls hl => ?_)
            refine lv_aload_n hx hb dX3_join_53 rfl (lv_at hl 2 rfl) ?_
            refine lv_iload_n hx hb dX3_join_54 rfl (lv_at hl 1 rfl) ?_
            refine lv_iload hx hb dX3_join_55 (lv_at hl 0 rfl) ?_
            refine lv_iload hx hb dX3_join_57 (lv_at hl 0 rfl) ?_
            refine z_ifb_eq (tgt := 92) F dX3_join_59 (by decide) (fun c71 => ?_) (fun c71 => ?_)
            · refine lv_iconst (v := nI 0) hx hb dX3_join_92 (by decide) ?_
              refine z_top (show nI 0 = bI (((zI (M 0 1) (nI i) ∧ zI (M 0 1) (nI j)) ∧ i ≠ j ∧ M 9 (i) = M 9 (j)) ∧ M 12 (i) = 0 ∧ M 12 (j) = 0 ∧ jN M (i) (M 0 1) = 0) from (bI_f (fun zz1 => by have zz2 := zz1.1; first | exact c71 zz2 | omega)).symm) ?_
              refine z_mV (qc := (RX3, TX3, 21)) (As := [.int (bI (zI (M 0 1) (nI i) ∧ zI (M 0 1) (nI j))), .int (bI ((zI (M 0 1) (nI i) ∧ zI (M 0 1) (nI j)) ∧ i ≠ j ∧ M 9 (i) = M 9 (j))), .int (bI (((zI (M 0 1) (nI i) ∧ zI (M 0 1) (nI j)) ∧ i ≠ j ∧ M 9 (i) = M 9 (j)) ∧ M 12 (i) = 0 ∧ M 12 (j) = 0 ∧ jN M (i) (M 0 1) = 0))]) (rest := []) (0) F (c_X3_asked__ l D k bd M O th _ (zI (M 0 1) (nI i) ∧ zI (M 0 1) (nI j)) ((zI (M 0 1) (nI i) ∧ zI (M 0 1) (nI j)) ∧ i ≠ j ∧ M 9 (i) = M 9 (j)) (((zI (M 0 1) (nI i) ∧ zI (M 0 1) (nI j)) ∧ i ≠ j ∧ M 9 (i) = M 9 (j)) ∧ M 12 (i) = 0 ∧ M 12 (j) = 0 ∧ jN M (i) (M 0 1) = 0)) (cwV 3 hts gX3_join_X3_asked__ rfl rfl rfl (by decide +kernel) ⟨Nat.le_of_ble_eq_true rfl, Nat.le_of_ble_eq_true rfl⟩) hK hP hD hS hA (by omega) cM_0 rfl rfl hl.1 rfl (Nat.le_of_ble_eq_true rfl) dX3_join_93 ⟨Nat.le_of_ble_eq_true rfl, Nat.le_of_ble_eq_true rfl⟩ (fun r H locs hr0 hP hD hS => ?_)
              subst hr0
              refine z_ifb_ne (tgt := 101) F dX3_join_96 (by decide) (fun c72 => ?_) (fun c72 => ?_)
              · exact absurd c72.2.2 (fun zz1 => by have zz2 := zz1.1; first | exact c71 zz2 | omega)
              · refine lv_iconst (v := nI 0) hx hb dX3_join_99 (by decide) ?_
                have hx0 : (x3 (zI (M 0 1) (nI i) ∧ zI (M 0 1) (nI j)) (i ≠ j ∧ M 9 (i) = M 9 (j)) (M 12 (i) = 0 ∧ M 12 (j) = 0 ∧ jN M (i) (M 0 1) = 0)) ≠ 0 := x3_no (fun zz1 => c72 ⟨zz1.1, ⟨zz1.1, zz1.2.1⟩, ⟨zz1.1, zz1.2.1⟩, zz1.2.2⟩)
                have eW : cM k bd (if (x3 (zI (M 0 1) (nI i) ∧ zI (M 0 1) (nI j)) (i ≠ j ∧ M 9 (i) = M 9 (j)) (M 12 (i) = 0 ∧ M 12 (j) = 0 ∧ jN M (i) (M 0 1) = 0)) = 0 then (zu (zu M 12 (i) 1) 13 (i) (j + 1)) else M) O (nI ((x3 (zI (M 0 1) (nI i) ∧ zI (M 0 1) (nI j)) (i ≠ j ∧ M 9 (i) = M 9 (j)) (M 12 (i) = 0 ∧ M 12 (j) = 0 ∧ jN M (i) (M 0 1) = 0)))) = cM k bd M O (nI (x3 (zI (M 0 1) (nI i) ∧ zI (M 0 1) (nI j)) ((zI (M 0 1) (nI i) ∧ zI (M 0 1) (nI j)) ∧ i ≠ j ∧ M 9 (i) = M 9 (j)) (((zI (M 0 1) (nI i) ∧ zI (M 0 1) (nI j)) ∧ i ≠ j ∧ M 9 (i) = M 9 (j)) ∧ M 12 (i) = 0 ∧ M 12 (j) = 0 ∧ jN M (i) (M 0 1) = 0))) := by rw [if_neg hx0, ← x3_jn] <;> rfl
                rw [← eW] at hP hD
                refine W.widen (k := 0) (n := 0) (Nat.le_of_ble_eq_true rfl) (Nat.le_of_ble_eq_true rfl) ?_
                exact W.iret (v := nI 0) hx hb hr (fun t ht hW => ⟨⟨nI 0, (), rfl, fun zz1 => absurd zz1 hx0, ⟨by rw [ht]; exact hP, va_K.moved hW.alike hK⟩, hD⟩, hS.F ht⟩) hS.2.2 dX3_join_100
            · exact absurd c71 (fun zz1 => by have zz2 := zz1.2.2; first | exact c70 zz2 | omega)
          · refine lv_iconst (v := nI 1) hx hb dX3_join_46 (by decide) ?_
            refine lv_goto (tgt := 51) hx hb dX3_join_47 (by decide) ?_
            refine z_top (show nI 1 = bI ((zI (M 0 1) (nI i) ∧ zI (M 0 1) (nI j)) ∧ i ≠ j ∧ M 9 (i) = M 9 (j)) from (bI_t ⟨c64, c67, c70⟩).symm) ?_
            refine lv_istore (lv' := [(4, .int (bI ((zI (M 0 1) (nI i) ∧ zI (M 0 1) (nI j)) ∧ i ≠ j ∧ M 9 (i) = M 9 (j)))), (3, .int (bI (zI (M 0 1) (nI i) ∧ zI (M 0 1) (nI j)))), (0, .ref (bd 0)), (1, .int (nI i)), (2, .int (nI j))]) hx hb dX3_join_51 hl (by decide) rfl (fun ls hl => ?_)
            refine lv_aload_n hx hb dX3_join_53 rfl (lv_at hl 2 rfl) ?_
            refine lv_iload_n hx hb dX3_join_54 rfl (lv_at hl 1 rfl) ?_
            refine lv_iload hx hb dX3_join_55 (lv_at hl 0 rfl) ?_
            refine lv_iload hx hb dX3_join_57 (lv_at hl 0 rfl) ?_
            refine z_ifb_eq (tgt := 92) F dX3_join_59 (by decide) (fun c73 => ?_) (fun c73 => ?_)
            · refine lv_iconst (v := nI 0) hx hb dX3_join_92 (by decide) ?_
              refine z_top (show nI 0 = bI (((zI (M 0 1) (nI i) ∧ zI (M 0 1) (nI j)) ∧ i ≠ j ∧ M 9 (i) = M 9 (j)) ∧ M 12 (i) = 0 ∧ M 12 (j) = 0 ∧ jN M (i) (M 0 1) = 0) from (bI_f (fun zz1 => by have zz2 := zz1.1; first | exact c73 zz2 | omega)).symm) ?_
              refine z_mV (qc := (RX3, TX3, 21)) (As := [.int (bI (zI (M 0 1) (nI i) ∧ zI (M 0 1) (nI j))), .int (bI ((zI (M 0 1) (nI i) ∧ zI (M 0 1) (nI j)) ∧ i ≠ j ∧ M 9 (i) = M 9 (j))), .int (bI (((zI (M 0 1) (nI i) ∧ zI (M 0 1) (nI j)) ∧ i ≠ j ∧ M 9 (i) = M 9 (j)) ∧ M 12 (i) = 0 ∧ M 12 (j) = 0 ∧ jN M (i) (M 0 1) = 0))]) (rest := []) (0) F (c_X3_asked__ l D k bd M O th _ (zI (M 0 1) (nI i) ∧ zI (M 0 1) (nI j)) ((zI (M 0 1) (nI i) ∧ zI (M 0 1) (nI j)) ∧ i ≠ j ∧ M 9 (i) = M 9 (j)) (((zI (M 0 1) (nI i) ∧ zI (M 0 1) (nI j)) ∧ i ≠ j ∧ M 9 (i) = M 9 (j)) ∧ M 12 (i) = 0 ∧ M 12 (j) = 0 ∧ jN M (i) (M 0 1) = 0)) (cwV 3 hts gX3_join_X3_asked__ rfl rfl rfl (by decide +kernel) ⟨Nat.le_of_ble_eq_true rfl, Nat.le_of_ble_eq_true rfl⟩) hK hP hD hS hA (by omega) cM_0 rfl rfl hl.1 rfl (Nat.le_of_ble_eq_true rfl) dX3_join_93 ⟨Nat.le_of_ble_eq_true rfl, Nat.le_of_ble_eq_true rfl⟩ (fun r H locs hr0 hP hD hS => ?_)
              subst hr0
              refine z_ifb_ne (tgt := 101) F dX3_join_96 (by decide) (fun c74 => ?_) (fun c74 => ?_)
              · exact absurd c74.2.2 (fun zz1 => by have zz2 := zz1.1; first | exact c73 zz2 | omega)
              · refine lv_iconst (v := nI 0) hx hb dX3_join_99 (by decide) ?_
                have hx0 : (x3 (zI (M 0 1) (nI i) ∧ zI (M 0 1) (nI j)) (i ≠ j ∧ M 9 (i) = M 9 (j)) (M 12 (i) = 0 ∧ M 12 (j) = 0 ∧ jN M (i) (M 0 1) = 0)) ≠ 0 := x3_no (fun zz1 => c74 ⟨zz1.1, ⟨zz1.1, zz1.2.1⟩, ⟨zz1.1, zz1.2.1⟩, zz1.2.2⟩)
                have eW : cM k bd (if (x3 (zI (M 0 1) (nI i) ∧ zI (M 0 1) (nI j)) (i ≠ j ∧ M 9 (i) = M 9 (j)) (M 12 (i) = 0 ∧ M 12 (j) = 0 ∧ jN M (i) (M 0 1) = 0)) = 0 then (zu (zu M 12 (i) 1) 13 (i) (j + 1)) else M) O (nI ((x3 (zI (M 0 1) (nI i) ∧ zI (M 0 1) (nI j)) (i ≠ j ∧ M 9 (i) = M 9 (j)) (M 12 (i) = 0 ∧ M 12 (j) = 0 ∧ jN M (i) (M 0 1) = 0)))) = cM k bd M O (nI (x3 (zI (M 0 1) (nI i) ∧ zI (M 0 1) (nI j)) ((zI (M 0 1) (nI i) ∧ zI (M 0 1) (nI j)) ∧ i ≠ j ∧ M 9 (i) = M 9 (j)) (((zI (M 0 1) (nI i) ∧ zI (M 0 1) (nI j)) ∧ i ≠ j ∧ M 9 (i) = M 9 (j)) ∧ M 12 (i) = 0 ∧ M 12 (j) = 0 ∧ jN M (i) (M 0 1) = 0))) := by rw [if_neg hx0, ← x3_jn] <;> rfl
                rw [← eW] at hP hD
                refine W.widen (k := 0) (n := 0) (Nat.le_of_ble_eq_true rfl) (Nat.le_of_ble_eq_true rfl) ?_
                exact W.iret (v := nI 0) hx hb hr (fun t ht hW => ⟨⟨nI 0, (), rfl, fun zz1 => absurd zz1 hx0, ⟨by rw [ht]; exact hP, va_K.moved hW.alike hK⟩, hD⟩, hS.F ht⟩) hS.2.2 dX3_join_100
            · refine lv_aload_n hx hb dX3_join_62 rfl (lv_at hl 2 rfl) ?_
              refine z_get (C := RX3) (T := TX3) (N := 21) (ci := 3) (fs := mObj bd M th) (v := .ref (bd 12)) F hK hP hi3 rfl (0) 12 (by omega) cM_0 (by decide) rfl (by decide +kernel) dX3_join_63 ?_
              refine lv_iload_n hx hb dX3_join_66 rfl (lv_at hl 3 rfl) ?_
              refine z_iald (v := nI (M 12 i)) (cA := k 0) (len := 40) (g := mA M O 12) F hK hP (12) 0 (by omega) rfl rfl (i := nI i) i rfl (by omega) (by decide) rfl dX3_join_67 ?_
              refine z_ifn_ne (tgt := 92) F (by omega) dX3_join_68 (by decide) (fun c75 => ?_) (fun c75 => ?_)
              · refine lv_iconst (v := nI 0) hx hb dX3_join_92 (by decide) ?_
                refine z_top (show nI 0 = bI (((zI (M 0 1) (nI i) ∧ zI (M 0 1) (nI j)) ∧ i ≠ j ∧ M 9 (i) = M 9 (j)) ∧ M 12 (i) = 0 ∧ M 12 (j) = 0 ∧ jN M (i) (M 0 1) = 0) from (bI_f (fun zz1 => by have zz2 := zz1.2.1; first | exact c75 zz2 | omega)).symm) ?_
                refine z_mV (qc := (RX3, TX3, 21)) (As := [.int (bI (zI (M 0 1) (nI i) ∧ zI (M 0 1) (nI j))), .int (bI ((zI (M 0 1) (nI i) ∧ zI (M 0 1) (nI j)) ∧ i ≠ j ∧ M 9 (i) = M 9 (j))), .int (bI (((zI (M 0 1) (nI i) ∧ zI (M 0 1) (nI j)) ∧ i ≠ j ∧ M 9 (i) = M 9 (j)) ∧ M 12 (i) = 0 ∧ M 12 (j) = 0 ∧ jN M (i) (M 0 1) = 0))]) (rest := []) (0) F (c_X3_asked__ l D k bd M O th _ (zI (M 0 1) (nI i) ∧ zI (M 0 1) (nI j)) ((zI (M 0 1) (nI i) ∧ zI (M 0 1) (nI j)) ∧ i ≠ j ∧ M 9 (i) = M 9 (j)) (((zI (M 0 1) (nI i) ∧ zI (M 0 1) (nI j)) ∧ i ≠ j ∧ M 9 (i) = M 9 (j)) ∧ M 12 (i) = 0 ∧ M 12 (j) = 0 ∧ jN M (i) (M 0 1) = 0)) (cwV 3 hts gX3_join_X3_asked__ rfl rfl rfl (by decide +kernel) ⟨Nat.le_of_ble_eq_true rfl, Nat.le_of_ble_eq_true rfl⟩) hK hP hD hS hA (by omega) cM_0 rfl rfl hl.1 rfl (Nat.le_of_ble_eq_true rfl) dX3_join_93 ⟨Nat.le_of_ble_eq_true rfl, Nat.le_of_ble_eq_true rfl⟩ (fun r H locs hr0 hP hD hS => ?_)
                subst hr0
                refine z_ifb_ne (tgt := 101) F dX3_join_96 (by decide) (fun c76 => ?_) (fun c76 => ?_)
                · exact absurd c76.2.2 (fun zz1 => by have zz2 := zz1.2.1; first | exact c75 zz2 | omega)
                · refine lv_iconst (v := nI 0) hx hb dX3_join_99 (by decide) ?_
                  have hx0 : (x3 (zI (M 0 1) (nI i) ∧ zI (M 0 1) (nI j)) (i ≠ j ∧ M 9 (i) = M 9 (j)) (M 12 (i) = 0 ∧ M 12 (j) = 0 ∧ jN M (i) (M 0 1) = 0)) ≠ 0 := x3_no (fun zz1 => c76 ⟨zz1.1, ⟨zz1.1, zz1.2.1⟩, ⟨zz1.1, zz1.2.1⟩, zz1.2.2⟩)
                  have eW : cM k bd (if (x3 (zI (M 0 1) (nI i) ∧ zI (M 0 1) (nI j)) (i ≠ j ∧ M 9 (i) = M 9 (j)) (M 12 (i) = 0 ∧ M 12 (j) = 0 ∧ jN M (i) (M 0 1) = 0)) = 0 then (zu (zu M 12 (i) 1) 13 (i) (j + 1)) else M) O (nI ((x3 (zI (M 0 1) (nI i) ∧ zI (M 0 1) (nI j)) (i ≠ j ∧ M 9 (i) = M 9 (j)) (M 12 (i) = 0 ∧ M 12 (j) = 0 ∧ jN M (i) (M 0 1) = 0)))) = cM k bd M O (nI (x3 (zI (M 0 1) (nI i) ∧ zI (M 0 1) (nI j)) ((zI (M 0 1) (nI i) ∧ zI (M 0 1) (nI j)) ∧ i ≠ j ∧ M 9 (i) = M 9 (j)) (((zI (M 0 1) (nI i) ∧ zI (M 0 1) (nI j)) ∧ i ≠ j ∧ M 9 (i) = M 9 (j)) ∧ M 12 (i) = 0 ∧ M 12 (j) = 0 ∧ jN M (i) (M 0 1) = 0))) := by rw [if_neg hx0, ← x3_jn] <;> rfl
                  rw [← eW] at hP hD
                  refine W.widen (k := 0) (n := 0) (Nat.le_of_ble_eq_true rfl) (Nat.le_of_ble_eq_true rfl) ?_
                  exact W.iret (v := nI 0) hx hb hr (fun t ht hW => ⟨⟨nI 0, (), rfl, fun zz1 => absurd zz1 hx0, ⟨by rw [ht]; exact hP, va_K.moved hW.alike hK⟩, hD⟩, hS.F ht⟩) hS.2.2 dX3_join_100
              · refine lv_aload_n hx hb dX3_join_71 rfl (lv_at hl 2 rfl) ?_
                refine z_get (C := RX3) (T := TX3) (N := 21) (ci := 3) (fs := mObj bd M th) (v := .ref (bd 12)) F hK hP hi3 rfl (0) 12 (by omega) cM_0 (by decide) rfl (by decide +kernel) dX3_join_72 ?_
                refine lv_iload_n hx hb dX3_join_75 rfl (lv_at hl 4 rfl) ?_
                refine z_iald (v := nI (M 12 j)) (cA := k 0) (len := 40) (g := mA M O 12) F hK hP (12) 0 (by omega) rfl rfl (i := nI j) j rfl (by omega) (by decide) rfl dX3_join_76 ?_
                refine z_ifn_ne (tgt := 92) F (by omega) dX3_join_77 (by decide) (fun c77 => ?_) (fun c77 => ?_)
                · refine lv_iconst (v := nI 0) hx hb dX3_join_92 (by decide) ?_
                  refine z_top (show nI 0 = bI (((zI (M 0 1) (nI i) ∧ zI (M 0 1) (nI j)) ∧ i ≠ j ∧ M 9 (i) = M 9 (j)) ∧ M 12 (i) = 0 ∧ M 12 (j) = 0 ∧ jN M (i) (M 0 1) = 0) from (bI_f (fun zz1 => by have zz2 := zz1.2.2.1; first | exact c77 zz2 | omega)).symm) ?_
                  refine z_mV (qc := (RX3, TX3, 21)) (As := [.int (bI (zI (M 0 1) (nI i) ∧ zI (M 0 1) (nI j))), .int (bI ((zI (M 0 1) (nI i) ∧ zI (M 0 1) (nI j)) ∧ i ≠ j ∧ M 9 (i) = M 9 (j))), .int (bI (((zI (M 0 1) (nI i) ∧ zI (M 0 1) (nI j)) ∧ i ≠ j ∧ M 9 (i) = M 9 (j)) ∧ M 12 (i) = 0 ∧ M 12 (j) = 0 ∧ jN M (i) (M 0 1) = 0))]) (rest := []) (0) F (c_X3_asked__ l D k bd M O th _ (zI (M 0 1) (nI i) ∧ zI (M 0 1) (nI j)) ((zI (M 0 1) (nI i) ∧ zI (M 0 1) (nI j)) ∧ i ≠ j ∧ M 9 (i) = M 9 (j)) (((zI (M 0 1) (nI i) ∧ zI (M 0 1) (nI j)) ∧ i ≠ j ∧ M 9 (i) = M 9 (j)) ∧ M 12 (i) = 0 ∧ M 12 (j) = 0 ∧ jN M (i) (M 0 1) = 0)) (cwV 3 hts gX3_join_X3_asked__ rfl rfl rfl (by decide +kernel) ⟨Nat.le_of_ble_eq_true rfl, Nat.le_of_ble_eq_true rfl⟩) hK hP hD hS hA (by omega) cM_0 rfl rfl hl.1 rfl (Nat.le_of_ble_eq_true rfl) dX3_join_93 ⟨Nat.le_of_ble_eq_true rfl, Nat.le_of_ble_eq_true rfl⟩ (fun r H locs hr0 hP hD hS => ?_)
                  subst hr0
                  refine z_ifb_ne (tgt := 101) F dX3_join_96 (by decide) (fun c78 => ?_) (fun c78 => ?_)
                  · exact absurd c78.2.2 (fun zz1 => by have zz2 := zz1.2.2.1; first | exact c77 zz2 | omega)
                  · refine lv_iconst (v := nI 0) hx hb dX3_join_99 (by decide) ?_
                    have hx0 : (x3 (zI (M 0 1) (nI i) ∧ zI (M 0 1) (nI j)) (i ≠ j ∧ M 9 (i) = M 9 (j)) (M 12 (i) = 0 ∧ M 12 (j) = 0 ∧ jN M (i) (M 0 1) = 0)) ≠ 0 := x3_no (fun zz1 => c78 ⟨zz1.1, ⟨zz1.1, zz1.2.1⟩, ⟨zz1.1, zz1.2.1⟩, zz1.2.2⟩)
                    have eW : cM k bd (if (x3 (zI (M 0 1) (nI i) ∧ zI (M 0 1) (nI j)) (i ≠ j ∧ M 9 (i) = M 9 (j)) (M 12 (i) = 0 ∧ M 12 (j) = 0 ∧ jN M (i) (M 0 1) = 0)) = 0 then (zu (zu M 12 (i) 1) 13 (i) (j + 1)) else M) O (nI ((x3 (zI (M 0 1) (nI i) ∧ zI (M 0 1) (nI j)) (i ≠ j ∧ M 9 (i) = M 9 (j)) (M 12 (i) = 0 ∧ M 12 (j) = 0 ∧ jN M (i) (M 0 1) = 0)))) = cM k bd M O (nI (x3 (zI (M 0 1) (nI i) ∧ zI (M 0 1) (nI j)) ((zI (M 0 1) (nI i) ∧ zI (M 0 1) (nI j)) ∧ i ≠ j ∧ M 9 (i) = M 9 (j)) (((zI (M 0 1) (nI i) ∧ zI (M 0 1) (nI j)) ∧ i ≠ j ∧ M 9 (i) = M 9 (j)) ∧ M 12 (i) = 0 ∧ M 12 (j) = 0 ∧ jN M (i) (M 0 1) = 0))) := by rw [if_neg hx0, ← x3_jn] <;> rfl
                    rw [← eW] at hP hD
                    refine W.widen (k := 0) (n := 0) (Nat.le_of_ble_eq_true rfl) (Nat.le_of_ble_eq_true rfl) ?_
                    exact W.iret (v := nI 0) hx hb hr (fun t ht hW => ⟨⟨nI 0, (), rfl, fun zz1 => absurd zz1 hx0, ⟨by rw [ht]; exact hP, va_K.moved hW.alike hK⟩, hD⟩, hS.F ht⟩) hS.2.2 dX3_join_100
                · refine lv_aload_n hx hb dX3_join_80 rfl (lv_at hl 2 rfl) ?_
                  refine lv_iload_n hx hb dX3_join_81 rfl (lv_at hl 3 rfl) ?_
                  refine z_cV (qc := (RX3, TX3, 21)) (As := [.int (nI i)]) (rest := [.int (bI ((zI (M 0 1) (nI i) ∧ zI (M 0 1) (nI j)) ∧ i ≠ j ∧ M 9 (i) = M 9 (j))), .int (bI (zI (M 0 1) (nI i) ∧ zI (M 0 1) (nI j))), .ref (bd 0)]) (0) F (c_X3_joinedTo l D k bd M O th i hI5 hI2 (by omega)) (cwV 1 hts gX3_join_X3_joinedTo rfl rfl rfl (by decide +kernel) ⟨Nat.le_of_ble_eq_true rfl, Nat.le_of_ble_eq_true rfl⟩) hK hP (by omega) cM_0 rfl rfl hl.1 rfl (Nat.le_of_ble_eq_true rfl) dX3_join_82 ⟨Nat.le_of_ble_eq_true rfl, Nat.le_of_ble_eq_true rfl⟩ (fun r hr => ?_)
                  subst hr
                  have hjl := jN_le M i (M 0 1)
                  refine z_ifn_ne (tgt := 92) F (by omega) dX3_join_85 (by decide) (fun c79 => ?_) (fun c79 => ?_)
                  · refine lv_iconst (v := nI 0) hx hb dX3_join_92 (by decide) ?_
                    refine z_top (show nI 0 = bI (((zI (M 0 1) (nI i) ∧ zI (M 0 1) (nI j)) ∧ i ≠ j ∧ M 9 (i) = M 9 (j)) ∧ M 12 (i) = 0 ∧ M 12 (j) = 0 ∧ jN M (i) (M 0 1) = 0) from (bI_f (fun zz1 => by have zz2 := zz1.2.2.2; first | exact c79 zz2 | omega)).symm) ?_
                    refine z_mV (qc := (RX3, TX3, 21)) (As := [.int (bI (zI (M 0 1) (nI i) ∧ zI (M 0 1) (nI j))), .int (bI ((zI (M 0 1) (nI i) ∧ zI (M 0 1) (nI j)) ∧ i ≠ j ∧ M 9 (i) = M 9 (j))), .int (bI (((zI (M 0 1) (nI i) ∧ zI (M 0 1) (nI j)) ∧ i ≠ j ∧ M 9 (i) = M 9 (j)) ∧ M 12 (i) = 0 ∧ M 12 (j) = 0 ∧ jN M (i) (M 0 1) = 0))]) (rest := []) (0) F (c_X3_asked__ l D k bd M O th _ (zI (M 0 1) (nI i) ∧ zI (M 0 1) (nI j)) ((zI (M 0 1) (nI i) ∧ zI (M 0 1) (nI j)) ∧ i ≠ j ∧ M 9 (i) = M 9 (j)) (((zI (M 0 1) (nI i) ∧ zI (M 0 1) (nI j)) ∧ i ≠ j ∧ M 9 (i) = M 9 (j)) ∧ M 12 (i) = 0 ∧ M 12 (j) = 0 ∧ jN M (i) (M 0 1) = 0)) (cwV 3 hts gX3_join_X3_asked__ rfl rfl rfl (by decide +kernel) ⟨Nat.le_of_ble_eq_true rfl, Nat.le_of_ble_eq_true rfl⟩) hK hP hD hS hA (by omega) cM_0 rfl rfl hl.1 rfl (Nat.le_of_ble_eq_true rfl) dX3_join_93 ⟨Nat.le_of_ble_eq_true rfl, Nat.le_of_ble_eq_true rfl⟩ (fun r H locs hr0 hP hD hS => ?_)
                    subst hr0
                    refine z_ifb_ne (tgt := 101) F dX3_join_96 (by decide) (fun c80 => ?_) (fun c80 => ?_)
                    · exact absurd c80.2.2 (fun zz1 => by have zz2 := zz1.2.2.2; first | exact c79 zz2 | omega)
                    · refine lv_iconst (v := nI 0) hx hb dX3_join_99 (by decide) ?_
                      have hx0 : (x3 (zI (M 0 1) (nI i) ∧ zI (M 0 1) (nI j)) (i ≠ j ∧ M 9 (i) = M 9 (j)) (M 12 (i) = 0 ∧ M 12 (j) = 0 ∧ jN M (i) (M 0 1) = 0)) ≠ 0 := x3_no (fun zz1 => c80 ⟨zz1.1, ⟨zz1.1, zz1.2.1⟩, ⟨zz1.1, zz1.2.1⟩, zz1.2.2⟩)
                      have eW : cM k bd (if (x3 (zI (M 0 1) (nI i) ∧ zI (M 0 1) (nI j)) (i ≠ j ∧ M 9 (i) = M 9 (j)) (M 12 (i) = 0 ∧ M 12 (j) = 0 ∧ jN M (i) (M 0 1) = 0)) = 0 then (zu (zu M 12 (i) 1) 13 (i) (j + 1)) else M) O (nI ((x3 (zI (M 0 1) (nI i) ∧ zI (M 0 1) (nI j)) (i ≠ j ∧ M 9 (i) = M 9 (j)) (M 12 (i) = 0 ∧ M 12 (j) = 0 ∧ jN M (i) (M 0 1) = 0)))) = cM k bd M O (nI (x3 (zI (M 0 1) (nI i) ∧ zI (M 0 1) (nI j)) ((zI (M 0 1) (nI i) ∧ zI (M 0 1) (nI j)) ∧ i ≠ j ∧ M 9 (i) = M 9 (j)) (((zI (M 0 1) (nI i) ∧ zI (M 0 1) (nI j)) ∧ i ≠ j ∧ M 9 (i) = M 9 (j)) ∧ M 12 (i) = 0 ∧ M 12 (j) = 0 ∧ jN M (i) (M 0 1) = 0))) := by rw [if_neg hx0, ← x3_jn] <;> rfl
                      rw [← eW] at hP hD
                      refine W.widen (k := 0) (n := 0) (Nat.le_of_ble_eq_true rfl) (Nat.le_of_ble_eq_true rfl) ?_
                      exact W.iret (v := nI 0) hx hb hr (fun t ht hW => ⟨⟨nI 0, (), rfl, fun zz1 => absurd zz1 hx0, ⟨by rw [ht]; exact hP, va_K.moved hW.alike hK⟩, hD⟩, hS.F ht⟩) hS.2.2 dX3_join_100
                  · refine lv_iconst (v := nI 1) hx hb dX3_join_88 (by decide) ?_
                    refine lv_goto (tgt := 93) hx hb dX3_join_89 (by decide) ?_
                    refine z_top (show nI 1 = bI (((zI (M 0 1) (nI i) ∧ zI (M 0 1) (nI j)) ∧ i ≠ j ∧ M 9 (i) = M 9 (j)) ∧ M 12 (i) = 0 ∧ M 12 (j) = 0 ∧ jN M (i) (M 0 1) = 0) from (bI_t ⟨c73, c75, c77, c79⟩).symm) ?_
                    refine z_mV (qc := (RX3, TX3, 21)) (As := [.int (bI (zI (M 0 1) (nI i) ∧ zI (M 0 1) (nI j))), .int (bI ((zI (M 0 1) (nI i) ∧ zI (M 0 1) (nI j)) ∧ i ≠ j ∧ M 9 (i) = M 9 (j))), .int (bI (((zI (M 0 1) (nI i) ∧ zI (M 0 1) (nI j)) ∧ i ≠ j ∧ M 9 (i) = M 9 (j)) ∧ M 12 (i) = 0 ∧ M 12 (j) = 0 ∧ jN M (i) (M 0 1) = 0))]) (rest := []) (0) F (c_X3_asked__ l D k bd M O th _ (zI (M 0 1) (nI i) ∧ zI (M 0 1) (nI j)) ((zI (M 0 1) (nI i) ∧ zI (M 0 1) (nI j)) ∧ i ≠ j ∧ M 9 (i) = M 9 (j)) (((zI (M 0 1) (nI i) ∧ zI (M 0 1) (nI j)) ∧ i ≠ j ∧ M 9 (i) = M 9 (j)) ∧ M 12 (i) = 0 ∧ M 12 (j) = 0 ∧ jN M (i) (M 0 1) = 0)) (cwV 3 hts gX3_join_X3_asked__ rfl rfl rfl (by decide +kernel) ⟨Nat.le_of_ble_eq_true rfl, Nat.le_of_ble_eq_true rfl⟩) hK hP hD hS hA (by omega) cM_0 rfl rfl hl.1 rfl (Nat.le_of_ble_eq_true rfl) dX3_join_93 ⟨Nat.le_of_ble_eq_true rfl, Nat.le_of_ble_eq_true rfl⟩ (fun r H locs hr0 hP hD hS => ?_)
                    subst hr0
                    refine z_ifb_ne (tgt := 101) F dX3_join_96 (by decide) (fun c81 => ?_) (fun c81 => ?_)
                    · refine lv_aload_n hx hb dX3_join_101 rfl (lv_at hl 2 rfl) ?_
                      refine z_get (C := RX3) (T := TX3) (N := 21) (ci := 3) (fs := mObj bd M (nI (x3 (zI (M 0 1) (nI i) ∧ zI (M 0 1) (nI j)) ((zI (M 0 1) (nI i) ∧ zI (M 0 1) (nI j)) ∧ i ≠ j ∧ M 9 (i) = M 9 (j)) (((zI (M 0 1) (nI i) ∧ zI (M 0 1) (nI j)) ∧ i ≠ j ∧ M 9 (i) = M 9 (j)) ∧ M 12 (i) = 0 ∧ M 12 (j) = 0 ∧ jN M (i) (M 0 1) = 0)))) (v := .ref (bd 12)) F hK hP hi3 rfl (0) 12 (by omega) cM_0 (by decide) rfl (by decide +kernel) dX3_join_102 ?_
                      refine lv_iload_n hx hb dX3_join_105 rfl (lv_at hl 3 rfl) ?_
                      refine lv_iconst (v := nI 1) hx hb dX3_join_106 (by decide) ?_
                      refine z_iast (f' := (cM k bd (zu M 12 i 1) O (nI (x3 (zI (M 0 1) (nI i) ∧ zI (M 0 1) (nI j)) ((zI (M 0 1) (nI i) ∧ zI (M 0 1) (nI j)) ∧ i ≠ j ∧ M 9 (i) = M 9 (j)) (((zI (M 0 1) (nI i) ∧ zI (M 0 1) (nI j)) ∧ i ≠ j ∧ M 9 (i) = M 9 (j)) ∧ M 12 (i) = 0 ∧ M 12 (j) = 0 ∧ jN M (i) (M 0 1) = 0))))) (cA := k 0) (len := 40) (g := mA M O 12) F hK hP hD hS (12) 0 (by omega) rfl rfl (i := nI i) i rfl (by omega) (by decide) (cM_urow 12 (by decide) (by decide) (by decide) (by decide) (by decide) _ _) dX3_join_107 (fun H locs hP hD hS => ?_)
                      refine lv_aload_n hx hb dX3_join_108 rfl (lv_at hl 2 rfl) ?_
                      refine z_get (C := RX3) (T := TX3) (N := 21) (ci := 3) (fs := mObj bd (zu M 12 i 1) (nI (x3 (zI (M 0 1) (nI i) ∧ zI (M 0 1) (nI j)) ((zI (M 0 1) (nI i) ∧ zI (M 0 1) (nI j)) ∧ i ≠ j ∧ M 9 (i) = M 9 (j)) (((zI (M 0 1) (nI i) ∧ zI (M 0 1) (nI j)) ∧ i ≠ j ∧ M 9 (i) = M 9 (j)) ∧ M 12 (i) = 0 ∧ M 12 (j) = 0 ∧ jN M (i) (M 0 1) = 0)))) (v := .ref (bd 13)) F hK hP hi3 rfl (0) 13 (by omega) cM_0 (by decide) rfl (by decide +kernel) dX3_join_109 ?_
                      refine lv_iload_n hx hb dX3_join_112 rfl (lv_at hl 3 rfl) ?_
                      refine lv_iload_n hx hb dX3_join_113 rfl (lv_at hl 4 rfl) ?_
                      refine z_iast (f' := (cM k bd (zu (zu M 12 i 1) 13 i (j + 1)) O (nI (x3 (zI (M 0 1) (nI i) ∧ zI (M 0 1) (nI j)) ((zI (M 0 1) (nI i) ∧ zI (M 0 1) (nI j)) ∧ i ≠ j ∧ M 9 (i) = M 9 (j)) (((zI (M 0 1) (nI i) ∧ zI (M 0 1) (nI j)) ∧ i ≠ j ∧ M 9 (i) = M 9 (j)) ∧ M 12 (i) = 0 ∧ M 12 (j) = 0 ∧ jN M (i) (M 0 1) = 0))))) (cA := k 0) (len := 40) (g := mA (zu M 12 i 1) O 13) F hK hP hD hS (13) 0 (by omega) rfl rfl (i := nI i) i rfl (by omega) (by decide) (cM_uhead _ (j + 1)) dX3_join_114 (fun H locs hP hD hS => ?_)
                      have hcaJ : ∀ c, c < (zu (zu M 12 i 1) 13 i (j + 1)) 0 1 → zCa (zu (zu M 12 i 1) 13 i (j + 1)) c := by
                        intro zc zc1
                        obtain ⟨g1, g2, g3, g4, g5, g6, g7⟩ := hI5 zc zc1
                        refine ⟨g1, g2, g3, ?_, ?_, g6, g7⟩
                        · rw [zu_r _ _ _ _ (by decide)]
                          by_cases zc2 : zc = i
                          · rw [zc2, zu_s]; omega
                          · rw [zu_i _ _ _ _ zc2]; exact g4
                        · by_cases zc2 : zc = i
                          · rw [zc2, zu_s]; show j + 1 ≤ M 0 1; omega
                          · rw [zu_i _ _ _ _ zc2]; exact g5
                      refine lv_aload_n hx hb dX3_join_115 rfl (lv_at hl 2 rfl) ?_
                      refine lv_iload_n hx hb dX3_join_116 rfl (lv_at hl 4 rfl) ?_
                      refine z_cV (qc := (RX3, TX3, 21)) (As := [.int (nI j)]) (rest := []) (0) F (c_X3_joinedTo l D k bd (zu (zu M 12 i 1) 13 i (j + 1)) O (nI (x3 (zI (M 0 1) (nI i) ∧ zI (M 0 1) (nI j)) ((zI (M 0 1) (nI i) ∧ zI (M 0 1) (nI j)) ∧ i ≠ j ∧ M 9 (i) = M 9 (j)) (((zI (M 0 1) (nI i) ∧ zI (M 0 1) (nI j)) ∧ i ≠ j ∧ M 9 (i) = M 9 (j)) ∧ M 12 (i) = 0 ∧ M 12 (j) = 0 ∧ jN M (i) (M 0 1) = 0))) j hcaJ hI2 (by omega)) (cwV 1 hts gX3_join_X3_joinedTo rfl rfl rfl (by decide +kernel) ⟨Nat.le_of_ble_eq_true rfl, Nat.le_of_ble_eq_true rfl⟩) hK hP (by omega) cM_0 rfl rfl hl.1 rfl (Nat.le_of_ble_eq_true rfl) dX3_join_117 ⟨Nat.le_of_ble_eq_true rfl, Nat.le_of_ble_eq_true rfl⟩ (fun r hr => ?_)
                      subst hr
                      have hjl := jN_le (zu (zu M 12 i 1) 13 i (j + 1)) j (M 0 1)
                      have hx0 : (x3 (zI (M 0 1) (nI i) ∧ zI (M 0 1) (nI j)) (i ≠ j ∧ M 9 (i) = M 9 (j)) (M 12 (i) = 0 ∧ M 12 (j) = 0 ∧ jN M (i) (M 0 1) = 0)) = 0 := x3_0 c81.1 c81.2.1.2 c81.2.2.2
                      have eW : cM k bd (if (x3 (zI (M 0 1) (nI i) ∧ zI (M 0 1) (nI j)) (i ≠ j ∧ M 9 (i) = M 9 (j)) (M 12 (i) = 0 ∧ M 12 (j) = 0 ∧ jN M (i) (M 0 1) = 0)) = 0 then (zu (zu M 12 (i) 1) 13 (i) (j + 1)) else M) O (nI ((x3 (zI (M 0 1) (nI i) ∧ zI (M 0 1) (nI j)) (i ≠ j ∧ M 9 (i) = M 9 (j)) (M 12 (i) = 0 ∧ M 12 (j) = 0 ∧ jN M (i) (M 0 1) = 0)))) = cM k bd (zu (zu M 12 i 1) 13 i (j + 1)) O (nI (x3 (zI (M 0 1) (nI i) ∧ zI (M 0 1) (nI j)) ((zI (M 0 1) (nI i) ∧ zI (M 0 1) (nI j)) ∧ i ≠ j ∧ M 9 (i) = M 9 (j)) (((zI (M 0 1) (nI i) ∧ zI (M 0 1) (nI j)) ∧ i ≠ j ∧ M 9 (i) = M 9 (j)) ∧ M 12 (i) = 0 ∧ M 12 (j) = 0 ∧ jN M (i) (M 0 1) = 0))) := by rw [if_pos hx0, ← x3_jn] <;> rfl
                      rw [← eW] at hP hD
                      refine W.widen (k := 0) (n := 0) (Nat.le_of_ble_eq_true rfl) (Nat.le_of_ble_eq_true rfl) ?_
                      exact W.iret (v := nI (jN (zu (zu M 12 i 1) 13 i (j + 1)) j (M 0 1))) hx hb hr (fun t ht hW => ⟨⟨nI (jN (zu (zu M 12 i 1) 13 i (j + 1)) j (M 0 1)), (), rfl, fun _ => rfl, ⟨by rw [ht]; exact hP, va_K.moved hW.alike hK⟩, hD⟩, hS.F ht⟩) hS.2.2 dX3_join_120
                    · refine lv_iconst (v := nI 0) hx hb dX3_join_99 (by decide) ?_
                      have hx0 : (x3 (zI (M 0 1) (nI i) ∧ zI (M 0 1) (nI j)) (i ≠ j ∧ M 9 (i) = M 9 (j)) (M 12 (i) = 0 ∧ M 12 (j) = 0 ∧ jN M (i) (M 0 1) = 0)) ≠ 0 := x3_no (fun zz1 => c81 ⟨zz1.1, ⟨zz1.1, zz1.2.1⟩, ⟨zz1.1, zz1.2.1⟩, zz1.2.2⟩)
                      have eW : cM k bd (if (x3 (zI (M 0 1) (nI i) ∧ zI (M 0 1) (nI j)) (i ≠ j ∧ M 9 (i) = M 9 (j)) (M 12 (i) = 0 ∧ M 12 (j) = 0 ∧ jN M (i) (M 0 1) = 0)) = 0 then (zu (zu M 12 (i) 1) 13 (i) (j + 1)) else M) O (nI ((x3 (zI (M 0 1) (nI i) ∧ zI (M 0 1) (nI j)) (i ≠ j ∧ M 9 (i) = M 9 (j)) (M 12 (i) = 0 ∧ M 12 (j) = 0 ∧ jN M (i) (M 0 1) = 0)))) = cM k bd M O (nI (x3 (zI (M 0 1) (nI i) ∧ zI (M 0 1) (nI j)) ((zI (M 0 1) (nI i) ∧ zI (M 0 1) (nI j)) ∧ i ≠ j ∧ M 9 (i) = M 9 (j)) (((zI (M 0 1) (nI i) ∧ zI (M 0 1) (nI j)) ∧ i ≠ j ∧ M 9 (i) = M 9 (j)) ∧ M 12 (i) = 0 ∧ M 12 (j) = 0 ∧ jN M (i) (M 0 1) = 0))) := by rw [if_neg hx0, ← x3_jn] <;> rfl
                      rw [← eW] at hP hD
                      refine W.widen (k := 0) (n := 0) (Nat.le_of_ble_eq_true rfl) (Nat.le_of_ble_eq_true rfl) ?_
                      exact W.iret (v := nI 0) hx hb hr (fun t ht hW => ⟨⟨nI 0, (), rfl, fun zz1 => absurd zz1 hx0, ⟨by rw [ht]; exact hP, va_K.moved hW.alike hK⟩, hD⟩, hS.F ht⟩) hS.2.2 dX3_join_100
    · refine lv_iconst (v := nI 1) hx hb dX3_join_16 (by decide) ?_
      refine lv_goto (tgt := 21) hx hb dX3_join_17 (by decide) ?_
      refine z_top (show nI 1 = bI (zI (M 0 1) p0 ∧ zI (M 0 1) p1) from (bI_t ⟨c44, c63⟩).symm) ?_
      refine lv_istore_n (lv' := [(3, .int (bI (zI (M 0 1) p0 ∧ zI (M 0 1) p1))), (0, .ref (bd 0)), (1, .int p0), (2, .int p1)]) hx hb dX3_join_21 rfl hl (by decide) rfl (fun ls hl => ?_)
      refine lv_iload_n hx hb dX3_join_22 rfl (lv_at hl 0 rfl) ?_
      refine z_ifb_eq (tgt := 50) F dX3_join_23 (by decide) (fun c82 => ?_) (fun c82 => ?_)
      · refine lv_iconst (v := nI 0) hx hb dX3_join_50 (by decide) ?_
        refine z_top (show nI 0 = bI ((zI (M 0 1) p0 ∧ zI (M 0 1) p1) ∧ ix p0 ≠ ix p1 ∧ M 9 (ix p0) = M 9 (ix p1)) from (bI_f (fun zz1 => by have zz2 := zz1.1; first | exact c82 zz2 | omega)).symm) ?_
        refine lv_istore (lv' := [(4, .int (bI ((zI (M 0 1) p0 ∧ zI (M 0 1) p1) ∧ ix p0 ≠ ix p1 ∧ M 9 (ix p0) = M 9 (ix p1)))), (3, .int (bI (zI (M 0 1) p0 ∧ zI (M 0 1) p1))), (0, .ref (bd 0)), (1, .int p0), (2, .int p1)]) hx hb dX3_join_51 hl (by decide) rfl (fun ls hl => ?_)
        refine lv_aload_n hx hb dX3_join_53 rfl (lv_at hl 2 rfl) ?_
        refine lv_iload_n hx hb dX3_join_54 rfl (lv_at hl 1 rfl) ?_
        refine lv_iload hx hb dX3_join_55 (lv_at hl 0 rfl) ?_
        refine lv_iload hx hb dX3_join_57 (lv_at hl 0 rfl) ?_
        refine z_ifb_eq (tgt := 92) F dX3_join_59 (by decide) (fun c83 => ?_) (fun c83 => ?_)
        · refine lv_iconst (v := nI 0) hx hb dX3_join_92 (by decide) ?_
          refine z_top (show nI 0 = bI (((zI (M 0 1) p0 ∧ zI (M 0 1) p1) ∧ ix p0 ≠ ix p1 ∧ M 9 (ix p0) = M 9 (ix p1)) ∧ M 12 (ix p0) = 0 ∧ M 12 (ix p1) = 0 ∧ jN M (ix p0) (M 0 1) = 0) from (bI_f (fun zz1 => by have zz2 := zz1.1; first | exact c83 zz2 | omega)).symm) ?_
          refine z_mV (qc := (RX3, TX3, 21)) (As := [.int (bI (zI (M 0 1) p0 ∧ zI (M 0 1) p1)), .int (bI ((zI (M 0 1) p0 ∧ zI (M 0 1) p1) ∧ ix p0 ≠ ix p1 ∧ M 9 (ix p0) = M 9 (ix p1))), .int (bI (((zI (M 0 1) p0 ∧ zI (M 0 1) p1) ∧ ix p0 ≠ ix p1 ∧ M 9 (ix p0) = M 9 (ix p1)) ∧ M 12 (ix p0) = 0 ∧ M 12 (ix p1) = 0 ∧ jN M (ix p0) (M 0 1) = 0))]) (rest := []) (0) F (c_X3_asked__ l D k bd M O th _ (zI (M 0 1) p0 ∧ zI (M 0 1) p1) ((zI (M 0 1) p0 ∧ zI (M 0 1) p1) ∧ ix p0 ≠ ix p1 ∧ M 9 (ix p0) = M 9 (ix p1)) (((zI (M 0 1) p0 ∧ zI (M 0 1) p1) ∧ ix p0 ≠ ix p1 ∧ M 9 (ix p0) = M 9 (ix p1)) ∧ M 12 (ix p0) = 0 ∧ M 12 (ix p1) = 0 ∧ jN M (ix p0) (M 0 1) = 0)) (cwV 3 hts gX3_join_X3_asked__ rfl rfl rfl (by decide +kernel) ⟨Nat.le_of_ble_eq_true rfl, Nat.le_of_ble_eq_true rfl⟩) hK hP hD hS hA (by omega) cM_0 rfl rfl hl.1 rfl (Nat.le_of_ble_eq_true rfl) dX3_join_93 ⟨Nat.le_of_ble_eq_true rfl, Nat.le_of_ble_eq_true rfl⟩ (fun r H locs hr0 hP hD hS => ?_)
          subst hr0
          refine z_ifb_ne (tgt := 101) F dX3_join_96 (by decide) (fun c84 => ?_) (fun c84 => ?_)
          · exact absurd c84.2.2 (fun zz1 => by have zz2 := zz1.1; first | exact c83 zz2 | omega)
          · refine lv_iconst (v := nI 0) hx hb dX3_join_99 (by decide) ?_
            have hx0 : (x3 (zI (M 0 1) p0 ∧ zI (M 0 1) p1) (ix p0 ≠ ix p1 ∧ M 9 (ix p0) = M 9 (ix p1)) (M 12 (ix p0) = 0 ∧ M 12 (ix p1) = 0 ∧ jN M (ix p0) (M 0 1) = 0)) ≠ 0 := x3_no (fun zz1 => c84 ⟨zz1.1, ⟨zz1.1, zz1.2.1⟩, ⟨zz1.1, zz1.2.1⟩, zz1.2.2⟩)
            have eW : cM k bd (if (x3 (zI (M 0 1) p0 ∧ zI (M 0 1) p1) (ix p0 ≠ ix p1 ∧ M 9 (ix p0) = M 9 (ix p1)) (M 12 (ix p0) = 0 ∧ M 12 (ix p1) = 0 ∧ jN M (ix p0) (M 0 1) = 0)) = 0 then (zu (zu M 12 (ix p0) 1) 13 (ix p0) (ix p1 + 1)) else M) O (nI ((x3 (zI (M 0 1) p0 ∧ zI (M 0 1) p1) (ix p0 ≠ ix p1 ∧ M 9 (ix p0) = M 9 (ix p1)) (M 12 (ix p0) = 0 ∧ M 12 (ix p1) = 0 ∧ jN M (ix p0) (M 0 1) = 0)))) = cM k bd M O (nI (x3 (zI (M 0 1) p0 ∧ zI (M 0 1) p1) ((zI (M 0 1) p0 ∧ zI (M 0 1) p1) ∧ ix p0 ≠ ix p1 ∧ M 9 (ix p0) = M 9 (ix p1)) (((zI (M 0 1) p0 ∧ zI (M 0 1) p1) ∧ ix p0 ≠ ix p1 ∧ M 9 (ix p0) = M 9 (ix p1)) ∧ M 12 (ix p0) = 0 ∧ M 12 (ix p1) = 0 ∧ jN M (ix p0) (M 0 1) = 0))) := by rw [if_neg hx0, ← x3_jn] <;> rfl
            rw [← eW] at hP hD
            refine W.widen (k := 0) (n := 0) (Nat.le_of_ble_eq_true rfl) (Nat.le_of_ble_eq_true rfl) ?_
            exact W.iret (v := nI 0) hx hb hr (fun t ht hW => ⟨⟨nI 0, (), rfl, fun zz1 => absurd zz1 hx0, ⟨by rw [ht]; exact hP, va_K.moved hW.alike hK⟩, hD⟩, hS.F ht⟩) hS.2.2 dX3_join_100
        · exact absurd c83 (fun zz1 => by have zz2 := zz1.1; first | exact c82 zz2 | omega)
      · obtain ⟨i, hi, rfl⟩ := id (c82.1)
        try rw [ix_nI (show i < 2 ^ 31 by omega)]
        obtain ⟨j, hj, rfl⟩ := id (c82.2)
        try rw [ix_nI (show j < 2 ^ 31 by omega)]
        have hzi := hI5 i hi
        have hzj := hI5 j hj
        obtain ⟨hc1, hc2, hc3, hc4, hc5, hc6, hc7⟩ := id hzi
        obtain ⟨gc1, gc2, gc3, gc4, gc5, gc6, gc7⟩ := id hzj
        refine lv_iload_n hx hb dX3_join_26 rfl (lv_at hl 2 rfl) ?_
        refine lv_iload_n hx hb dX3_join_27 rfl (lv_at hl 3 rfl) ?_
        refine z_icmp_eq (tgt := 50) F (by omega) (by omega) dX3_join_28 (by decide) (fun c85 => ?_) (fun c85 => ?_)
        · refine lv_iconst (v := nI 0) hx hb dX3_join_50 (by decide) ?_
          refine z_top (show nI 0 = bI ((zI (M 0 1) (nI i) ∧ zI (M 0 1) (nI j)) ∧ i ≠ j ∧ M 9 (i) = M 9 (j)) from (bI_f (fun zz1 => by have zz2 := zz1.2.1; first | exact c85 zz2 | omega)).symm) ?_
          refine lv_istore (lv' := [(4, .int (bI ((zI (M 0 1) (nI i) ∧ zI (M 0 1) (nI j)) ∧ i ≠ j ∧ M 9 (i) = M 9 (j)))), (3, .int (bI (zI (M 0 1) (nI i) ∧ zI (M 0 1) (nI j)))), (0, .ref (bd 0)), (1, .int (nI i)), (2, .int (nI j))]) hx hb dX3_join_51 hl (by decide) rfl (fun ls hl => ?_)
          refine lv_aload_n hx hb dX3_join_53 rfl (lv_at hl 2 rfl) ?_
          refine lv_iload_n hx hb dX3_join_54 rfl (lv_at hl 1 rfl) ?_
          refine lv_iload hx hb dX3_join_55 (lv_at hl 0 rfl) ?_
          refine lv_iload hx hb dX3_join_57 (lv_at hl 0 rfl) ?_
          refine z_ifb_eq (tgt := 92) F dX3_join_59 (by decide) (fun c86 => ?_) (fun c86 => ?_)
          · refine lv_iconst (v := nI 0) hx hb dX3_join_92 (by decide) ?_
            refine z_top (show nI 0 = bI (((zI (M 0 1) (nI i) ∧ zI (M 0 1) (nI j)) ∧ i ≠ j ∧ M 9 (i) = M 9 (j)) ∧ M 12 (i) = 0 ∧ M 12 (j) = 0 ∧ jN M (i) (M 0 1) = 0) from (bI_f (fun zz1 => by have zz2 := zz1.1; first | exact c86 zz2 | omega)).symm) ?_
            refine z_mV (qc := (RX3, TX3, 21)) (As := [.int (bI (zI (M 0 1) (nI i) ∧ zI (M 0 1) (nI j))), .int (bI ((zI (M 0 1) (nI i) ∧ zI (M 0 1) (nI j)) ∧ i ≠ j ∧ M 9 (i) = M 9 (j))), .int (bI (((zI (M 0 1) (nI i) ∧ zI (M 0 1) (nI j)) ∧ i ≠ j ∧ M 9 (i) = M 9 (j)) ∧ M 12 (i) = 0 ∧ M 12 (j) = 0 ∧ jN M (i) (M 0 1) = 0))]) (rest := []) (0) F (c_X3_asked__ l D k bd M O th _ (zI (M 0 1) (nI i) ∧ zI (M 0 1) (nI j)) ((zI (M 0 1) (nI i) ∧ zI (M 0 1) (nI j)) ∧ i ≠ j ∧ M 9 (i) = M 9 (j)) (((zI (M 0 1) (nI i) ∧ zI (M 0 1) (nI j)) ∧ i ≠ j ∧ M 9 (i) = M 9 (j)) ∧ M 12 (i) = 0 ∧ M 12 (j) = 0 ∧ jN M (i) (M 0 1) = 0)) (cwV 3 hts gX3_join_X3_asked__ rfl rfl rfl (by decide +kernel) ⟨Nat.le_of_ble_eq_true rfl, Nat.le_of_ble_eq_true rfl⟩) hK hP hD hS hA (by omega) cM_0 rfl rfl hl.1 rfl (Nat.le_of_ble_eq_true rfl) dX3_join_93 ⟨Nat.le_of_ble_eq_true rfl, Nat.le_of_ble_eq_true rfl⟩ (fun r H locs hr0 hP hD hS => ?_)
            subst hr0
            refine z_ifb_ne (tgt := 101) F dX3_join_96 (by decide) (fun c87 => ?_) (fun c87 => ?_)
            · exact absurd c87.2.2 (fun zz1 => by have zz2 := zz1.1; first | exact c86 zz2 | omega)
            · refine lv_iconst (v := nI 0) hx hb dX3_join_99 (by decide) ?_
              have hx0 : (x3 (zI (M 0 1) (nI i) ∧ zI (M 0 1) (nI j)) (i ≠ j ∧ M 9 (i) = M 9 (j)) (M 12 (i) = 0 ∧ M 12 (j) = 0 ∧ jN M (i) (M 0 1) = 0)) ≠ 0 := x3_no (fun zz1 => c87 ⟨zz1.1, ⟨zz1.1, zz1.2.1⟩, ⟨zz1.1, zz1.2.1⟩, zz1.2.2⟩)
              have eW : cM k bd (if (x3 (zI (M 0 1) (nI i) ∧ zI (M 0 1) (nI j)) (i ≠ j ∧ M 9 (i) = M 9 (j)) (M 12 (i) = 0 ∧ M 12 (j) = 0 ∧ jN M (i) (M 0 1) = 0)) = 0 then (zu (zu M 12 (i) 1) 13 (i) (j + 1)) else M) O (nI ((x3 (zI (M 0 1) (nI i) ∧ zI (M 0 1) (nI j)) (i ≠ j ∧ M 9 (i) = M 9 (j)) (M 12 (i) = 0 ∧ M 12 (j) = 0 ∧ jN M (i) (M 0 1) = 0)))) = cM k bd M O (nI (x3 (zI (M 0 1) (nI i) ∧ zI (M 0 1) (nI j)) ((zI (M 0 1) (nI i) ∧ zI (M 0 1) (nI j)) ∧ i ≠ j ∧ M 9 (i) = M 9 (j)) (((zI (M 0 1) (nI i) ∧ zI (M 0 1) (nI j)) ∧ i ≠ j ∧ M 9 (i) = M 9 (j)) ∧ M 12 (i) = 0 ∧ M 12 (j) = 0 ∧ jN M (i) (M 0 1) = 0))) := by rw [if_neg hx0, ← x3_jn] <;> rfl
              rw [← eW] at hP hD
              refine W.widen (k := 0) (n := 0) (Nat.le_of_ble_eq_true rfl) (Nat.le_of_ble_eq_true rfl) ?_
              exact W.iret (v := nI 0) hx hb hr (fun t ht hW => ⟨⟨nI 0, (), rfl, fun zz1 => absurd zz1 hx0, ⟨by rw [ht]; exact hP, va_K.moved hW.alike hK⟩, hD⟩, hS.F ht⟩) hS.2.2 dX3_join_100
          · exact absurd c86 (fun zz1 => by have zz2 := zz1.2.1; first | exact c85 zz2 | omega)
        · refine lv_aload_n hx hb dX3_join_31 rfl (lv_at hl 1 rfl) ?_
          refine z_get (C := RX3) (T := TX3) (N := 21) (ci := 3) (fs := mObj bd M th) (v := .ref (bd 9)) F hK hP hi3 rfl (0) 9 (by omega) cM_0 (by decide) rfl (by decide +kernel) dX3_join_32 ?_
          refine lv_iload_n hx hb dX3_join_35 rfl (lv_at hl 2 rfl) ?_
          refine z_iald (v := nI (M 9 i)) (cA := k 0) (len := 40) (g := mA M O 9) F hK hP (9) 0 (by omega) rfl rfl (i := nI i) i rfl (by omega) (by decide) rfl dX3_join_36 ?_
          refine lv_aload_n hx hb dX3_join_37 rfl (lv_at hl 1 rfl) ?_
          refine z_get (C := RX3) (T := TX3) (N := 21) (ci := 3) (fs := mObj bd M th) (v := .ref (bd 9)) F hK hP hi3 rfl (0) 9 (by omega) cM_0 (by decide) rfl (by decide +kernel) dX3_join_38 ?_
          refine lv_iload_n hx hb dX3_join_41 rfl (lv_at hl 3 rfl) ?_
          refine z_iald (v := nI (M 9 j)) (cA := k 0) (len := 40) (g := mA M O 9) F hK hP (9) 0 (by omega) rfl rfl (i := nI j) j rfl (by omega) (by decide) rfl dX3_join_42 ?_
          refine z_icmp_ne (tgt := 50) F (by omega) (by omega) dX3_join_43 (by decide) (fun c88 => ?_) (fun c88 => ?_)
          · refine lv_iconst (v := nI 0) hx hb dX3_join_50 (by decide) ?_
            refine z_top (show nI 0 = bI ((zI (M 0 1) (nI i) ∧ zI (M 0 1) (nI j)) ∧ i ≠ j ∧ M 9 (i) = M 9 (j)) from (bI_f (fun zz1 => by have zz2 := zz1.2.2; first | exact c88 zz2 | omega)).symm) ?_
            refine lv_istore (lv' := [(4, .int (bI ((zI (M 0 1) (nI i) ∧ zI (M 0 1) (nI j)) ∧ i ≠ j ∧ M 9 (i) = M 9 (j)))), (3, .int (bI (zI (M 0 1) (nI i) ∧ zI (M 0 1) (nI j)))), (0, .ref (bd 0)), (1, .int (nI i)), (2, .int (nI j))]) hx hb dX3_join_51 hl (by decide) rfl (fun ls hl => ?_)
            refine lv_aload_n hx hb dX3_join_53 rfl (lv_at hl 2 rfl) ?_
            refine lv_iload_n hx hb dX3_join_54 rfl (lv_at hl 1 rfl) ?_
            refine lv_iload hx hb dX3_join_55 (lv_at hl 0 rfl) ?_
            refine lv_iload hx hb dX3_join_57 (lv_at hl 0 rfl) ?_
            refine z_ifb_eq (tgt := 92) F dX3_join_59 (by decide) (fun c89 => ?_) (fun c89 => ?_)
            · refine lv_iconst (v := nI 0) hx hb dX3_join_92 (by decide) ?_
              refine z_top (show nI 0 = bI (((zI (M 0 1) (nI i) ∧ zI (M 0 1) (nI j)) ∧ i ≠ j ∧ M 9 (i) = M 9 (j)) ∧ M 12 (i) = 0 ∧ M 12 (j) = 0 ∧ jN M (i) (M 0 1) = 0) from (bI_f (fun zz1 => by have zz2 := zz1.1; first | exact c89 zz2 | omega)).symm) ?_
              refine z_mV (qc := (RX3, TX3, 21)) (As := [.int (bI (zI (M 0 1) (nI i) ∧ zI (M 0 1) (nI j))), .int (bI ((zI (M 0 1) (nI i) ∧ zI (M 0 1) (nI j)) ∧ i ≠ j ∧ M 9 (i) = M 9 (j))), .int (bI (((zI (M 0 1) (nI i) ∧ zI (M 0 1) (nI j)) ∧ i ≠ j ∧ M 9 (i) = M 9 (j)) ∧ M 12 (i) = 0 ∧ M 12 (j) = 0 ∧ jN M (i) (M 0 1) = 0))]) (rest := []) (0) F (c_X3_asked__ l D k bd M O th _ (zI (M 0 1) (nI i) ∧ zI (M 0 1) (nI j)) ((zI (M 0 1) (nI i) ∧ zI (M 0 1) (nI j)) ∧ i ≠ j ∧ M 9 (i) = M 9 (j)) (((zI (M 0 1) (nI i) ∧ zI (M 0 1) (nI j)) ∧ i ≠ j ∧ M 9 (i) = M 9 (j)) ∧ M 12 (i) = 0 ∧ M 12 (j) = 0 ∧ jN M (i) (M 0 1) = 0)) (cwV 3 hts gX3_join_X3_asked__ rfl rfl rfl (by decide +kernel) ⟨Nat.le_of_ble_eq_true rfl, Nat.le_of_ble_eq_true rfl⟩) hK hP hD hS hA (by omega) cM_0 rfl rfl hl.1 rfl (Nat.le_of_ble_eq_true rfl) dX3_join_93 ⟨Nat.le_of_ble_eq_true rfl, Nat.le_of_ble_eq_true rfl⟩ (fun r H locs hr0 hP hD hS => ?_)
              subst hr0
              refine z_ifb_ne (tgt := 101) F dX3_join_96 (by decide) (fun c90 => ?_) (fun c90 => ?_)
              · exact absurd c90.2.2 (fun zz1 => by have zz2 := zz1.1; first | exact c89 zz2 | omega)
              · refine lv_iconst (v := nI 0) hx hb dX3_join_99 (by decide) ?_
                have hx0 : (x3 (zI (M 0 1) (nI i) ∧ zI (M 0 1) (nI j)) (i ≠ j ∧ M 9 (i) = M 9 (j)) (M 12 (i) = 0 ∧ M 12 (j) = 0 ∧ jN M (i) (M 0 1) = 0)) ≠ 0 := x3_no (fun zz1 => c90 ⟨zz1.1, ⟨zz1.1, zz1.2.1⟩, ⟨zz1.1, zz1.2.1⟩, zz1.2.2⟩)
                have eW : cM k bd (if (x3 (zI (M 0 1) (nI i) ∧ zI (M 0 1) (nI j)) (i ≠ j ∧ M 9 (i) = M 9 (j)) (M 12 (i) = 0 ∧ M 12 (j) = 0 ∧ jN M (i) (M 0 1) = 0)) = 0 then (zu (zu M 12 (i) 1) 13 (i) (j + 1)) else M) O (nI ((x3 (zI (M 0 1) (nI i) ∧ zI (M 0 1) (nI j)) (i ≠ j ∧ M 9 (i) = M 9 (j)) (M 12 (i) = 0 ∧ M 12 (j) = 0 ∧ jN M (i) (M 0 1) = 0)))) = cM k bd M O (nI (x3 (zI (M 0 1) (nI i) ∧ zI (M 0 1) (nI j)) ((zI (M 0 1) (nI i) ∧ zI (M 0 1) (nI j)) ∧ i ≠ j ∧ M 9 (i) = M 9 (j)) (((zI (M 0 1) (nI i) ∧ zI (M 0 1) (nI j)) ∧ i ≠ j ∧ M 9 (i) = M 9 (j)) ∧ M 12 (i) = 0 ∧ M 12 (j) = 0 ∧ jN M (i) (M 0 1) = 0))) := by rw [if_neg hx0, ← x3_jn] <;> rfl
                rw [← eW] at hP hD
                refine W.widen (k := 0) (n := 0) (Nat.le_of_ble_eq_true rfl) (Nat.le_of_ble_eq_true rfl) ?_
                exact W.iret (v := nI 0) hx hb hr (fun t ht hW => ⟨⟨nI 0, (), rfl, fun zz1 => absurd zz1 hx0, ⟨by rw [ht]; exact hP, va_K.moved hW.alike hK⟩, hD⟩, hS.F ht⟩) hS.2.2 dX3_join_100
            · exact absurd c89 (fun zz1 => by have zz2 := zz1.2.2; first | exact c88 zz2 | omega)
          · refine lv_iconst (v := nI 1) hx hb dX3_join_46 (by decide) ?_
            refine lv_goto (tgt := 51) hx hb dX3_join_47 (by decide) ?_
            refine z_top (show nI 1 = bI ((zI (M 0 1) (nI i) ∧ zI (M 0 1) (nI j)) ∧ i ≠ j ∧ M 9 (i) = M 9 (j)) from (bI_t ⟨c82, c85, c88⟩).symm) ?_
            refine lv_istore (lv' := [(4, .int (bI ((zI (M 0 1) (nI i) ∧ zI (M 0 1) (nI j)) ∧ i ≠ j ∧ M 9 (i) = M 9 (j)))), (3, .int (bI (zI (M 0 1) (nI i) ∧ zI (M 0 1) (nI j)))), (0, .ref (bd 0)), (1, .int (nI i)), (2, .int (nI j))]) hx hb dX3_join_51 hl (by decide) rfl (fun ls hl => ?_)
            refine lv_aload_n hx hb dX3_join_53 rfl (lv_at hl 2 rfl) ?_
            refine lv_iload_n hx hb dX3_join_54 rfl (lv_at hl 1 rfl) ?_
            refine lv_iload hx hb dX3_join_55 (lv_at hl 0 rfl) ?_
            refine lv_iload hx hb dX3_join_57 (lv_at hl 0 rfl) ?_
            refine z_ifb_eq (tgt := 92) F dX3_join_59 (by decide) (fun c91 => ?_) (fun c91 => ?_)
            · refine lv_iconst (v := nI 0) hx hb dX3_join_92 (by decide) ?_
              refine z_top (show nI 0 = bI (((zI (M 0 1) (nI i) ∧ zI (M 0 1) (nI j)) ∧ i ≠ j ∧ M 9 (i) = M 9 (j)) ∧ M 12 (i) = 0 ∧ M 12 (j) = 0 ∧ jN M (i) (M 0 1) = 0) from (bI_f (fun zz1 => by have zz2 := zz1.1; first | exact c91 zz2 | omega)).symm) ?_
              refine z_mV (qc := (RX3, TX3, 21)) (As := [.int (bI (zI (M 0 1) (nI i) ∧ zI (M 0 1) (nI j))), .int (bI ((zI (M 0 1) (nI i) ∧ zI (M 0 1) (nI j)) ∧ i ≠ j ∧ M 9 (i) = M 9 (j))), .int (bI (((zI (M 0 1) (nI i) ∧ zI (M 0 1) (nI j)) ∧ i ≠ j ∧ M 9 (i) = M 9 (j)) ∧ M 12 (i) = 0 ∧ M 12 (j) = 0 ∧ jN M (i) (M 0 1) = 0))]) (rest := []) (0) F (c_X3_asked__ l D k bd M O th _ (zI (M 0 1) (nI i) ∧ zI (M 0 1) (nI j)) ((zI (M 0 1) (nI i) ∧ zI (M 0 1) (nI j)) ∧ i ≠ j ∧ M 9 (i) = M 9 (j)) (((zI (M 0 1) (nI i) ∧ zI (M 0 1) (nI j)) ∧ i ≠ j ∧ M 9 (i) = M 9 (j)) ∧ M 12 (i) = 0 ∧ M 12 (j) = 0 ∧ jN M (i) (M 0 1) = 0)) (cwV 3 hts gX3_join_X3_asked__ rfl rfl rfl (by decide +kernel) ⟨Nat.le_of_ble_eq_true rfl, Nat.le_of_ble_eq_true rfl⟩) hK hP hD hS hA (by omega) cM_0 rfl rfl hl.1 rfl (Nat.le_of_ble_eq_true rfl) dX3_join_93 ⟨Nat.le_of_ble_eq_true rfl, Nat.le_of_ble_eq_true rfl⟩ (fun r H locs hr0 hP hD hS => ?_)
              subst hr0
              refine z_ifb_ne (tgt := 101) F dX3_join_96 (by decide) (fun c92 => ?_) (fun c92 => ?_)
              · exact absurd c92.2.2 (fun zz1 => by have zz2 := zz1.1; first | exact c91 zz2 | omega)
              · refine lv_iconst (v := nI 0) hx hb dX3_join_99 (by decide) ?_
                have hx0 : (x3 (zI (M 0 1) (nI i) ∧ zI (M 0 1) (nI j)) (i ≠ j ∧ M 9 (i) = M 9 (j)) (M 12 (i) = 0 ∧ M 12 (j) = 0 ∧ jN M (i) (M 0 1) = 0)) ≠ 0 := x3_no (fun zz1 => c92 ⟨zz1.1, ⟨zz1.1, zz1.2.1⟩, ⟨zz1.1, zz1.2.1⟩, zz1.2.2⟩)
                have eW : cM k bd (if (x3 (zI (M 0 1) (nI i) ∧ zI (M 0 1) (nI j)) (i ≠ j ∧ M 9 (i) = M 9 (j)) (M 12 (i) = 0 ∧ M 12 (j) = 0 ∧ jN M (i) (M 0 1) = 0)) = 0 then (zu (zu M 12 (i) 1) 13 (i) (j + 1)) else M) O (nI ((x3 (zI (M 0 1) (nI i) ∧ zI (M 0 1) (nI j)) (i ≠ j ∧ M 9 (i) = M 9 (j)) (M 12 (i) = 0 ∧ M 12 (j) = 0 ∧ jN M (i) (M 0 1) = 0)))) = cM k bd M O (nI (x3 (zI (M 0 1) (nI i) ∧ zI (M 0 1) (nI j)) ((zI (M 0 1) (nI i) ∧ zI (M 0 1) (nI j)) ∧ i ≠ j ∧ M 9 (i) = M 9 (j)) (((zI (M 0 1) (nI i) ∧ zI (M 0 1) (nI j)) ∧ i ≠ j ∧ M 9 (i) = M 9 (j)) ∧ M 12 (i) = 0 ∧ M 12 (j) = 0 ∧ jN M (i) (M 0 1) = 0))) := by rw [if_neg hx0, ← x3_jn] <;> rfl
                rw [← eW] at hP hD
                refine W.widen (k := 0) (n := 0) (Nat.le_of_ble_eq_true rfl) (Nat.le_of_ble_eq_true rfl) ?_
                exact W.iret (v := nI 0) hx hb hr (fun t ht hW => ⟨⟨nI 0, (), rfl, fun zz1 => absurd zz1 hx0, ⟨by rw [ht]; exact hP, va_K.moved hW.alike hK⟩, hD⟩, hS.F ht⟩) hS.2.2 dX3_join_100
            · refine lv_aload_n hx hb dX3_join_62 rfl (lv_at hl 2 rfl) ?_
              refine z_get (C := RX3) (T := TX3) (N := 21) (ci := 3) (fs := mObj bd M th) (v := .ref (bd 12)) F hK hP hi3 rfl (0) 12 (by omega) cM_0 (by decide) rfl (by decide +kernel) dX3_join_63 ?_
              refine lv_iload_n hx hb dX3_join_66 rfl (lv_at hl 3 rfl) ?_
              refine z_iald (v := nI (M 12 i)) (cA := k 0) (len := 40) (g := mA M O 12) F hK hP (12) 0 (by omega) rfl rfl (i := nI i) i rfl (by omega) (by decide) rfl dX3_join_67 ?_
              refine z_ifn_ne (tgt := 92) F (by omega) dX3_join_68 (by decide) (fun c93 => ?_) (fun c93 => ?_)
              · refine lv_iconst (v := nI 0) hx hb dX3_join_92 (by decide) ?_
                refine z_top (show nI 0 = bI (((zI (M 0 1) (nI i) ∧ zI (M 0 1) (nI j)) ∧ i ≠ j ∧ M 9 (i) = M 9 (j)) ∧ M 12 (i) = 0 ∧ M 12 (j) = 0 ∧ jN M (i) (M 0 1) = 0) from (bI_f (fun zz1 => by have zz2 := zz1.2.1; first | exact c93 zz2 | omega)).symm) ?_
                refine z_mV (qc := (RX3, TX3, 21)) (As := [.int (bI (zI (M 0 1) (nI i) ∧ zI (M 0 1) (nI j))), .int (bI ((zI (M 0 1) (nI i) ∧ zI (M 0 1) (nI j)) ∧ i ≠ j ∧ M 9 (i) = M 9 (j))), .int (bI (((zI (M 0 1) (nI i) ∧ zI (M 0 1) (nI j)) ∧ i ≠ j ∧ M 9 (i) = M 9 (j)) ∧ M 12 (i) = 0 ∧ M 12 (j) = 0 ∧ jN M (i) (M 0 1) = 0))]) (rest := []) (0) F (c_X3_asked__ l D k bd M O th _ (zI (M 0 1) (nI i) ∧ zI (M 0 1) (nI j)) ((zI (M 0 1) (nI i) ∧ zI (M 0 1) (nI j)) ∧ i ≠ j ∧ M 9 (i) = M 9 (j)) (((zI (M 0 1) (nI i) ∧ zI (M 0 1) (nI j)) ∧ i ≠ j ∧ M 9 (i) = M 9 (j)) ∧ M 12 (i) = 0 ∧ M 12 (j) = 0 ∧ jN M (i) (M 0 1) = 0)) (cwV 3 hts gX3_join_X3_asked__ rfl rfl rfl (by decide +kernel) ⟨Nat.le_of_ble_eq_true rfl, Nat.le_of_ble_eq_true rfl⟩) hK hP hD hS hA (by omega) cM_0 rfl rfl hl.1 rfl (Nat.le_of_ble_eq_true rfl) dX3_join_93 ⟨Nat.le_of_ble_eq_true rfl, Nat.le_of_ble_eq_true rfl⟩ (fun r H locs hr0 hP hD hS => ?_)
                subst hr0
                refine z_ifb_ne (tgt := 101) F dX3_join_96 (by decide) (fun c94 => ?_) (fun c94 => ?_)
                · exact absurd c94.2.2 (fun zz1 => by have zz2 := zz1.2.1; first | exact c93 zz2 | omega)
                · refine lv_iconst (v := nI 0) hx hb dX3_join_99 (by decide) ?_
                  have hx0 : (x3 (zI (M 0 1) (nI i) ∧ zI (M 0 1) (nI j)) (i ≠ j ∧ M 9 (i) = M 9 (j)) (M 12 (i) = 0 ∧ M 12 (j) = 0 ∧ jN M (i) (M 0 1) = 0)) ≠ 0 := x3_no (fun zz1 => c94 ⟨zz1.1, ⟨zz1.1, zz1.2.1⟩, ⟨zz1.1, zz1.2.1⟩, zz1.2.2⟩)
                  have eW : cM k bd (if (x3 (zI (M 0 1) (nI i) ∧ zI (M 0 1) (nI j)) (i ≠ j ∧ M 9 (i) = M 9 (j)) (M 12 (i) = 0 ∧ M 12 (j) = 0 ∧ jN M (i) (M 0 1) = 0)) = 0 then (zu (zu M 12 (i) 1) 13 (i) (j + 1)) else M) O (nI ((x3 (zI (M 0 1) (nI i) ∧ zI (M 0 1) (nI j)) (i ≠ j ∧ M 9 (i) = M 9 (j)) (M 12 (i) = 0 ∧ M 12 (j) = 0 ∧ jN M (i) (M 0 1) = 0)))) = cM k bd M O (nI (x3 (zI (M 0 1) (nI i) ∧ zI (M 0 1) (nI j)) ((zI (M 0 1) (nI i) ∧ zI (M 0 1) (nI j)) ∧ i ≠ j ∧ M 9 (i) = M 9 (j)) (((zI (M 0 1) (nI i) ∧ zI (M 0 1) (nI j)) ∧ i ≠ j ∧ M 9 (i) = M 9 (j)) ∧ M 12 (i) = 0 ∧ M 12 (j) = 0 ∧ jN M (i) (M 0 1) = 0))) := by rw [if_neg hx0, ← x3_jn] <;> rfl
                  rw [← eW] at hP hD
                  refine W.widen (k := 0) (n := 0) (Nat.le_of_ble_eq_true rfl) (Nat.le_of_ble_eq_true rfl) ?_
                  exact W.iret (v := nI 0) hx hb hr (fun t ht hW => ⟨⟨nI 0, (), rfl, fun zz1 => absurd zz1 hx0, ⟨by rw [ht]; exact hP, va_K.moved hW.alike hK⟩, hD⟩, hS.F ht⟩) hS.2.2 dX3_join_100
              · refine lv_aload_n hx hb dX3_join_71 rfl (lv_at hl 2 rfl) ?_
                refine z_get (C := RX3) (T := TX3) (N := 21) (ci := 3) (fs := mObj bd M th) (v := .ref (bd 12)) F hK hP hi3 rfl (0) 12 (by omega) cM_0 (by decide) rfl (by decide +kernel) dX3_join_72 ?_
                refine lv_iload_n hx hb dX3_join_75 rfl (lv_at hl 4 rfl) ?_
                refine z_iald (v := nI (M 12 j)) (cA := k 0) (len := 40) (g := mA M O 12) F hK hP (12) 0 (by omega) rfl rfl (i := nI j) j rfl (by omega) (by decide) rfl dX3_join_76 ?_
                refine z_ifn_ne (tgt := 92) F (by omega) dX3_join_77 (by decide) (fun c95 => ?_) (fun c95 => ?_)
                · refine lv_iconst (v := nI 0) hx hb dX3_join_92 (by decide) ?_
                  refine z_top (show nI 0 = bI (((zI (M 0 1) (nI i) ∧ zI (M 0 1) (nI j)) ∧ i ≠ j ∧ M 9 (i) = M 9 (j)) ∧ M 12 (i) = 0 ∧ M 12 (j) = 0 ∧ jN M (i) (M 0 1) = 0) from (bI_f (fun zz1 => by have zz2 := zz1.2.2.1; first | exact c95 zz2 | omega)).symm) ?_
                  refine z_mV (qc := (RX3, TX3, 21)) (As := [.int (bI (zI (M 0 1) (nI i) ∧ zI (M 0 1) (nI j))), .int (bI ((zI (M 0 1) (nI i) ∧ zI (M 0 1) (nI j)) ∧ i ≠ j ∧ M 9 (i) = M 9 (j))), .int (bI (((zI (M 0 1) (nI i) ∧ zI (M 0 1) (nI j)) ∧ i ≠ j ∧ M 9 (i) = M 9 (j)) ∧ M 12 (i) = 0 ∧ M 12 (j) = 0 ∧ jN M (i) (M 0 1) = 0))]) (rest := []) (0) F (c_X3_asked__ l D k bd M O th _ (zI (M 0 1) (nI i) ∧ zI (M 0 1) (nI j)) ((zI (M 0 1) (nI i) ∧ zI (M 0 1) (nI j)) ∧ i ≠ j ∧ M 9 (i) = M 9 (j)) (((zI (M 0 1) (nI i) ∧ zI (M 0 1) (nI j)) ∧ i ≠ j ∧ M 9 (i) = M 9 (j)) ∧ M 12 (i) = 0 ∧ M 12 (j) = 0 ∧ jN M (i) (M 0 1) = 0)) (cwV 3 hts gX3_join_X3_asked__ rfl rfl rfl (by decide +kernel) ⟨Nat.le_of_ble_eq_true rfl, Nat.le_of_ble_eq_true rfl⟩) hK hP hD hS hA (by omega) cM_0 rfl rfl hl.1 rfl (Nat.le_of_ble_eq_true rfl) dX3_join_93 ⟨Nat.le_of_ble_eq_true rfl, Nat.le_of_ble_eq_true rfl⟩ (fun r H locs hr0 hP hD hS => ?_)
                  subst hr0
                  refine z_ifb_ne (tgt := 101) F dX3_join_96 (by decide) (fun c96 => ?_) (fun c96 => ?_)
                  · exact absurd c96.2.2 (fun zz1 => by have zz2 := zz1.2.2.1; first | exact c95 zz2 | omega)
                  · refine lv_iconst (v := nI 0) hx hb dX3_join_99 (by decide) ?_
                    have hx0 : (x3 (zI (M 0 1) (nI i) ∧ zI (M 0 1) (nI j)) (i ≠ j ∧ M 9 (i) = M 9 (j)) (M 12 (i) = 0 ∧ M 12 (j) = 0 ∧ jN M (i) (M 0 1) = 0)) ≠ 0 := x3_no (fun zz1 => c96 ⟨zz1.1, ⟨zz1.1, zz1.2.1⟩, ⟨zz1.1, zz1.2.1⟩, zz1.2.2⟩)
                    have eW : cM k bd (if (x3 (zI (M 0 1) (nI i) ∧ zI (M 0 1) (nI j)) (i ≠ j ∧ M 9 (i) = M 9 (j)) (M 12 (i) = 0 ∧ M 12 (j) = 0 ∧ jN M (i) (M 0 1) = 0)) = 0 then (zu (zu M 12 (i) 1) 13 (i) (j + 1)) else M) O (nI ((x3 (zI (M 0 1) (nI i) ∧ zI (M 0 1) (nI j)) (i ≠ j ∧ M 9 (i) = M 9 (j)) (M 12 (i) = 0 ∧ M 12 (j) = 0 ∧ jN M (i) (M 0 1) = 0)))) = cM k bd M O (nI (x3 (zI (M 0 1) (nI i) ∧ zI (M 0 1) (nI j)) ((zI (M 0 1) (nI i) ∧ zI (M 0 1) (nI j)) ∧ i ≠ j ∧ M 9 (i) = M 9 (j)) (((zI (M 0 1) (nI i) ∧ zI (M 0 1) (nI j)) ∧ i ≠ j ∧ M 9 (i) = M 9 (j)) ∧ M 12 (i) = 0 ∧ M 12 (j) = 0 ∧ jN M (i) (M 0 1) = 0))) := by rw [if_neg hx0, ← x3_jn] <;> rfl
                    rw [← eW] at hP hD
                    refine W.widen (k := 0) (n := 0) (Nat.le_of_ble_eq_true rfl) (Nat.le_of_ble_eq_true rfl) ?_
                    exact W.iret (v := nI 0) hx hb hr (fun t ht hW => ⟨⟨nI 0, (), rfl, fun zz1 => absurd zz1 hx0, ⟨by rw [ht]; exact hP, va_K.moved hW.alike hK⟩, hD⟩, hS.F ht⟩) hS.2.2 dX3_join_100
                · refine lv_aload_n hx hb dX3_join_80 rfl (lv_at hl 2 rfl) ?_
                  refine lv_iload_n hx hb dX3_join_81 rfl (lv_at hl 3 rfl) ?_
                  refine z_cV (qc := (RX3, TX3, 21)) (As := [.int (nI i)]) (rest := [.int (bI ((zI (M 0 1) (nI i) ∧ zI (M 0 1) (nI j)) ∧ i ≠ j ∧ M 9 (i) = M 9 (j))), .int (bI (zI (M 0 1) (nI i) ∧ zI (M 0 1) (nI j))), .ref (bd 0)]) (0) F (c_X3_joinedTo l D k bd M O th i hI5 hI2 (by omega)) (cwV 1 hts gX3_join_X3_joinedTo rfl rfl rfl (by decide +kernel) ⟨Nat.le_of_ble_eq_true rfl, Nat.le_of_ble_eq_true rfl⟩) hK hP (by omega) cM_0 rfl rfl hl.1 rfl (Nat.le_of_ble_eq_true rfl) dX3_join_82 ⟨Nat.le_of_ble_eq_true rfl, Nat.le_of_ble_eq_true rfl⟩ (fun r hr => ?_)
                  subst hr
                  have hjl := jN_le M i (M 0 1)
                  refine z_ifn_ne (tgt := 92) F (by omega) dX3_join_85 (by decide) (fun c97 => ?_) (fun c97 => ?_)
                  · refine lv_iconst (v := nI 0) hx hb dX3_join_92 (by decide) ?_
                    refine z_top (show nI 0 = bI (((zI (M 0 1) (nI i) ∧ zI (M 0 1) (nI j)) ∧ i ≠ j ∧ M 9 (i) = M 9 (j)) ∧ M 12 (i) = 0 ∧ M 12 (j) = 0 ∧ jN M (i) (M 0 1) = 0) from (bI_f (fun zz1 => by have zz2 := zz1.2.2.2; first | exact c97 zz2 | omega)).symm) ?_
                    refine z_mV (qc := (RX3, TX3, 21)) (As := [.int (bI (zI (M 0 1) (nI i) ∧ zI (M 0 1) (nI j))), .int (bI ((zI (M 0 1) (nI i) ∧ zI (M 0 1) (nI j)) ∧ i ≠ j ∧ M 9 (i) = M 9 (j))), .int (bI (((zI (M 0 1) (nI i) ∧ zI (M 0 1) (nI j)) ∧ i ≠ j ∧ M 9 (i) = M 9 (j)) ∧ M 12 (i) = 0 ∧ M 12 (j) = 0 ∧ jN M (i) (M 0 1) = 0))]) (rest := []) (0) F (c_X3_asked__ l D k bd M O th _ (zI (M 0 1) (nI i) ∧ zI (M 0 1) (nI j)) ((zI (M 0 1) (nI i) ∧ zI (M 0 1) (nI j)) ∧ i ≠ j ∧ M 9 (i) = M 9 (j)) (((zI (M 0 1) (nI i) ∧ zI (M 0 1) (nI j)) ∧ i ≠ j ∧ M 9 (i) = M 9 (j)) ∧ M 12 (i) = 0 ∧ M 12 (j) = 0 ∧ jN M (i) (M 0 1) = 0)) (cwV 3 hts gX3_join_X3_asked__ rfl rfl rfl (by decide +kernel) ⟨Nat.le_of_ble_eq_true rfl, Nat.le_of_ble_eq_true rfl⟩) hK hP hD hS hA (by omega) cM_0 rfl rfl hl.1 rfl (Nat.le_of_ble_eq_true rfl) dX3_join_93 ⟨Nat.le_of_ble_eq_true rfl, Nat.le_of_ble_eq_true rfl⟩ (fun r H locs hr0 hP hD hS => ?_)
                    subst hr0
                    refine z_ifb_ne (tgt := 101) F dX3_join_96 (by decide) (fun c98 => ?_) (fun c98 => ?_)
                    · exact absurd c98.2.2 (fun zz1 => by have zz2 := zz1.2.2.2; first | exact c97 zz2 | omega)
                    · refine lv_iconst (v := nI 0) hx hb dX3_join_99 (by decide) ?_
                      have hx0 : (x3 (zI (M 0 1) (nI i) ∧ zI (M 0 1) (nI j)) (i ≠ j ∧ M 9 (i) = M 9 (j)) (M 12 (i) = 0 ∧ M 12 (j) = 0 ∧ jN M (i) (M 0 1) = 0)) ≠ 0 := x3_no (fun zz1 => c98 ⟨zz1.1, ⟨zz1.1, zz1.2.1⟩, ⟨zz1.1, zz1.2.1⟩, zz1.2.2⟩)
                      have eW : cM k bd (if (x3 (zI (M 0 1) (nI i) ∧ zI (M 0 1) (nI j)) (i ≠ j ∧ M 9 (i) = M 9 (j)) (M 12 (i) = 0 ∧ M 12 (j) = 0 ∧ jN M (i) (M 0 1) = 0)) = 0 then (zu (zu M 12 (i) 1) 13 (i) (j + 1)) else M) O (nI ((x3 (zI (M 0 1) (nI i) ∧ zI (M 0 1) (nI j)) (i ≠ j ∧ M 9 (i) = M 9 (j)) (M 12 (i) = 0 ∧ M 12 (j) = 0 ∧ jN M (i) (M 0 1) = 0)))) = cM k bd M O (nI (x3 (zI (M 0 1) (nI i) ∧ zI (M 0 1) (nI j)) ((zI (M 0 1) (nI i) ∧ zI (M 0 1) (nI j)) ∧ i ≠ j ∧ M 9 (i) = M 9 (j)) (((zI (M 0 1) (nI i) ∧ zI (M 0 1) (nI j)) ∧ i ≠ j ∧ M 9 (i) = M 9 (j)) ∧ M 12 (i) = 0 ∧ M 12 (j) = 0 ∧ jN M (i) (M 0 1) = 0))) := by rw [if_neg hx0, ← x3_jn] <;> rfl
                      rw [← eW] at hP hD
                      refine W.widen (k := 0) (n := 0) (Nat.le_of_ble_eq_true rfl) (Nat.le_of_ble_eq_true rfl) ?_
                      exact W.iret (v := nI 0) hx hb hr (fun t ht hW => ⟨⟨nI 0, (), rfl, fun zz1 => absurd zz1 hx0, ⟨by rw [ht]; exact hP, va_K.moved hW.alike hK⟩, hD⟩, hS.F ht⟩) hS.2.2 dX3_join_100
                  · refine lv_iconst (v := nI 1) hx hb dX3_join_88 (by decide) ?_
                    refine lv_goto (tgt := 93) hx hb dX3_join_89 (by decide) ?_
                    refine z_top (show nI 1 = bI (((zI (M 0 1) (nI i) ∧ zI (M 0 1) (nI j)) ∧ i ≠ j ∧ M 9 (i) = M 9 (j)) ∧ M 12 (i) = 0 ∧ M 12 (j) = 0 ∧ jN M (i) (M 0 1) = 0) from (bI_t ⟨c91, c93, c95, c97⟩).symm) ?_
                    refine z_mV (qc := (RX3, TX3, 21)) (As := [.int (bI (zI (M 0 1) (nI i) ∧ zI (M 0 1) (nI j))), .int (bI ((zI (M 0 1) (nI i) ∧ zI (M 0 1) (nI j)) ∧ i ≠ j ∧ M 9 (i) = M 9 (j))), .int (bI (((zI (M 0 1) (nI i) ∧ zI (M 0 1) (nI j)) ∧ i ≠ j ∧ M 9 (i) = M 9 (j)) ∧ M 12 (i) = 0 ∧ M 12 (j) = 0 ∧ jN M (i) (M 0 1) = 0))]) (rest := []) (0) F (c_X3_asked__ l D k bd M O th _ (zI (M 0 1) (nI i) ∧ zI (M 0 1) (nI j)) ((zI (M 0 1) (nI i) ∧ zI (M 0 1) (nI j)) ∧ i ≠ j ∧ M 9 (i) = M 9 (j)) (((zI (M 0 1) (nI i) ∧ zI (M 0 1) (nI j)) ∧ i ≠ j ∧ M 9 (i) = M 9 (j)) ∧ M 12 (i) = 0 ∧ M 12 (j) = 0 ∧ jN M (i) (M 0 1) = 0)) (cwV 3 hts gX3_join_X3_asked__ rfl rfl rfl (by decide +kernel) ⟨Nat.le_of_ble_eq_true rfl, Nat.le_of_ble_eq_true rfl⟩) hK hP hD hS hA (by omega) cM_0 rfl rfl hl.1 rfl (Nat.le_of_ble_eq_true rfl) dX3_join_93 ⟨Nat.le_of_ble_eq_true rfl, Nat.le_of_ble_eq_true rfl⟩ (fun r H locs hr0 hP hD hS => ?_)
                    subst hr0
                    refine z_ifb_ne (tgt := 101) F dX3_join_96 (by decide) (fun c99 => ?_) (fun c99 => ?_)
                    · refine lv_aload_n hx hb dX3_join_101 rfl (lv_at hl 2 rfl) ?_
                      refine z_get (C := RX3) (T := TX3) (N := 21) (ci := 3) (fs := mObj bd M (nI (x3 (zI (M 0 1) (nI i) ∧ zI (M 0 1) (nI j)) ((zI (M 0 1) (nI i) ∧ zI (M 0 1) (nI j)) ∧ i ≠ j ∧ M 9 (i) = M 9 (j)) (((zI (M 0 1) (nI i) ∧ zI (M 0 1) (nI j)) ∧ i ≠ j ∧ M 9 (i) = M 9 (j)) ∧ M 12 (i) = 0 ∧ M 12 (j) = 0 ∧ jN M (i) (M 0 1) = 0)))) (v := .ref (bd 12)) F hK hP hi3 rfl (0) 12 (by omega) cM_0 (by decide) rfl (by decide +kernel) dX3_join_102 ?_
                      refine lv_iload_n hx hb dX3_join_105 rfl (lv_at hl 3 rfl) ?_
                      refine lv_iconst (v := nI 1) hx hb dX3_join_106 (by decide) ?_
                      refine z_iast (f' := (cM k bd (zu M 12 i 1) O (nI (x3 (zI (M 0 1) (nI i) ∧ zI (M 0 1) (nI j)) ((zI (M 0 1) (nI i) ∧ zI (M 0 1) (nI j)) ∧ i ≠ j ∧ M 9 (i) = M 9 (j)) (((zI (M 0 1) (nI i) ∧ zI (M 0 1) (nI j)) ∧ i ≠ j ∧ M 9 (i) = M 9 (j)) ∧ M 12 (i) = 0 ∧ M 12 (j) = 0 ∧ jN M (i) (M 0 1) = 0))))) (cA := k 0) (len := 40) (g := mA M O 12) F hK hP hD hS (12) 0 (by omega) rfl rfl (i := nI i) i rfl (by omega) (by decide) (cM_urow 12 (by decide) (by decide) (by decide) (by decide) (by decide) _ _) dX3_join_107 (fun H locs hP hD hS => ?_)
                      refine lv_aload_n hx hb dX3_join_108 rfl (lv_at hl 2 rfl) ?_
                      refine z_get (C := RX3) (T := TX3) (N := 21) (ci := 3) (fs := mObj bd (zu M 12 i 1) (nI (x3 (zI (M 0 1) (nI i) ∧ zI (M 0 1) (nI j)) ((zI (M 0 1) (nI i) ∧ zI (M 0 1) (nI j)) ∧ i ≠ j ∧ M 9 (i) = M 9 (j)) (((zI (M 0 1) (nI i) ∧ zI (M 0 1) (nI j)) ∧ i ≠ j ∧ M 9 (i) = M 9 (j)) ∧ M 12 (i) = 0 ∧ M 12 (j) = 0 ∧ jN M (i) (M 0 1) = 0)))) (v := .ref (bd 13)) F hK hP hi3 rfl (0) 13 (by omega) cM_0 (by decide) rfl (by decide +kernel) dX3_join_109 ?_
                      refine lv_iload_n hx hb dX3_join_112 rfl (lv_at hl 3 rfl) ?_
                      refine lv_iload_n hx hb dX3_join_113 rfl (lv_at hl 4 rfl) ?_
                      refine z_iast (f' := (cM k bd (zu (zu M 12 i 1) 13 i (j + 1)) O (nI (x3 (zI (M 0 1) (nI i) ∧ zI (M 0 1) (nI j)) ((zI (M 0 1) (nI i) ∧ zI (M 0 1) (nI j)) ∧ i ≠ j ∧ M 9 (i) = M 9 (j)) (((zI (M 0 1) (nI i) ∧ zI (M 0 1) (nI j)) ∧ i ≠ j ∧ M 9 (i) = M 9 (j)) ∧ M 12 (i) = 0 ∧ M 12 (j) = 0 ∧ jN M (i) (M 0 1) = 0))))) (cA := k 0) (len := 40) (g := mA (zu M 12 i 1) O 13) F hK hP hD hS (13) 0 (by omega) rfl rfl (i := nI i) i rfl (by omega) (by decide) (cM_uhead _ (j + 1)) dX3_join_114 (fun H locs hP hD hS => ?_)
                      have hcaJ : ∀ c, c < (zu (zu M 12 i 1) 13 i (j + 1)) 0 1 → zCa (zu (zu M 12 i 1) 13 i (j + 1)) c := by
                        intro zc zc1
                        obtain ⟨g1, g2, g3, g4, g5, g6, g7⟩ := hI5 zc zc1
                        refine ⟨g1, g2, g3, ?_, ?_, g6, g7⟩
                        · rw [zu_r _ _ _ _ (by decide)]
                          by_cases zc2 : zc = i
                          · rw [zc2, zu_s]; omega
                          · rw [zu_i _ _ _ _ zc2]; exact g4
                        · by_cases zc2 : zc = i
                          · rw [zc2, zu_s]; show j + 1 ≤ M 0 1; omega
                          · rw [zu_i _ _ _ _ zc2]; exact g5
                      refine lv_aload_n hx hb dX3_join_115 rfl (lv_at hl 2 rfl) ?_
                      refine lv_iload_n hx hb dX3_join_116 rfl (lv_at hl 4 rfl) ?_
                      refine z_cV (qc := (RX3, TX3, 21)) (As := [.int (nI j)]) (rest := []) (0) F (c_X3_joinedTo l D k bd (zu (zu M 12 i 1) 13 i (j + 1)) O (nI (x3 (zI (M 0 1) (nI i) ∧ zI (M 0 1) (nI j)) ((zI (M 0 1) (nI i) ∧ zI (M 0 1) (nI j)) ∧ i ≠ j ∧ M 9 (i) = M 9 (j)) (((zI (M 0 1) (nI i) ∧ zI (M 0 1) (nI j)) ∧ i ≠ j ∧ M 9 (i) = M 9 (j)) ∧ M 12 (i) = 0 ∧ M 12 (j) = 0 ∧ jN M (i) (M 0 1) = 0))) j hcaJ hI2 (by omega)) (cwV 1 hts gX3_join_X3_joinedTo rfl rfl rfl (by decide +kernel) ⟨Nat.le_of_ble_eq_true rfl, Nat.le_of_ble_eq_true rfl⟩) hK hP (by omega) cM_0 rfl rfl hl.1 rfl (Nat.le_of_ble_eq_true rfl) dX3_join_117 ⟨Nat.le_of_ble_eq_true rfl, Nat.le_of_ble_eq_true rfl⟩ (fun r hr => ?_)
                      subst hr
                      have hjl := jN_le (zu (zu M 12 i 1) 13 i (j + 1)) j (M 0 1)
                      have hx0 : (x3 (zI (M 0 1) (nI i) ∧ zI (M 0 1) (nI j)) (i ≠ j ∧ M 9 (i) = M 9 (j)) (M 12 (i) = 0 ∧ M 12 (j) = 0 ∧ jN M (i) (M 0 1) = 0)) = 0 := x3_0 c99.1 c99.2.1.2 c99.2.2.2
                      have eW : cM k bd (if (x3 (zI (M 0 1) (nI i) ∧ zI (M 0 1) (nI j)) (i ≠ j ∧ M 9 (i) = M 9 (j)) (M 12 (i) = 0 ∧ M 12 (j) = 0 ∧ jN M (i) (M 0 1) = 0)) = 0 then (zu (zu M 12 (i) 1) 13 (i) (j + 1)) else M) O (nI ((x3 (zI (M 0 1) (nI i) ∧ zI (M 0 1) (nI j)) (i ≠ j ∧ M 9 (i) = M 9 (j)) (M 12 (i) = 0 ∧ M 12 (j) = 0 ∧ jN M (i) (M 0 1) = 0)))) = cM k bd (zu (zu M 12 i 1) 13 i (j + 1)) O (nI (x3 (zI (M 0 1) (nI i) ∧ zI (M 0 1) (nI j)) ((zI (M 0 1) (nI i) ∧ zI (M 0 1) (nI j)) ∧ i ≠ j ∧ M 9 (i) = M 9 (j)) (((zI (M 0 1) (nI i) ∧ zI (M 0 1) (nI j)) ∧ i ≠ j ∧ M 9 (i) = M 9 (j)) ∧ M 12 (i) = 0 ∧ M 12 (j) = 0 ∧ jN M (i) (M 0 1) = 0))) := by rw [if_pos hx0, ← x3_jn] <;> rfl
                      rw [← eW] at hP hD
                      refine W.widen (k := 0) (n := 0) (Nat.le_of_ble_eq_true rfl) (Nat.le_of_ble_eq_true rfl) ?_
                      exact W.iret (v := nI (jN (zu (zu M 12 i 1) 13 i (j + 1)) j (M 0 1))) hx hb hr (fun t ht hW => ⟨⟨nI (jN (zu (zu M 12 i 1) 13 i (j + 1)) j (M 0 1)), (), rfl, fun _ => rfl, ⟨by rw [ht]; exact hP, va_K.moved hW.alike hK⟩, hD⟩, hS.F ht⟩) hS.2.2 dX3_join_120
                    · refine lv_iconst (v := nI 0) hx hb dX3_join_99 (by decide) ?_
                      have hx0 : (x3 (zI (M 0 1) (nI i) ∧ zI (M 0 1) (nI j)) (i ≠ j ∧ M 9 (i) = M 9 (j)) (M 12 (i) = 0 ∧ M 12 (j) = 0 ∧ jN M (i) (M 0 1) = 0)) ≠ 0 := x3_no (fun zz1 => c99 ⟨zz1.1, ⟨zz1.1, zz1.2.1⟩, ⟨zz1.1, zz1.2.1⟩, zz1.2.2⟩)
                      have eW : cM k bd (if (x3 (zI (M 0 1) (nI i) ∧ zI (M 0 1) (nI j)) (i ≠ j ∧ M 9 (i) = M 9 (j)) (M 12 (i) = 0 ∧ M 12 (j) = 0 ∧ jN M (i) (M 0 1) = 0)) = 0 then (zu (zu M 12 (i) 1) 13 (i) (j + 1)) else M) O (nI ((x3 (zI (M 0 1) (nI i) ∧ zI (M 0 1) (nI j)) (i ≠ j ∧ M 9 (i) = M 9 (j)) (M 12 (i) = 0 ∧ M 12 (j) = 0 ∧ jN M (i) (M 0 1) = 0)))) = cM k bd M O (nI (x3 (zI (M 0 1) (nI i) ∧ zI (M 0 1) (nI j)) ((zI (M 0 1) (nI i) ∧ zI (M 0 1) (nI j)) ∧ i ≠ j ∧ M 9 (i) = M 9 (j)) (((zI (M 0 1) (nI i) ∧ zI (M 0 1) (nI j)) ∧ i ≠ j ∧ M 9 (i) = M 9 (j)) ∧ M 12 (i) = 0 ∧ M 12 (j) = 0 ∧ jN M (i) (M 0 1) = 0))) := by rw [if_neg hx0, ← x3_jn] <;> rfl
                      rw [← eW] at hP hD
                      refine W.widen (k := 0) (n := 0) (Nat.le_of_ble_eq_true rfl) (Nat.le_of_ble_eq_true rfl) ?_
                      exact W.iret (v := nI 0) hx hb hr (fun t ht hW => ⟨⟨nI 0, (), rfl, fun zz1 => absurd zz1 hx0, ⟨by rw [ht]; exact hP, va_K.moved hW.alike hK⟩, hD⟩, hS.F ht⟩) hS.2.2 dX3_join_100
