set_option maxRecDepth 100000 in
set_option maxHeartbeats 4000000 in
theorem c_X2_setCalendar (l : Launch) (hfl : l.stackTraces = false) (sa : Nat → Nat) (D : va_G) (k : Nat → ClassId) (ad : Nat → Nat) (M : Nat → Nat → Nat) (O : Nat → Nat → Int32) (sz : Nat) (hI : zInv M) (p0 p1 p2 p3 : Int32) : vx_Met l yX2_setCalendar wsX2_setCalendar ({ frames := 8, cells := 4, slots := 24, locals := 124 }) (va_Pc [.ref (ad 0), .int p0, .int p1, .int p2, .int p3] (zPre D k ad M O sz sa)) (zQop D k ad M (zu (zu (zu M 1 (ix p0) (ix p1)) 2 (ix p0) (ix p2)) 3 (ix p0) (ix p3)) (O) (va_A (zw (20 + 2 * M 0 1) ad (cX k ad M O)) sz) (x3 (zI 4 p0) ((nI 0 ≤ p1 ∧ p1 ≤ nI 127) ∧ (nI 0 ≤ p2 ∧ p2 ≤ nI 23) ∧ (p2 ≤ p3 ∧ p3 ≤ nI 23)) (True)) (nI (M 1 (ix p0)))) (zX (fun E => exC E (x3 (zI 4 p0) ((nI 0 ≤ p1 ∧ p1 ≤ nI 127) ∧ (nI 0 ≤ p2 ∧ p2 ≤ nI 23) ∧ (p2 ≤ p3 ∧ p3 ≤ nI 23)) (True)))) 4 24 (va_A (zw (20 + 2 * M 0 1) ad (cX k ad M O)) sz) := by
  refine vx_ofW (cc := cX2_setCalendar) (maxL := 7) (ret := (some .int)) (by decide) rfl ?_
  intro p e s m args below meth c s₁ B hml hnox hv
  obtain ⟨rfl, ⟨hsz, ⟨hP, hK⟩, hD0⟩, hE⟩ := hv
  have hx := B.exec
  have hb := B.bytes
  have hr := B.returns
  have hts := atoms_spec (ws := wsX2_setCalendar) B.pre
  have hown : s.vm.findClass RX2 = some m.cls := findClass_of_methodNamed B.named
  have hlocks := B.notSynchronized
  have F : CallFix p m c cX2_setCalendar 7 s _ wsX2_setCalendar RX2 := ⟨hx, hb, hml, hown, hts⟩
  subst hsz
  have hD := hD0.self (sz := s.heap.size)
  generalize hAe : va_A (zw (20 + 2 * M 0 1) ad (cX k ad M O)) s.heap.size = A at hD hE ⊢
  have hA : ∀ q : Nat, s.heap.size ≤ q → A q := fun q h => by rw [← hAe]; exact Or.inr h
  have hS0 : va_S noA s.heap s.heap [] := va_S.rf
  obtain ⟨hI1, hI2, hI3, hI4, hI5, hI6, hI7⟩ := id hI
  have hl := lv_entry ([.ref (ad 0), .int p0, .int p1, .int p2, .int p3]) (n := 7) (Nat.le_of_ble_eq_true rfl)
  rw [lg_entry_eq]
  generalize (lg_sl ([.ref (ad 0), .int p0, .int p1, .int p2, .int p3]) ++ List.replicate (7 - (lg_sl ([.ref (ad 0), .int p0, .int p1, .int p2, .int p3])).length) Slot.unset).toArray = ls at hl ⊢
  have hl : lv_has ls 7 [(0, .ref (ad 0)), (1, .int p0), (2, .int p1), (3, .int p2), (4, .int p3)] := hl
  have hi1 : ∀ w ∈ u_ws RX1 TX1 9, w ∈ wsX2_setCalendar := by decide +kernel
  refine lv_aload_n hx hb dX2_setCalendar_0 rfl (lv_at hl 0 rfl) ?_
  refine lv_iload_n hx hb dX2_setCalendar_1 rfl (lv_at hl 1 rfl) ?_
  refine z_xVq (qc := (RX2, TX2, 5)) (As := [.int p0]) (rest := []) (0) F (c_X2_siteAt l hfl sa D k ad M O p0) (cwV 1 hts gX2_setCalendar_X2_siteAt rfl rfl rfl (by decide +kernel) ⟨Nat.le_of_ble_eq_true rfl, Nat.le_of_ble_eq_true rfl⟩) hK hP (by omega) cX_0 rfl hE hS0 hnox hlocks rfl hl.1 rfl (Nat.le_of_ble_eq_true rfl) dX2_setCalendar_2 ⟨Nat.le_of_ble_eq_true rfl, Nat.le_of_ble_eq_true rfl⟩ (Nat.le_of_ble_eq_true rfl) (Nat.le_of_ble_eq_true rfl) (fun E hpx => by obtain ⟨rfl, zz1⟩ := hpx; exact exC_1 (fun zz2 => zz1 zz2)) (fun a9 ha9 H1 locs1 hz1 hk1 hS0 => ?_)
  replace hP := z_keptP hP hk1
  obtain ⟨i, hi, rfl, rfl⟩ := ha9
  try rw [ix_nI (show i < 2 ^ 31 by omega)]
  have xa : zI 4 (nI i) := ⟨i, hi, rfl⟩
  obtain ⟨hs, ho⟩ := hI3 i hi
  obtain ⟨hd1, hd2, hd3, hd4⟩ := id hs
  refine lv_astore (lv' := [(5, .ref (ad (4 + 4 * i))), (0, .ref (ad 0)), (1, .int (nI i)), (2, .int p1), (3, .int p2), (4, .int p3)]) hx hb dX2_setCalendar_5 hl (by decide) rfl (fun ls hl => ?_)
  refine lv_iload_n hx hb dX2_setCalendar_7 rfl (lv_at hl 3 rfl) ?_
  refine lv_iconst (v := nI 0) hx hb dX2_setCalendar_8 (by decide) ?_
  refine lv_bipush (v := nI 127) hx hb dX2_setCalendar_9 (by decide) ?_
  refine z_xS (As := [.int p1, .int (nI 0), .int (nI 127)]) (rest := []) F (c_X2_checkRange l hfl sa (p1) (nI 0) (nI 127)) (va_cwS 3 hts gX2_setCalendar_X2_checkRange rfl rfl rfl (by decide +kernel) ⟨Nat.le_of_ble_eq_true rfl, Nat.le_of_ble_eq_true rfl⟩) hE hS0 hnox hlocks rfl hl.1 rfl (Nat.le_of_ble_eq_true rfl) dX2_setCalendar_11 ⟨Nat.le_of_ble_eq_true rfl, Nat.le_of_ble_eq_true rfl⟩ (Nat.le_of_ble_eq_true rfl) (Nat.le_of_ble_eq_true rfl) (fun E hpx => by obtain ⟨rfl, zz1⟩ := hpx; exact exC_2 xa (fun zz2 => zz1 zz2.1)) (fun c1 H1 locs1 hz1 hk1 hS0 => ?_)
  replace hP := z_keptP hP hk1
  obtain ⟨b1, hb10, hb1, rfl⟩ := (zB_iff (by omega) (by decide)).mp c1
  try rw [ix_nI (show b1 < 2 ^ 31 by omega)]
  refine lv_iload_n hx hb dX2_setCalendar_14 rfl (lv_at hl 4 rfl) ?_
  refine lv_iconst (v := nI 0) hx hb dX2_setCalendar_15 (by decide) ?_
  refine lv_bipush (v := nI 23) hx hb dX2_setCalendar_16 (by decide) ?_
  refine z_xS (As := [.int p2, .int (nI 0), .int (nI 23)]) (rest := []) F (c_X2_checkRange l hfl sa (p2) (nI 0) (nI 23)) (va_cwS 3 hts gX2_setCalendar_X2_checkRange rfl rfl rfl (by decide +kernel) ⟨Nat.le_of_ble_eq_true rfl, Nat.le_of_ble_eq_true rfl⟩) hE hS0 hnox hlocks rfl hl.1 rfl (Nat.le_of_ble_eq_true rfl) dX2_setCalendar_18 ⟨Nat.le_of_ble_eq_true rfl, Nat.le_of_ble_eq_true rfl⟩ (Nat.le_of_ble_eq_true rfl) (Nat.le_of_ble_eq_true rfl) (fun E hpx => by obtain ⟨rfl, zz1⟩ := hpx; exact exC_2 xa (fun zz2 => zz1 zz2.2.1)) (fun c2 H1 locs1 hz1 hk1 hS0 => ?_)
  replace hP := z_keptP hP hk1
  obtain ⟨b2, hb20, hb2, rfl⟩ := (zB_iff (by omega) (by decide)).mp c2
  try rw [ix_nI (show b2 < 2 ^ 31 by omega)]
  refine lv_iload hx hb dX2_setCalendar_21 (lv_at hl 5 rfl) ?_
  refine lv_iload_n hx hb dX2_setCalendar_23 rfl (lv_at hl 4 rfl) ?_
  refine lv_bipush (v := nI 23) hx hb dX2_setCalendar_24 (by decide) ?_
  refine z_xS (As := [.int p3, .int (nI b2), .int (nI 23)]) (rest := []) F (c_X2_checkRange l hfl sa (p3) (nI b2) (nI 23)) (va_cwS 3 hts gX2_setCalendar_X2_checkRange rfl rfl rfl (by decide +kernel) ⟨Nat.le_of_ble_eq_true rfl, Nat.le_of_ble_eq_true rfl⟩) hE hS0 hnox hlocks rfl hl.1 rfl (Nat.le_of_ble_eq_true rfl) dX2_setCalendar_26 ⟨Nat.le_of_ble_eq_true rfl, Nat.le_of_ble_eq_true rfl⟩ (Nat.le_of_ble_eq_true rfl) (Nat.le_of_ble_eq_true rfl) (fun E hpx => by obtain ⟨rfl, zz1⟩ := hpx; exact exC_2 xa (fun zz2 => zz1 zz2.2.2)) (fun c3 H1 locs1 hz1 hk1 hS0 => ?_)
  replace hP := z_keptP hP hk1
  obtain ⟨b3, hb30, hb3, rfl⟩ := (zB_iff (by omega) (by decide)).mp c3
  try rw [ix_nI (show b3 < 2 ^ 31 by omega)]
  have hS := zS_mono (B := A) hS0 noA_le
  refine lv_aload hx hb dX2_setCalendar_29 (lv_at hl 0 rfl) ?_
  refine z_get (C := RX1) (T := TX1) (N := 9) (ci := 1) (v := .int (nI (M 1 i))) F hK hP hi1 rfl (4 + 4 * i) 0 (by have := hi; omega) (cX_s hi) (by decide) rfl (by decide +kernel) dX2_setCalendar_31 ?_
  refine lv_istore (lv' := [(6, .int (nI (M 1 i))), (5, .ref (ad (4 + 4 * i))), (0, .ref (ad 0)), (1, .int (nI i)), (2, .int (nI b1)), (3, .int (nI b2)), (4, .int (nI b3))]) hx hb dX2_setCalendar_34 hl (by decide) rfl (fun ls hl => ?_)
  refine lv_aload hx hb dX2_setCalendar_36 (lv_at hl 1 rfl) ?_
  refine lv_iload_n hx hb dX2_setCalendar_38 rfl (lv_at hl 4 rfl) ?_
  refine z_put (C := RX1) (T := TX1) (N := 9) (ci := 1) (f' := (cX k ad (zu M 1 i b1) O)) F hK hP hD hS hi1 rfl tyX1 tyX1_ok nmX1 (4 + 4 * i) 0 (by have := hi; omega) (cX_s hi) (by decide) (Nat.le_of_ble_eq_true rfl) (by decide +kernel) rfl rfl rfl rfl (cX_udays hi _) dX2_setCalendar_39 (fun H locs hP hD hS => ?_)
  refine lv_aload hx hb dX2_setCalendar_42 (lv_at hl 1 rfl) ?_
  refine lv_iload_n hx hb dX2_setCalendar_44 rfl (lv_at hl 5 rfl) ?_
  refine z_put (C := RX1) (T := TX1) (N := 9) (ci := 1) (f' := (cX k ad (zu (zu M 1 i b1) 2 i b2) O)) F hK hP hD hS hi1 rfl tyX1 tyX1_ok nmX1 (4 + 4 * i) 1 (by have := hi; omega) (cX_s hi) (by decide) (Nat.le_of_ble_eq_true rfl) (by decide +kernel) rfl rfl rfl rfl (cX_ufirst hi _) dX2_setCalendar_45 (fun H locs hP hD hS => ?_)
  refine lv_aload hx hb dX2_setCalendar_48 (lv_at hl 1 rfl) ?_
  refine lv_iload hx hb dX2_setCalendar_50 (lv_at hl 6 rfl) ?_
  refine z_put (C := RX1) (T := TX1) (N := 9) (ci := 1) (f' := (cX k ad (zu (zu (zu M 1 i b1) 2 i b2) 3 i b3) O)) F hK hP hD hS hi1 rfl tyX1 tyX1_ok nmX1 (4 + 4 * i) 2 (by have := hi; omega) (cX_s hi) (by decide) (Nat.le_of_ble_eq_true rfl) (by decide +kernel) rfl rfl rfl rfl (cX_ulast hi _) dX2_setCalendar_52 (fun H locs hP hD hS => ?_)
  refine lv_iload hx hb dX2_setCalendar_55 (lv_at hl 0 rfl) ?_
  refine vx_ret (mc := 4) (ms := 24) (W.widen (k := 4) (n := 24) (Nat.le_of_ble_eq_true rfl) (Nat.le_of_ble_eq_true rfl) ?_)
  exact W.iret (v := nI (M 1 i)) hx hb hr (fun t ht hW => ⟨⟨nI (M 1 i), ad, rfl, ⟨x3_0 xa ⟨c1, c2, c3⟩ trivial, rfl⟩, ⟨⟨by rw [ht]; exact hP, va_K.moved hW.alike hK⟩, hD⟩, fun _ _ => rfl⟩, hS.F ht⟩) hS.2.2 dX2_setCalendar_57
set_option maxRecDepth 100000 in
set_option maxHeartbeats 4000000 in
theorem c_X2_setPromise (l : Launch) (hfl : l.stackTraces = false) (sa : Nat → Nat) (D : va_G) (k : Nat → ClassId) (ad : Nat → Nat) (M : Nat → Nat → Nat) (O : Nat → Nat → Int32) (sz : Nat) (hI : zInv M) (p0 p1 p2 : Int32) : vx_Met l yX2_setPromise wsX2_setPromise ({ frames := 8, cells := 3, slots := 18, locals := 124 }) (va_Pc [.ref (ad 0), .int p0, .int p1, .int p2] (zPre D k ad M O sz sa)) (zQop D k ad M (zu M 8 (3 * ix p0 + ix p1) (ix p2)) (O) (va_A (zw (20 + 2 * M 0 1) ad (cX k ad M O)) sz) (x3 (True) ((nI 0 ≤ p0 ∧ p0 ≤ nI 2) ∧ (nI 0 ≤ p1 ∧ p1 ≤ nI 2) ∧ (nI 1 ≤ p2 ∧ p2 ≤ nI 1000)) (True)) (nI (M 8 (3 * ix p0 + ix p1)))) (zX (fun E => exC E (x3 (True) ((nI 0 ≤ p0 ∧ p0 ≤ nI 2) ∧ (nI 0 ≤ p1 ∧ p1 ≤ nI 2) ∧ (nI 1 ≤ p2 ∧ p2 ≤ nI 1000)) (True)))) 3 18 (va_A (zw (20 + 2 * M 0 1) ad (cX k ad M O)) sz) := by
  refine vx_ofW (cc := cX2_setPromise) (maxL := 6) (ret := (some .int)) (by decide) rfl ?_
  intro p e s m args below meth c s₁ B hml hnox hv
  obtain ⟨rfl, ⟨hsz, ⟨hP, hK⟩, hD0⟩, hE⟩ := hv
  have hx := B.exec
  have hb := B.bytes
  have hr := B.returns
  have hts := atoms_spec (ws := wsX2_setPromise) B.pre
  have hown : s.vm.findClass RX2 = some m.cls := findClass_of_methodNamed B.named
  have hlocks := B.notSynchronized
  have F : CallFix p m c cX2_setPromise 6 s _ wsX2_setPromise RX2 := ⟨hx, hb, hml, hown, hts⟩
  subst hsz
  have hD := hD0.self (sz := s.heap.size)
  generalize hAe : va_A (zw (20 + 2 * M 0 1) ad (cX k ad M O)) s.heap.size = A at hD hE ⊢
  have hA : ∀ q : Nat, s.heap.size ≤ q → A q := fun q h => by rw [← hAe]; exact Or.inr h
  have hS0 : va_S noA s.heap s.heap [] := va_S.rf
  obtain ⟨hI1, hI2, hI3, hI4, hI5, hI6, hI7⟩ := id hI
  have hl := lv_entry ([.ref (ad 0), .int p0, .int p1, .int p2]) (n := 6) (Nat.le_of_ble_eq_true rfl)
  rw [lg_entry_eq]
  generalize (lg_sl ([.ref (ad 0), .int p0, .int p1, .int p2]) ++ List.replicate (6 - (lg_sl ([.ref (ad 0), .int p0, .int p1, .int p2])).length) Slot.unset).toArray = ls at hl ⊢
  have hl : lv_has ls 6 [(0, .ref (ad 0)), (1, .int p0), (2, .int p1), (3, .int p2)] := hl
  have hi2 : ∀ w ∈ u_ws RX2 TX2 5, w ∈ wsX2_setPromise := by decide +kernel
  refine lv_iload_n hx hb dX2_setPromise_0 rfl (lv_at hl 1 rfl) ?_
  refine lv_iconst (v := nI 0) hx hb dX2_setPromise_1 (by decide) ?_
  refine lv_iconst (v := nI 2) hx hb dX2_setPromise_2 (by decide) ?_
  refine z_xS (As := [.int p0, .int (nI 0), .int (nI 2)]) (rest := []) F (c_X2_checkRange l hfl sa (p0) (nI 0) (nI 2)) (va_cwS 3 hts gX2_setPromise_X2_checkRange rfl rfl rfl (by decide +kernel) ⟨Nat.le_of_ble_eq_true rfl, Nat.le_of_ble_eq_true rfl⟩) hE hS0 hnox hlocks rfl hl.1 rfl (Nat.le_of_ble_eq_true rfl) dX2_setPromise_3 ⟨Nat.le_of_ble_eq_true rfl, Nat.le_of_ble_eq_true rfl⟩ (Nat.le_of_ble_eq_true rfl) (Nat.le_of_ble_eq_true rfl) (fun E hpx => by obtain ⟨rfl, zz1⟩ := hpx; exact exC_2 trivial (fun zz2 => zz1 zz2.1)) (fun c4 H1 locs1 hz1 hk1 hS0 => ?_)
  replace hP := z_keptP hP hk1
  obtain ⟨b0, hb00, hb0, rfl⟩ := (zB_iff (by omega) (by decide)).mp c4
  try rw [ix_nI (show b0 < 2 ^ 31 by omega)]
  refine lv_iload_n hx hb dX2_setPromise_6 rfl (lv_at hl 2 rfl) ?_
  refine lv_iconst (v := nI 0) hx hb dX2_setPromise_7 (by decide) ?_
  refine lv_iconst (v := nI 2) hx hb dX2_setPromise_8 (by decide) ?_
  refine z_xS (As := [.int p1, .int (nI 0), .int (nI 2)]) (rest := []) F (c_X2_checkRange l hfl sa (p1) (nI 0) (nI 2)) (va_cwS 3 hts gX2_setPromise_X2_checkRange rfl rfl rfl (by decide +kernel) ⟨Nat.le_of_ble_eq_true rfl, Nat.le_of_ble_eq_true rfl⟩) hE hS0 hnox hlocks rfl hl.1 rfl (Nat.le_of_ble_eq_true rfl) dX2_setPromise_9 ⟨Nat.le_of_ble_eq_true rfl, Nat.le_of_ble_eq_true rfl⟩ (Nat.le_of_ble_eq_true rfl) (Nat.le_of_ble_eq_true rfl) (fun E hpx => by obtain ⟨rfl, zz1⟩ := hpx; exact exC_2 trivial (fun zz2 => zz1 zz2.2.1)) (fun c5 H1 locs1 hz1 hk1 hS0 => ?_)
  replace hP := z_keptP hP hk1
  obtain ⟨b1, hb10, hb1, rfl⟩ := (zB_iff (by omega) (by decide)).mp c5
  try rw [ix_nI (show b1 < 2 ^ 31 by omega)]
  refine lv_iload_n hx hb dX2_setPromise_12 rfl (lv_at hl 3 rfl) ?_
  refine lv_iconst (v := nI 1) hx hb dX2_setPromise_13 (by decide) ?_
  refine lv_sipush (v := nI 1000) hx hb dX2_setPromise_14 (by decide) ?_
  refine z_xS (As := [.int p2, .int (nI 1), .int (nI 1000)]) (rest := []) F (c_X2_checkRange l hfl sa (p2) (nI 1) (nI 1000)) (va_cwS 3 hts gX2_setPromise_X2_checkRange rfl rfl rfl (by decide +kernel) ⟨Nat.le_of_ble_eq_true rfl, Nat.le_of_ble_eq_true rfl⟩) hE hS0 hnox hlocks rfl hl.1 rfl (Nat.le_of_ble_eq_true rfl) dX2_setPromise_17 ⟨Nat.le_of_ble_eq_true rfl, Nat.le_of_ble_eq_true rfl⟩ (Nat.le_of_ble_eq_true rfl) (Nat.le_of_ble_eq_true rfl) (fun E hpx => by obtain ⟨rfl, zz1⟩ := hpx; exact exC_2 trivial (fun zz2 => zz1 zz2.2.2)) (fun c6 H1 locs1 hz1 hk1 hS0 => ?_)
  replace hP := z_keptP hP hk1
  obtain ⟨b2, hb20, hb2, rfl⟩ := (zB_iff (by omega) (by decide)).mp c6
  try rw [ix_nI (show b2 < 2 ^ 31 by omega)]
  have hS := zS_mono (B := A) hS0 noA_le
  refine lv_iload_n hx hb dX2_setPromise_20 rfl (lv_at hl 1 rfl) ?_
  refine lv_iconst (v := nI 3) hx hb dX2_setPromise_21 (by decide) ?_
  refine z_mul F dX2_setPromise_22 ?_
  refine lv_iload_n hx hb dX2_setPromise_23 rfl (lv_at hl 2 rfl) ?_
  refine z_add F dX2_setPromise_24 ?_
  refine lv_istore (lv' := [(4, .int (nI ((b0 * 3) + b1))), (0, .ref (ad 0)), (1, .int (nI b0)), (2, .int (nI b1)), (3, .int (nI b2))]) hx hb dX2_setPromise_25 hl (by decide) rfl (fun ls hl => ?_)
  refine lv_aload_n hx hb dX2_setPromise_27 rfl (lv_at hl 1 rfl) ?_
  refine z_get (C := RX2) (T := TX2) (N := 5) (ci := 2) (v := .ref (ad 2)) F hK hP hi2 rfl (0) 1 (by omega) cX_0 (by decide) rfl (by decide +kernel) dX2_setPromise_28 ?_
  refine lv_iload hx hb dX2_setPromise_31 (lv_at hl 0 rfl) ?_
  refine z_iald (v := nI (M 8 ((b0 * 3) + b1))) F hK hP (2) 0 (by omega) cX_2 rfl (i := nI ((b0 * 3) + b1)) ((b0 * 3) + b1) rfl (by omega) (by decide) (rw0_at0 (by omega)) dX2_setPromise_33 ?_
  refine lv_istore (lv' := [(5, .int (nI (M 8 ((b0 * 3) + b1)))), (4, .int (nI ((b0 * 3) + b1))), (0, .ref (ad 0)), (1, .int (nI b0)), (2, .int (nI b1)), (3, .int (nI b2))]) hx hb dX2_setPromise_34 hl (by decide) rfl (fun ls hl => ?_)
  refine lv_aload_n hx hb dX2_setPromise_36 rfl (lv_at hl 2 rfl) ?_
  refine z_get (C := RX2) (T := TX2) (N := 5) (ci := 2) (v := .ref (ad 2)) F hK hP hi2 rfl (0) 1 (by omega) cX_0 (by decide) rfl (by decide +kernel) dX2_setPromise_37 ?_
  refine lv_iload hx hb dX2_setPromise_40 (lv_at hl 1 rfl) ?_
  refine lv_iload_n hx hb dX2_setPromise_42 rfl (lv_at hl 5 rfl) ?_
  refine z_iast (f' := (cX k ad (zu M 8 ((b0 * 3) + b1) b2) O)) F hK hP hD hS (2) 0 (by omega) cX_2 rfl (i := nI ((b0 * 3) + b1)) ((b0 * 3) + b1) rfl (by omega) (by decide) (cX_uprom (by omega) _) dX2_setPromise_43 (fun H locs hP hD hS => ?_)
  refine lv_iload hx hb dX2_setPromise_44 (lv_at hl 0 rfl) ?_
  rw [Nat.mul_comm b0 3] at hP hD
  refine vx_ret (mc := 3) (ms := 18) (W.widen (k := 3) (n := 18) (Nat.le_of_ble_eq_true rfl) (Nat.le_of_ble_eq_true rfl) ?_)
  exact W.iret (v := nI (M 8 ((b0 * 3) + b1))) hx hb hr (fun t ht hW => ⟨⟨nI (M 8 ((b0 * 3) + b1)), ad, rfl, ⟨x3_0 trivial ⟨c4, c5, c6⟩ trivial, by rw [Nat.mul_comm b0 3]⟩, ⟨⟨by rw [ht]; exact hP, va_K.moved hW.alike hK⟩, hD⟩, fun _ _ => rfl⟩, hS.F ht⟩) hS.2.2 dX2_setPromise_46
set_option maxRecDepth 100000 in
set_option maxHeartbeats 4000000 in
theorem c_X2_isCovered (l : Launch) (hfl : l.stackTraces = false) (sa : Nat → Nat) (D : va_G) (k : Nat → ClassId) (ad : Nat → Nat) (M : Nat → Nat → Nat) (O : Nat → Nat → Int32) (sz : Nat) (hI : zInv M) (p0 p1 p2 : Int32) : vx_Met l yX2_isCovered wsX2_isCovered ({ frames := 8, cells := 3, slots := 18, locals := 124 }) (va_Pc [.ref (ad 0), .int p0, .int p1, .int p2] (zPre D k ad M O sz sa)) (zQop D k ad M (M) (O) (va_A (zw (20 + 2 * M 0 1) ad (cX k ad M O)) sz) (x3 (zI 4 p0 ∧ zI 4 p1) (nI 0 ≤ p2 ∧ p2 ≤ nI 1000) (True)) (bI (cov M (ix p0) (ix p1) (ix p2)))) (zX (fun E => exC E (x3 (zI 4 p0 ∧ zI 4 p1) (nI 0 ≤ p2 ∧ p2 ≤ nI 1000) (True)))) 3 18 (va_A (zw (20 + 2 * M 0 1) ad (cX k ad M O)) sz) := by
  refine vx_ofW (cc := cX2_isCovered) (maxL := 5) (ret := (some .boolean)) (by decide) rfl ?_
  intro p e s m args below meth c s₁ B hml hnox hv
  obtain ⟨rfl, ⟨hsz, ⟨hP, hK⟩, hD0⟩, hE⟩ := hv
  have hx := B.exec
  have hb := B.bytes
  have hr := B.returns
  have hts := atoms_spec (ws := wsX2_isCovered) B.pre
  have hown : s.vm.findClass RX2 = some m.cls := findClass_of_methodNamed B.named
  have hlocks := B.notSynchronized
  have F : CallFix p m c cX2_isCovered 5 s _ wsX2_isCovered RX2 := ⟨hx, hb, hml, hown, hts⟩
  subst hsz
  have hD := hD0.self (sz := s.heap.size)
  generalize hAe : va_A (zw (20 + 2 * M 0 1) ad (cX k ad M O)) s.heap.size = A at hD hE ⊢
  have hA : ∀ q : Nat, s.heap.size ≤ q → A q := fun q h => by rw [← hAe]; exact Or.inr h
  have hS0 : va_S noA s.heap s.heap [] := va_S.rf
  obtain ⟨hI1, hI2, hI3, hI4, hI5, hI6, hI7⟩ := id hI
  have hl := lv_entry ([.ref (ad 0), .int p0, .int p1, .int p2]) (n := 5) (Nat.le_of_ble_eq_true rfl)
  rw [lg_entry_eq]
  generalize (lg_sl ([.ref (ad 0), .int p0, .int p1, .int p2]) ++ List.replicate (5 - (lg_sl ([.ref (ad 0), .int p0, .int p1, .int p2])).length) Slot.unset).toArray = ls at hl ⊢
  have hl : lv_has ls 5 [(0, .ref (ad 0)), (1, .int p0), (2, .int p1), (3, .int p2)] := hl
  refine lv_aload_n hx hb dX2_isCovered_0 rfl (lv_at hl 0 rfl) ?_
  refine lv_iload_n hx hb dX2_isCovered_1 rfl (lv_at hl 1 rfl) ?_
  refine z_xVq (qc := (RX2, TX2, 5)) (As := [.int p0]) (rest := []) (0) F (c_X2_siteAt l hfl sa D k ad M O p0) (cwV 1 hts gX2_isCovered_X2_siteAt rfl rfl rfl (by decide +kernel) ⟨Nat.le_of_ble_eq_true rfl, Nat.le_of_ble_eq_true rfl⟩) hK hP (by omega) cX_0 rfl hE hS0 hnox hlocks rfl hl.1 rfl (Nat.le_of_ble_eq_true rfl) dX2_isCovered_2 ⟨Nat.le_of_ble_eq_true rfl, Nat.le_of_ble_eq_true rfl⟩ (Nat.le_of_ble_eq_true rfl) (Nat.le_of_ble_eq_true rfl) (fun E hpx => by obtain ⟨rfl, zz1⟩ := hpx; exact exC_1 (fun zz2 => zz1 zz2.1)) (fun a9 ha9 H1 locs1 hz1 hk1 hS0 => ?_)
  replace hP := z_keptP hP hk1
  obtain ⟨i, hi, rfl, rfl⟩ := ha9
  try rw [ix_nI (show i < 2 ^ 31 by omega)]
  have xa : zI 4 (nI i) := ⟨i, hi, rfl⟩
  obtain ⟨hs, ho⟩ := hI3 i hi
  obtain ⟨hd1, hd2, hd3, hd4⟩ := id hs
  refine lv_astore (lv' := [(4, .ref (ad (4 + 4 * i))), (0, .ref (ad 0)), (1, .int (nI i)), (2, .int p1), (3, .int p2)]) hx hb dX2_isCovered_5 hl (by decide) rfl (fun ls hl => ?_)
  refine lv_iload_n hx hb dX2_isCovered_7 rfl (lv_at hl 3 rfl) ?_
  refine z_xS (As := [.int p1]) (rest := []) F (c_X2_checkKind l hfl sa p1) (va_cwS 1 hts gX2_isCovered_X2_checkKind rfl rfl rfl (by decide +kernel) ⟨Nat.le_of_ble_eq_true rfl, Nat.le_of_ble_eq_true rfl⟩) hE hS0 hnox hlocks rfl hl.1 rfl (Nat.le_of_ble_eq_true rfl) dX2_isCovered_8 ⟨Nat.le_of_ble_eq_true rfl, Nat.le_of_ble_eq_true rfl⟩ (Nat.le_of_ble_eq_true rfl) (Nat.le_of_ble_eq_true rfl) (fun E hpx => by obtain ⟨rfl, zz1⟩ := hpx; exact exC_1 (fun zz2 => zz1 zz2.2)) (fun c7 H1 locs1 hz1 hk1 hS0 => ?_)
  replace hP := z_keptP hP hk1
  obtain ⟨kd, hkd, rfl⟩ := id c7
  try rw [ix_nI (show kd < 2 ^ 31 by omega)]
  refine lv_iload_n hx hb dX2_isCovered_11 rfl (lv_at hl 4 rfl) ?_
  refine lv_iconst (v := nI 0) hx hb dX2_isCovered_12 (by decide) ?_
  refine lv_sipush (v := nI 1000) hx hb dX2_isCovered_13 (by decide) ?_
  refine z_xS (As := [.int p2, .int (nI 0), .int (nI 1000)]) (rest := []) F (c_X2_checkRange l hfl sa (p2) (nI 0) (nI 1000)) (va_cwS 3 hts gX2_isCovered_X2_checkRange rfl rfl rfl (by decide +kernel) ⟨Nat.le_of_ble_eq_true rfl, Nat.le_of_ble_eq_true rfl⟩) hE hS0 hnox hlocks rfl hl.1 rfl (Nat.le_of_ble_eq_true rfl) dX2_isCovered_16 ⟨Nat.le_of_ble_eq_true rfl, Nat.le_of_ble_eq_true rfl⟩ (Nat.le_of_ble_eq_true rfl) (Nat.le_of_ble_eq_true rfl) (fun E hpx => by obtain ⟨rfl, zz1⟩ := hpx; exact exC_2 ⟨xa, c7⟩ (fun zz2 => zz1 zz2)) (fun c8 H1 locs1 hz1 hk1 hS0 => ?_)
  replace hP := z_keptP hP hk1
  obtain ⟨b2, hb20, hb2, rfl⟩ := (zB_iff (by omega) (by decide)).mp c8
  try rw [ix_nI (show b2 < 2 ^ 31 by omega)]
  refine lv_aload hx hb dX2_isCovered_19 (lv_at hl 0 rfl) ?_
  refine lv_iload_n hx hb dX2_isCovered_21 rfl (lv_at hl 3 rfl) ?_
  refine lv_iload_n hx hb dX2_isCovered_22 rfl (lv_at hl 4 rfl) ?_
  refine z_cV (qc := (RX1, TX1, 9)) (As := [.int (nI kd), .int (nI b2)]) (rest := []) (4 + 4 * i) F (c_X1_covers l D k ad M O i hs ho kd b2 hi hkd (by omega)) (cwV 2 hts gX2_isCovered_X1_covers rfl rfl rfl (by decide +kernel) ⟨Nat.le_of_ble_eq_true rfl, Nat.le_of_ble_eq_true rfl⟩) hK hP (by have := hi; omega) (cX_s hi) rfl rfl hl.1 rfl (Nat.le_of_ble_eq_true rfl) dX2_isCovered_23 ⟨Nat.le_of_ble_eq_true rfl, Nat.le_of_ble_eq_true rfl⟩ (fun r hr => ?_)
  subst hr
  have hS := zS_mono (B := A) hS0 noA_le
  refine vx_ret (mc := 3) (ms := 18) (W.widen (k := 3) (n := 18) (Nat.le_of_ble_eq_true rfl) (Nat.le_of_ble_eq_true rfl) ?_)
  exact W.zret (v := bI (cov M i kd b2)) hx hb hr bI_n (fun t ht hW => ⟨⟨bI (cov M i kd b2), ad, rfl, ⟨x3_0 ⟨xa, c7⟩ c8 trivial, rfl⟩, ⟨⟨by rw [ht]; exact hP, va_K.moved hW.alike hK⟩, hD⟩, fun _ _ => rfl⟩, hS.F ht⟩) hS.2.2 dX2_isCovered_26
set_option maxRecDepth 100000 in
set_option maxHeartbeats 4000000 in
theorem c_X2_time (l : Launch) (hfl : l.stackTraces = false) (sa : Nat → Nat) (D : va_G) (k : Nat → ClassId) (ad : Nat → Nat) (M : Nat → Nat → Nat) (O : Nat → Nat → Int32) (sz : Nat) (hI : zInv M)  : vx_Met l yX2_time wsX2_time ({ frames := 0, cells := 0, slots := 0, locals := 0 }) (va_Pc [.ref (ad 0)] (zPre D k ad M O sz sa)) (zQop D k ad M (M) (O) (va_A (zw (20 + 2 * M 0 1) ad (cX k ad M O)) sz) (x3 (True) (True) (True)) (nI (M 0 0))) (zX (fun E => exC E (x3 (True) (True) (True)))) 0 0 (va_A (zw (20 + 2 * M 0 1) ad (cX k ad M O)) sz) := by
  refine vx_ofW (cc := cX2_time) (maxL := 1) (ret := (some .int)) (by decide) rfl ?_
  intro p e s m args below meth c s₁ B hml hnox hv
  obtain ⟨rfl, ⟨hsz, ⟨hP, hK⟩, hD0⟩, hE⟩ := hv
  have hx := B.exec
  have hb := B.bytes
  have hr := B.returns
  have hts := atoms_spec (ws := wsX2_time) B.pre
  have hown : s.vm.findClass RX2 = some m.cls := findClass_of_methodNamed B.named
  have hlocks := B.notSynchronized
  have F : CallFix p m c cX2_time 1 s _ wsX2_time RX2 := ⟨hx, hb, hml, hown, hts⟩
  subst hsz
  have hD := hD0.self (sz := s.heap.size)
  generalize hAe : va_A (zw (20 + 2 * M 0 1) ad (cX k ad M O)) s.heap.size = A at hD hE ⊢
  have hA : ∀ q : Nat, s.heap.size ≤ q → A q := fun q h => by rw [← hAe]; exact Or.inr h
  have hS0 : va_S noA s.heap s.heap [] := va_S.rf
  obtain ⟨hI1, hI2, hI3, hI4, hI5, hI6, hI7⟩ := id hI
  have hl := lv_entry ([.ref (ad 0)]) (n := 1) (Nat.le_of_ble_eq_true rfl)
  rw [lg_entry_eq]
  generalize (lg_sl ([.ref (ad 0)]) ++ List.replicate (1 - (lg_sl ([.ref (ad 0)])).length) Slot.unset).toArray = ls at hl ⊢
  have hl : lv_has ls 1 [(0, .ref (ad 0))] := hl
  have hi2 : ∀ w ∈ u_ws RX2 TX2 5, w ∈ wsX2_time := by decide +kernel
  refine lv_aload_n hx hb dX2_time_0 rfl (lv_at hl 0 rfl) ?_
  refine z_get (C := RX2) (T := TX2) (N := 5) (ci := 2) (v := .int (nI (M 0 0))) F hK hP hi2 rfl (0) 4 (by omega) cX_0 (by decide) rfl (by decide +kernel) dX2_time_1 ?_
  have hS := zS_mono (B := A) hS0 noA_le
  refine vx_ret (mc := 0) (ms := 0) (W.widen (k := 0) (n := 0) (Nat.le_of_ble_eq_true rfl) (Nat.le_of_ble_eq_true rfl) ?_)
  exact W.iret (v := nI (M 0 0)) hx hb hr (fun t ht hW => ⟨⟨nI (M 0 0), ad, rfl, ⟨x3_0 trivial trivial trivial, rfl⟩, ⟨⟨by rw [ht]; exact hP, va_K.moved hW.alike hK⟩, hD⟩, fun _ _ => rfl⟩, hS.F ht⟩) hS.2.2 dX2_time_4
set_option maxRecDepth 100000 in
set_option maxHeartbeats 4000000 in
theorem c_X2_hours (l : Launch) (hfl : l.stackTraces = false) (sa : Nat → Nat) (D : va_G) (k : Nat → ClassId) (ad : Nat → Nat) (M : Nat → Nat → Nat) (O : Nat → Nat → Int32) (sz : Nat) (hI : zInv M) (p0 p1 p2 : Int32) : vx_Met l yX2_hours wsX2_hours ({ frames := 8, cells := 3, slots := 18, locals := 124 }) (va_Pc [.ref (ad 0), .int p0, .int p1, .int p2] (zPre D k ad M O sz sa)) (zQop D k ad M (M) (O) (va_A (zw (20 + 2 * M 0 1) ad (cX k ad M O)) sz) (x3 (zI 4 p0) ((nI 0 ≤ p1 ∧ p1 ≤ nI 24000) ∧ (p1 ≤ p2 ∧ p2 ≤ nI 24000)) (True)) (nI (hN M (ix p0) (ix p2) - hN M (ix p0) (ix p1)))) (zX (fun E => exC E (x3 (zI 4 p0) ((nI 0 ≤ p1 ∧ p1 ≤ nI 24000) ∧ (p1 ≤ p2 ∧ p2 ≤ nI 24000)) (True)))) 3 18 (va_A (zw (20 + 2 * M 0 1) ad (cX k ad M O)) sz) := by
  refine vx_ofW (cc := cX2_hours) (maxL := 5) (ret := (some .int)) (by decide) rfl ?_
  intro p e s m args below meth c s₁ B hml hnox hv
  obtain ⟨rfl, ⟨hsz, ⟨hP, hK⟩, hD0⟩, hE⟩ := hv
  have hx := B.exec
  have hb := B.bytes
  have hr := B.returns
  have hts := atoms_spec (ws := wsX2_hours) B.pre
  have hown : s.vm.findClass RX2 = some m.cls := findClass_of_methodNamed B.named
  have hlocks := B.notSynchronized
  have F : CallFix p m c cX2_hours 5 s _ wsX2_hours RX2 := ⟨hx, hb, hml, hown, hts⟩
  subst hsz
  have hD := hD0.self (sz := s.heap.size)
  generalize hAe : va_A (zw (20 + 2 * M 0 1) ad (cX k ad M O)) s.heap.size = A at hD hE ⊢
  have hA : ∀ q : Nat, s.heap.size ≤ q → A q := fun q h => by rw [← hAe]; exact Or.inr h
  have hS0 : va_S noA s.heap s.heap [] := va_S.rf
  obtain ⟨hI1, hI2, hI3, hI4, hI5, hI6, hI7⟩ := id hI
  have hl := lv_entry ([.ref (ad 0), .int p0, .int p1, .int p2]) (n := 5) (Nat.le_of_ble_eq_true rfl)
  rw [lg_entry_eq]
  generalize (lg_sl ([.ref (ad 0), .int p0, .int p1, .int p2]) ++ List.replicate (5 - (lg_sl ([.ref (ad 0), .int p0, .int p1, .int p2])).length) Slot.unset).toArray = ls at hl ⊢
  have hl : lv_has ls 5 [(0, .ref (ad 0)), (1, .int p0), (2, .int p1), (3, .int p2)] := hl
  refine lv_aload_n hx hb dX2_hours_0 rfl (lv_at hl 0 rfl) ?_
  refine lv_iload_n hx hb dX2_hours_1 rfl (lv_at hl 1 rfl) ?_
  refine z_xVq (qc := (RX2, TX2, 5)) (As := [.int p0]) (rest := []) (0) F (c_X2_siteAt l hfl sa D k ad M O p0) (cwV 1 hts gX2_hours_X2_siteAt rfl rfl rfl (by decide +kernel) ⟨Nat.le_of_ble_eq_true rfl, Nat.le_of_ble_eq_true rfl⟩) hK hP (by omega) cX_0 rfl hE hS0 hnox hlocks rfl hl.1 rfl (Nat.le_of_ble_eq_true rfl) dX2_hours_2 ⟨Nat.le_of_ble_eq_true rfl, Nat.le_of_ble_eq_true rfl⟩ (Nat.le_of_ble_eq_true rfl) (Nat.le_of_ble_eq_true rfl) (fun E hpx => by obtain ⟨rfl, zz1⟩ := hpx; exact exC_1 (fun zz2 => zz1 zz2)) (fun a9 ha9 H1 locs1 hz1 hk1 hS0 => ?_)
  replace hP := z_keptP hP hk1
  obtain ⟨i, hi, rfl, rfl⟩ := ha9
  try rw [ix_nI (show i < 2 ^ 31 by omega)]
  have xa : zI 4 (nI i) := ⟨i, hi, rfl⟩
  obtain ⟨hs, ho⟩ := hI3 i hi
  obtain ⟨hd1, hd2, hd3, hd4⟩ := id hs
  refine lv_astore (lv' := [(4, .ref (ad (4 + 4 * i))), (0, .ref (ad 0)), (1, .int (nI i)), (2, .int p1), (3, .int p2)]) hx hb dX2_hours_5 hl (by decide) rfl (fun ls hl => ?_)
  refine lv_iload_n hx hb dX2_hours_7 rfl (lv_at hl 3 rfl) ?_
  refine lv_iconst (v := nI 0) hx hb dX2_hours_8 (by decide) ?_
  refine lv_sipush (v := nI 24000) hx hb dX2_hours_9 (by decide) ?_
  refine z_xS (As := [.int p1, .int (nI 0), .int (nI 24000)]) (rest := []) F (c_X2_checkRange l hfl sa (p1) (nI 0) (nI 24000)) (va_cwS 3 hts gX2_hours_X2_checkRange rfl rfl rfl (by decide +kernel) ⟨Nat.le_of_ble_eq_true rfl, Nat.le_of_ble_eq_true rfl⟩) hE hS0 hnox hlocks rfl hl.1 rfl (Nat.le_of_ble_eq_true rfl) dX2_hours_12 ⟨Nat.le_of_ble_eq_true rfl, Nat.le_of_ble_eq_true rfl⟩ (Nat.le_of_ble_eq_true rfl) (Nat.le_of_ble_eq_true rfl) (fun E hpx => by obtain ⟨rfl, zz1⟩ := hpx; exact exC_2 xa (fun zz2 => zz1 zz2.1)) (fun c9 H1 locs1 hz1 hk1 hS0 => ?_)
  replace hP := z_keptP hP hk1
  obtain ⟨b1, hb10, hb1, rfl⟩ := (zB_iff (by omega) (by decide)).mp c9
  try rw [ix_nI (show b1 < 2 ^ 31 by omega)]
  refine lv_iload_n hx hb dX2_hours_15 rfl (lv_at hl 4 rfl) ?_
  refine lv_iload_n hx hb dX2_hours_16 rfl (lv_at hl 3 rfl) ?_
  refine lv_sipush (v := nI 24000) hx hb dX2_hours_17 (by decide) ?_
  refine z_xS (As := [.int p2, .int (nI b1), .int (nI 24000)]) (rest := []) F (c_X2_checkRange l hfl sa (p2) (nI b1) (nI 24000)) (va_cwS 3 hts gX2_hours_X2_checkRange rfl rfl rfl (by decide +kernel) ⟨Nat.le_of_ble_eq_true rfl, Nat.le_of_ble_eq_true rfl⟩) hE hS0 hnox hlocks rfl hl.1 rfl (Nat.le_of_ble_eq_true rfl) dX2_hours_20 ⟨Nat.le_of_ble_eq_true rfl, Nat.le_of_ble_eq_true rfl⟩ (Nat.le_of_ble_eq_true rfl) (Nat.le_of_ble_eq_true rfl) (fun E hpx => by obtain ⟨rfl, zz1⟩ := hpx; exact exC_2 xa (fun zz2 => zz1 zz2.2)) (fun c10 H1 locs1 hz1 hk1 hS0 => ?_)
  replace hP := z_keptP hP hk1
  obtain ⟨b2, hb20, hb2, rfl⟩ := (zB_iff (by omega) (by decide)).mp c10
  try rw [ix_nI (show b2 < 2 ^ 31 by omega)]
  refine lv_aload hx hb dX2_hours_23 (lv_at hl 0 rfl) ?_
  refine lv_iload_n hx hb dX2_hours_25 rfl (lv_at hl 3 rfl) ?_
  refine lv_iload_n hx hb dX2_hours_26 rfl (lv_at hl 4 rfl) ?_
  refine z_cV (qc := (RX1, TX1, 9)) (As := [.int (nI b1), .int (nI b2)]) (rest := []) (4 + 4 * i) F (c_X1_countHours l D k ad M O i hs b1 b2 hi (by omega) (by omega)) (cwV 2 hts gX2_hours_X1_countHours rfl rfl rfl (by decide +kernel) ⟨Nat.le_of_ble_eq_true rfl, Nat.le_of_ble_eq_true rfl⟩) hK hP (by have := hi; omega) (cX_s hi) rfl rfl hl.1 rfl (Nat.le_of_ble_eq_true rfl) dX2_hours_27 ⟨Nat.le_of_ble_eq_true rfl, Nat.le_of_ble_eq_true rfl⟩ (fun r hr => ?_)
  subst hr
  have hS := zS_mono (B := A) hS0 noA_le
  refine vx_ret (mc := 3) (ms := 18) (W.widen (k := 3) (n := 18) (Nat.le_of_ble_eq_true rfl) (Nat.le_of_ble_eq_true rfl) ?_)
  exact W.iret (v := nI (hN M i b2 - hN M i b1)) hx hb hr (fun t ht hW => ⟨⟨nI (hN M i b2 - hN M i b1), ad, rfl, ⟨x3_0 xa ⟨c9, c10⟩ trivial, rfl⟩, ⟨⟨by rw [ht]; exact hP, va_K.moved hW.alike hK⟩, hD⟩, fun _ _ => rfl⟩, hS.F ht⟩) hS.2.2 dX2_hours_30
set_option maxRecDepth 100000 in
set_option maxHeartbeats 4000000 in
theorem c_X2_ahead (l : Launch) (hfl : l.stackTraces = false) (sa : Nat → Nat) (D : va_G) (k : Nat → ClassId) (ad : Nat → Nat) (M : Nat → Nat → Nat) (O : Nat → Nat → Int32) (sz : Nat) (hI : zInv M) (p0 : Int32) : vx_Met l yX2_ahead wsX2_ahead ({ frames := 7, cells := 1, slots := 6, locals := 104 }) (va_Pc [.ref (ad 0), .int p0] (zPre D k ad M O sz sa)) (zQop D k ad M (M) (O) (va_A (zw (20 + 2 * M 0 1) ad (cX k ad M O)) sz) (x3 (zI 4 p0) (True) (True)) (O 0 (ix p0))) (zX (fun E => exC E (x3 (zI 4 p0) (True) (True)))) 1 6 (va_A (zw (20 + 2 * M 0 1) ad (cX k ad M O)) sz) := by
  refine vx_ofW (cc := cX2_ahead) (maxL := 2) (ret := (some .int)) (by decide) rfl ?_
  intro p e s m args below meth c s₁ B hml hnox hv
  obtain ⟨rfl, ⟨hsz, ⟨hP, hK⟩, hD0⟩, hE⟩ := hv
  have hx := B.exec
  have hb := B.bytes
  have hr := B.returns
  have hts := atoms_spec (ws := wsX2_ahead) B.pre
  have hown : s.vm.findClass RX2 = some m.cls := findClass_of_methodNamed B.named
  have hlocks := B.notSynchronized
  have F : CallFix p m c cX2_ahead 2 s _ wsX2_ahead RX2 := ⟨hx, hb, hml, hown, hts⟩
  subst hsz
  have hD := hD0.self (sz := s.heap.size)
  generalize hAe : va_A (zw (20 + 2 * M 0 1) ad (cX k ad M O)) s.heap.size = A at hD hE ⊢
  have hA : ∀ q : Nat, s.heap.size ≤ q → A q := fun q h => by rw [← hAe]; exact Or.inr h
  have hS0 : va_S noA s.heap s.heap [] := va_S.rf
  obtain ⟨hI1, hI2, hI3, hI4, hI5, hI6, hI7⟩ := id hI
  have hl := lv_entry ([.ref (ad 0), .int p0]) (n := 2) (Nat.le_of_ble_eq_true rfl)
  rw [lg_entry_eq]
  generalize (lg_sl ([.ref (ad 0), .int p0]) ++ List.replicate (2 - (lg_sl ([.ref (ad 0), .int p0])).length) Slot.unset).toArray = ls at hl ⊢
  have hl : lv_has ls 2 [(0, .ref (ad 0)), (1, .int p0)] := hl
  have hi1 : ∀ w ∈ u_ws RX1 TX1 9, w ∈ wsX2_ahead := by decide +kernel
  refine lv_aload_n hx hb dX2_ahead_0 rfl (lv_at hl 0 rfl) ?_
  refine lv_iload_n hx hb dX2_ahead_1 rfl (lv_at hl 1 rfl) ?_
  refine z_xVq (qc := (RX2, TX2, 5)) (As := [.int p0]) (rest := []) (0) F (c_X2_siteAt l hfl sa D k ad M O p0) (cwV 1 hts gX2_ahead_X2_siteAt rfl rfl rfl (by decide +kernel) ⟨Nat.le_of_ble_eq_true rfl, Nat.le_of_ble_eq_true rfl⟩) hK hP (by omega) cX_0 rfl hE hS0 hnox hlocks rfl hl.1 rfl (Nat.le_of_ble_eq_true rfl) dX2_ahead_2 ⟨Nat.le_of_ble_eq_true rfl, Nat.le_of_ble_eq_true rfl⟩ (Nat.le_of_ble_eq_true rfl) (Nat.le_of_ble_eq_true rfl) (fun E hpx => by obtain ⟨rfl, zz1⟩ := hpx; exact exC_1 (fun zz2 => zz1 zz2)) (fun a9 ha9 H1 locs1 hz1 hk1 hS0 => ?_)
  replace hP := z_keptP hP hk1
  obtain ⟨i, hi, rfl, rfl⟩ := ha9
  try rw [ix_nI (show i < 2 ^ 31 by omega)]
  have xa : zI 4 (nI i) := ⟨i, hi, rfl⟩
  obtain ⟨hs, ho⟩ := hI3 i hi
  obtain ⟨hd1, hd2, hd3, hd4⟩ := id hs
  refine z_get (C := RX1) (T := TX1) (N := 9) (ci := 1) (v := .int (O 0 i)) F hK hP hi1 rfl (4 + 4 * i) 7 (by have := hi; omega) (cX_s hi) (by decide) rfl (by decide +kernel) dX2_ahead_5 ?_
  have hS := zS_mono (B := A) hS0 noA_le
  refine vx_ret (mc := 1) (ms := 6) (W.widen (k := 1) (n := 6) (Nat.le_of_ble_eq_true rfl) (Nat.le_of_ble_eq_true rfl) ?_)
  exact W.iret (v := O 0 i) hx hb hr (fun t ht hW => ⟨⟨O 0 i, ad, rfl, ⟨x3_0 xa trivial trivial, rfl⟩, ⟨⟨by rw [ht]; exact hP, va_K.moved hW.alike hK⟩, hD⟩, fun _ _ => rfl⟩, hS.F ht⟩) hS.2.2 dX2_ahead_8
set_option maxRecDepth 100000 in
set_option maxHeartbeats 4000000 in
theorem c_X2_owes (l : Launch) (hfl : l.stackTraces = false) (sa : Nat → Nat) (D : va_G) (k : Nat → ClassId) (ad : Nat → Nat) (M : Nat → Nat → Nat) (O : Nat → Nat → Int32) (sz : Nat) (hI : zInv M) (p0 : Int32) : vx_Met l yX2_owes wsX2_owes ({ frames := 7, cells := 1, slots := 6, locals := 104 }) (va_Pc [.ref (ad 0), .int p0] (zPre D k ad M O sz sa)) (zQop D k ad M (M) (O) (va_A (zw (20 + 2 * M 0 1) ad (cX k ad M O)) sz) (x3 (zI 4 p0) (True) (True)) (O 1 (ix p0))) (zX (fun E => exC E (x3 (zI 4 p0) (True) (True)))) 1 6 (va_A (zw (20 + 2 * M 0 1) ad (cX k ad M O)) sz) := by
  refine vx_ofW (cc := cX2_owes) (maxL := 2) (ret := (some .int)) (by decide) rfl ?_
  intro p e s m args below meth c s₁ B hml hnox hv
  obtain ⟨rfl, ⟨hsz, ⟨hP, hK⟩, hD0⟩, hE⟩ := hv
  have hx := B.exec
  have hb := B.bytes
  have hr := B.returns
  have hts := atoms_spec (ws := wsX2_owes) B.pre
  have hown : s.vm.findClass RX2 = some m.cls := findClass_of_methodNamed B.named
  have hlocks := B.notSynchronized
  have F : CallFix p m c cX2_owes 2 s _ wsX2_owes RX2 := ⟨hx, hb, hml, hown, hts⟩
  subst hsz
  have hD := hD0.self (sz := s.heap.size)
  generalize hAe : va_A (zw (20 + 2 * M 0 1) ad (cX k ad M O)) s.heap.size = A at hD hE ⊢
  have hA : ∀ q : Nat, s.heap.size ≤ q → A q := fun q h => by rw [← hAe]; exact Or.inr h
  have hS0 : va_S noA s.heap s.heap [] := va_S.rf
  obtain ⟨hI1, hI2, hI3, hI4, hI5, hI6, hI7⟩ := id hI
  have hl := lv_entry ([.ref (ad 0), .int p0]) (n := 2) (Nat.le_of_ble_eq_true rfl)
  rw [lg_entry_eq]
  generalize (lg_sl ([.ref (ad 0), .int p0]) ++ List.replicate (2 - (lg_sl ([.ref (ad 0), .int p0])).length) Slot.unset).toArray = ls at hl ⊢
  have hl : lv_has ls 2 [(0, .ref (ad 0)), (1, .int p0)] := hl
  have hi1 : ∀ w ∈ u_ws RX1 TX1 9, w ∈ wsX2_owes := by decide +kernel
  refine lv_aload_n hx hb dX2_owes_0 rfl (lv_at hl 0 rfl) ?_
  refine lv_iload_n hx hb dX2_owes_1 rfl (lv_at hl 1 rfl) ?_
  refine z_xVq (qc := (RX2, TX2, 5)) (As := [.int p0]) (rest := []) (0) F (c_X2_siteAt l hfl sa D k ad M O p0) (cwV 1 hts gX2_owes_X2_siteAt rfl rfl rfl (by decide +kernel) ⟨Nat.le_of_ble_eq_true rfl, Nat.le_of_ble_eq_true rfl⟩) hK hP (by omega) cX_0 rfl hE hS0 hnox hlocks rfl hl.1 rfl (Nat.le_of_ble_eq_true rfl) dX2_owes_2 ⟨Nat.le_of_ble_eq_true rfl, Nat.le_of_ble_eq_true rfl⟩ (Nat.le_of_ble_eq_true rfl) (Nat.le_of_ble_eq_true rfl) (fun E hpx => by obtain ⟨rfl, zz1⟩ := hpx; exact exC_1 (fun zz2 => zz1 zz2)) (fun a9 ha9 H1 locs1 hz1 hk1 hS0 => ?_)
  replace hP := z_keptP hP hk1
  obtain ⟨i, hi, rfl, rfl⟩ := ha9
  try rw [ix_nI (show i < 2 ^ 31 by omega)]
  have xa : zI 4 (nI i) := ⟨i, hi, rfl⟩
  obtain ⟨hs, ho⟩ := hI3 i hi
  obtain ⟨hd1, hd2, hd3, hd4⟩ := id hs
  refine z_get (C := RX1) (T := TX1) (N := 9) (ci := 1) (v := .int (O 1 i)) F hK hP hi1 rfl (4 + 4 * i) 8 (by have := hi; omega) (cX_s hi) (by decide) rfl (by decide +kernel) dX2_owes_5 ?_
  have hS := zS_mono (B := A) hS0 noA_le
  refine vx_ret (mc := 1) (ms := 6) (W.widen (k := 1) (n := 6) (Nat.le_of_ble_eq_true rfl) (Nat.le_of_ble_eq_true rfl) ?_)
  exact W.iret (v := O 1 i) hx hb hr (fun t ht hW => ⟨⟨O 1 i, ad, rfl, ⟨x3_0 xa trivial trivial, rfl⟩, ⟨⟨by rw [ht]; exact hP, va_K.moved hW.alike hK⟩, hD⟩, fun _ _ => rfl⟩, hS.F ht⟩) hS.2.2 dX2_owes_8
set_option maxRecDepth 100000 in
set_option maxHeartbeats 4000000 in
theorem c_X2_buy (l : Launch) (hfl : l.stackTraces = false) (sa : Nat → Nat) (D : va_G) (k : Nat → ClassId) (ad : Nat → Nat) (M : Nat → Nat → Nat) (O : Nat → Nat → Int32) (sz : Nat) (hI : zInv M) (p0 p1 : Int32) : vx_Met l yX2_buy wsX2_buy ({ frames := 8, cells := 2, slots := 12, locals := 124 }) (va_Pc [.ref (ad 0), .int p0, .int p1] (zPre D k ad M O sz sa)) (zQop D k ad M (M) (zo (zo O 0 (ix p0) (O 0 (ix p0) + nI (ix p1))) 1 (ix p0) (O 1 (ix p0) + nI (ix p1 * 7000))) (va_A (zw (20 + 2 * M 0 1) ad (cX k ad M O)) sz) (x3 (zI 4 p0) (nI 1 ≤ p1 ∧ p1 ≤ nI 100) (True)) (O 0 (ix p0) + nI (ix p1))) (zX (fun E => exC E (x3 (zI 4 p0) (nI 1 ≤ p1 ∧ p1 ≤ nI 100) (True)))) 2 12 (va_A (zw (20 + 2 * M 0 1) ad (cX k ad M O)) sz) := by
  refine vx_ofW (cc := cX2_buy) (maxL := 4) (ret := (some .int)) (by decide) rfl ?_
  intro p e s m args below meth c s₁ B hml hnox hv
  obtain ⟨rfl, ⟨hsz, ⟨hP, hK⟩, hD0⟩, hE⟩ := hv
  have hx := B.exec
  have hb := B.bytes
  have hr := B.returns
  have hts := atoms_spec (ws := wsX2_buy) B.pre
  have hown : s.vm.findClass RX2 = some m.cls := findClass_of_methodNamed B.named
  have hlocks := B.notSynchronized
  have F : CallFix p m c cX2_buy 4 s _ wsX2_buy RX2 := ⟨hx, hb, hml, hown, hts⟩
  subst hsz
  have hD := hD0.self (sz := s.heap.size)
  generalize hAe : va_A (zw (20 + 2 * M 0 1) ad (cX k ad M O)) s.heap.size = A at hD hE ⊢
  have hA : ∀ q : Nat, s.heap.size ≤ q → A q := fun q h => by rw [← hAe]; exact Or.inr h
  have hS0 : va_S noA s.heap s.heap [] := va_S.rf
  obtain ⟨hI1, hI2, hI3, hI4, hI5, hI6, hI7⟩ := id hI
  have hl := lv_entry ([.ref (ad 0), .int p0, .int p1]) (n := 4) (Nat.le_of_ble_eq_true rfl)
  rw [lg_entry_eq]
  generalize (lg_sl ([.ref (ad 0), .int p0, .int p1]) ++ List.replicate (4 - (lg_sl ([.ref (ad 0), .int p0, .int p1])).length) Slot.unset).toArray = ls at hl ⊢
  have hl : lv_has ls 4 [(0, .ref (ad 0)), (1, .int p0), (2, .int p1)] := hl
  have hi1 : ∀ w ∈ u_ws RX1 TX1 9, w ∈ wsX2_buy := by decide +kernel
  refine lv_aload_n hx hb dX2_buy_0 rfl (lv_at hl 0 rfl) ?_
  refine lv_iload_n hx hb dX2_buy_1 rfl (lv_at hl 1 rfl) ?_
  refine z_xVq (qc := (RX2, TX2, 5)) (As := [.int p0]) (rest := []) (0) F (c_X2_siteAt l hfl sa D k ad M O p0) (cwV 1 hts gX2_buy_X2_siteAt rfl rfl rfl (by decide +kernel) ⟨Nat.le_of_ble_eq_true rfl, Nat.le_of_ble_eq_true rfl⟩) hK hP (by omega) cX_0 rfl hE hS0 hnox hlocks rfl hl.1 rfl (Nat.le_of_ble_eq_true rfl) dX2_buy_2 ⟨Nat.le_of_ble_eq_true rfl, Nat.le_of_ble_eq_true rfl⟩ (Nat.le_of_ble_eq_true rfl) (Nat.le_of_ble_eq_true rfl) (fun E hpx => by obtain ⟨rfl, zz1⟩ := hpx; exact exC_1 (fun zz2 => zz1 zz2)) (fun a9 ha9 H1 locs1 hz1 hk1 hS0 => ?_)
  replace hP := z_keptP hP hk1
  obtain ⟨i, hi, rfl, rfl⟩ := ha9
  try rw [ix_nI (show i < 2 ^ 31 by omega)]
  have xa : zI 4 (nI i) := ⟨i, hi, rfl⟩
  obtain ⟨hs, ho⟩ := hI3 i hi
  obtain ⟨hd1, hd2, hd3, hd4⟩ := id hs
  refine lv_astore_n (lv' := [(3, .ref (ad (4 + 4 * i))), (0, .ref (ad 0)), (1, .int (nI i)), (2, .int p1)]) hx hb dX2_buy_5 rfl hl (by decide) rfl (fun ls hl => ?_)
  refine lv_iload_n hx hb dX2_buy_6 rfl (lv_at hl 3 rfl) ?_
  refine lv_iconst (v := nI 1) hx hb dX2_buy_7 (by decide) ?_
  refine lv_bipush (v := nI 100) hx hb dX2_buy_8 (by decide) ?_
  refine z_xS (As := [.int p1, .int (nI 1), .int (nI 100)]) (rest := []) F (c_X2_checkRange l hfl sa (p1) (nI 1) (nI 100)) (va_cwS 3 hts gX2_buy_X2_checkRange rfl rfl rfl (by decide +kernel) ⟨Nat.le_of_ble_eq_true rfl, Nat.le_of_ble_eq_true rfl⟩) hE hS0 hnox hlocks rfl hl.1 rfl (Nat.le_of_ble_eq_true rfl) dX2_buy_10 ⟨Nat.le_of_ble_eq_true rfl, Nat.le_of_ble_eq_true rfl⟩ (Nat.le_of_ble_eq_true rfl) (Nat.le_of_ble_eq_true rfl) (fun E hpx => by obtain ⟨rfl, zz1⟩ := hpx; exact exC_2 xa (fun zz2 => zz1 zz2)) (fun c11 H1 locs1 hz1 hk1 hS0 => ?_)
  replace hP := z_keptP hP hk1
  obtain ⟨b1, hb10, hb1, rfl⟩ := (zB_iff (by omega) (by decide)).mp c11
  try rw [ix_nI (show b1 < 2 ^ 31 by omega)]
  have hS := zS_mono (B := A) hS0 noA_le
  refine lv_aload_n hx hb dX2_buy_13 rfl (lv_at hl 0 rfl) ?_
  refine lv_dup hx hb dX2_buy_14 rfl ?_
  refine z_get (C := RX1) (T := TX1) (N := 9) (ci := 1) (v := .int (O 0 i)) F hK hP hi1 rfl (4 + 4 * i) 7 (by have := hi; omega) (cX_s hi) (by decide) rfl (by decide +kernel) dX2_buy_15 ?_
  refine lv_iload_n hx hb dX2_buy_18 rfl (lv_at hl 3 rfl) ?_
  refine lv_iadd hx hb dX2_buy_19 ?_
  refine z_put (C := RX1) (T := TX1) (N := 9) (ci := 1) (f' := (cX k ad M (zo O 0 i ((O 0 i) + (nI b1))))) F hK hP hD hS hi1 rfl tyX1 tyX1_ok nmX1 (4 + 4 * i) 7 (by have := hi; omega) (cX_s hi) (by decide) (Nat.le_of_ble_eq_true rfl) (by decide +kernel) rfl rfl rfl rfl (cX_uahead hi _) dX2_buy_20 (fun H locs hP hD hS => ?_)
  refine lv_aload_n hx hb dX2_buy_23 rfl (lv_at hl 0 rfl) ?_
  refine lv_dup hx hb dX2_buy_24 rfl ?_
  refine z_get (C := RX1) (T := TX1) (N := 9) (ci := 1) (v := .int ((zo O 0 i ((O 0 i) + (nI b1))) 1 i)) F hK hP hi1 rfl (4 + 4 * i) 8 (by have := hi; omega) (cX_s hi) (by decide) rfl (by decide +kernel) dX2_buy_25 ?_
  refine lv_iload_n hx hb dX2_buy_28 rfl (lv_at hl 3 rfl) ?_
  refine lv_sipush (v := nI 7000) hx hb dX2_buy_29 (by decide) ?_
  refine z_mul F dX2_buy_32 ?_
  refine lv_iadd hx hb dX2_buy_33 ?_
  refine z_put (C := RX1) (T := TX1) (N := 9) (ci := 1) (f' := (cX k ad M (zo (zo O 0 i ((O 0 i) + (nI b1))) 1 i (((zo O 0 i ((O 0 i) + (nI b1))) 1 i) + (nI (b1 * 7000)))))) F hK hP hD hS hi1 rfl tyX1 tyX1_ok nmX1 (4 + 4 * i) 8 (by have := hi; omega) (cX_s hi) (by decide) (Nat.le_of_ble_eq_true rfl) (by decide +kernel) rfl rfl rfl rfl (cX_uowes hi _) dX2_buy_34 (fun H locs hP hD hS => ?_)
  refine lv_aload_n hx hb dX2_buy_37 rfl (lv_at hl 0 rfl) ?_
  refine z_get (C := RX1) (T := TX1) (N := 9) (ci := 1) (v := .int ((zo (zo O 0 i ((O 0 i) + (nI b1))) 1 i (((zo O 0 i ((O 0 i) + (nI b1))) 1 i) + (nI (b1 * 7000)))) 0 i)) F hK hP hi1 rfl (4 + 4 * i) 7 (by have := hi; omega) (cX_s hi) (by decide) rfl (by decide +kernel) dX2_buy_38 ?_
  refine vx_ret (mc := 2) (ms := 12) (W.widen (k := 2) (n := 12) (Nat.le_of_ble_eq_true rfl) (Nat.le_of_ble_eq_true rfl) ?_)
  exact W.iret (v := (zo (zo O 0 i ((O 0 i) + (nI b1))) 1 i (((zo O 0 i ((O 0 i) + (nI b1))) 1 i) + (nI (b1 * 7000)))) 0 i) hx hb hr (fun t ht hW => ⟨⟨(zo (zo O 0 i ((O 0 i) + (nI b1))) 1 i (((zo O 0 i ((O 0 i) + (nI b1))) 1 i) + (nI (b1 * 7000)))) 0 i, ad, rfl, ⟨x3_0 xa c11 trivial, by rw [zo_r _ _ _ _ (by decide), zo_s]⟩, ⟨⟨by rw [ht]; exact hP, va_K.moved hW.alike hK⟩, hD⟩, fun _ _ => rfl⟩, hS.F ht⟩) hS.2.2 dX2_buy_41
set_option maxRecDepth 100000 in
set_option maxHeartbeats 4000000 in
theorem c_X2_stateOf (l : Launch) (hfl : l.stackTraces = false) (sa : Nat → Nat) (D : va_G) (k : Nat → ClassId) (ad : Nat → Nat) (M : Nat → Nat → Nat) (O : Nat → Nat → Int32) (sz : Nat) (hI : zInv M) (p0 : Int32) : vx_Met l yX2_stateOf wsX2_stateOf ({ frames := 7, cells := 1, slots := 6, locals := 104 }) (va_Pc [.ref (ad 0), .int p0] (zPre D k ad M O sz sa)) (zQop D k ad M (M) (O) (va_A (zw (20 + 2 * M 0 1) ad (cX k ad M O)) sz) (x3 (zI (M 0 1) p0) (True) (True)) (nI (M 12 (ix p0)))) (zX (fun E => exC E (x3 (zI (M 0 1) p0) (True) (True)))) 1 6 (va_A (zw (20 + 2 * M 0 1) ad (cX k ad M O)) sz) := by
  refine vx_ofW (cc := cX2_stateOf) (maxL := 2) (ret := (some .int)) (by decide) rfl ?_
  intro p e s m args below meth c s₁ B hml hnox hv
  obtain ⟨rfl, ⟨hsz, ⟨hP, hK⟩, hD0⟩, hE⟩ := hv
  have hx := B.exec
  have hb := B.bytes
  have hr := B.returns
  have hts := atoms_spec (ws := wsX2_stateOf) B.pre
  have hown : s.vm.findClass RX2 = some m.cls := findClass_of_methodNamed B.named
  have hlocks := B.notSynchronized
  have F : CallFix p m c cX2_stateOf 2 s _ wsX2_stateOf RX2 := ⟨hx, hb, hml, hown, hts⟩
  subst hsz
  have hD := hD0.self (sz := s.heap.size)
  generalize hAe : va_A (zw (20 + 2 * M 0 1) ad (cX k ad M O)) s.heap.size = A at hD hE ⊢
  have hA : ∀ q : Nat, s.heap.size ≤ q → A q := fun q h => by rw [← hAe]; exact Or.inr h
  have hS0 : va_S noA s.heap s.heap [] := va_S.rf
  obtain ⟨hI1, hI2, hI3, hI4, hI5, hI6, hI7⟩ := id hI
  have hl := lv_entry ([.ref (ad 0), .int p0]) (n := 2) (Nat.le_of_ble_eq_true rfl)
  rw [lg_entry_eq]
  generalize (lg_sl ([.ref (ad 0), .int p0]) ++ List.replicate (2 - (lg_sl ([.ref (ad 0), .int p0])).length) Slot.unset).toArray = ls at hl ⊢
  have hl : lv_has ls 2 [(0, .ref (ad 0)), (1, .int p0)] := hl
  have hi0 : ∀ w ∈ u_ws RX0 TX0 8, w ∈ wsX2_stateOf := by decide +kernel
  refine lv_aload_n hx hb dX2_stateOf_0 rfl (lv_at hl 0 rfl) ?_
  refine lv_iload_n hx hb dX2_stateOf_1 rfl (lv_at hl 1 rfl) ?_
  refine z_xVq (qc := (RX2, TX2, 5)) (As := [.int p0]) (rest := []) (0) F (c_X2_caseAt l hfl sa D k ad M O hI2 p0) (cwV 1 hts gX2_stateOf_X2_caseAt rfl rfl rfl (by decide +kernel) ⟨Nat.le_of_ble_eq_true rfl, Nat.le_of_ble_eq_true rfl⟩) hK hP (by omega) cX_0 rfl hE hS0 hnox hlocks rfl hl.1 rfl (Nat.le_of_ble_eq_true rfl) dX2_stateOf_2 ⟨Nat.le_of_ble_eq_true rfl, Nat.le_of_ble_eq_true rfl⟩ (Nat.le_of_ble_eq_true rfl) (Nat.le_of_ble_eq_true rfl) (fun E hpx => by obtain ⟨rfl, zz1⟩ := hpx; exact exC_1 (fun zz2 => zz1 zz2)) (fun a9 ha9 H1 locs1 hz1 hk1 hS0 => ?_)
  replace hP := z_keptP hP hk1
  obtain ⟨i, hi, rfl, rfl⟩ := ha9
  try rw [ix_nI (show i < 2 ^ 31 by omega)]
  have xa : zI (M 0 1) (nI i) := ⟨i, hi, rfl⟩
  have hz := hI5 i hi
  obtain ⟨hc1, hc2, hc3, hc4, hc5, hc6, hc7⟩ := id hz
  refine z_get (C := RX0) (T := TX0) (N := 8) (ci := 0) (v := .int (nI (M 12 i))) F hK hP hi0 rfl (20 + 2 * i) 3 (show 20 + 2 * i < 20 + 2 * M 0 1 by have := hi; omega) cX_c (by decide) rfl (by decide +kernel) dX2_stateOf_5 ?_
  have hS := zS_mono (B := A) hS0 noA_le
  refine vx_ret (mc := 1) (ms := 6) (W.widen (k := 1) (n := 6) (Nat.le_of_ble_eq_true rfl) (Nat.le_of_ble_eq_true rfl) ?_)
  exact W.iret (v := nI (M 12 i)) hx hb hr (fun t ht hW => ⟨⟨nI (M 12 i), ad, rfl, ⟨x3_0 xa trivial trivial, rfl⟩, ⟨⟨by rw [ht]; exact hP, va_K.moved hW.alike hK⟩, hD⟩, fun _ _ => rfl⟩, hS.F ht⟩) hS.2.2 dX2_stateOf_8
set_option maxRecDepth 100000 in
set_option maxHeartbeats 4000000 in
theorem c_X2_clock (l : Launch) (hfl : l.stackTraces = false) (sa : Nat → Nat) (D : va_G) (k : Nat → ClassId) (ad : Nat → Nat) (M : Nat → Nat → Nat) (O : Nat → Nat → Int32) (sz : Nat) (hI : zInv M) (p0 p1 : Int32) : vx_Met l yX2_clock wsX2_clock ({ frames := 8, cells := 2, slots := 12, locals := 124 }) (va_Pc [.ref (ad 0), .int p0, .int p1] (zPre D k ad M O sz sa)) (zQop D k ad M (M) (O) (va_A (zw (20 + 2 * M 0 1) ad (cX k ad M O)) sz) (x3 (zI (M 0 1) p0) (nI 0 ≤ p1 ∧ p1 ≤ nI 2) (True)) (nI (M 15 (3 * ix p0 + ix p1)))) (zX (fun E => exC E (x3 (zI (M 0 1) p0) (nI 0 ≤ p1 ∧ p1 ≤ nI 2) (True)))) 2 12 (va_A (zw (20 + 2 * M 0 1) ad (cX k ad M O)) sz) := by
  refine vx_ofW (cc := cX2_clock) (maxL := 4) (ret := (some .int)) (by decide) rfl ?_
  intro p e s m args below meth c s₁ B hml hnox hv
  obtain ⟨rfl, ⟨hsz, ⟨hP, hK⟩, hD0⟩, hE⟩ := hv
  have hx := B.exec
  have hb := B.bytes
  have hr := B.returns
  have hts := atoms_spec (ws := wsX2_clock) B.pre
  have hown : s.vm.findClass RX2 = some m.cls := findClass_of_methodNamed B.named
  have hlocks := B.notSynchronized
  have F : CallFix p m c cX2_clock 4 s _ wsX2_clock RX2 := ⟨hx, hb, hml, hown, hts⟩
  subst hsz
  have hD := hD0.self (sz := s.heap.size)
  generalize hAe : va_A (zw (20 + 2 * M 0 1) ad (cX k ad M O)) s.heap.size = A at hD hE ⊢
  have hA : ∀ q : Nat, s.heap.size ≤ q → A q := fun q h => by rw [← hAe]; exact Or.inr h
  have hS0 : va_S noA s.heap s.heap [] := va_S.rf
  obtain ⟨hI1, hI2, hI3, hI4, hI5, hI6, hI7⟩ := id hI
  have hl := lv_entry ([.ref (ad 0), .int p0, .int p1]) (n := 4) (Nat.le_of_ble_eq_true rfl)
  rw [lg_entry_eq]
  generalize (lg_sl ([.ref (ad 0), .int p0, .int p1]) ++ List.replicate (4 - (lg_sl ([.ref (ad 0), .int p0, .int p1])).length) Slot.unset).toArray = ls at hl ⊢
  have hl : lv_has ls 4 [(0, .ref (ad 0)), (1, .int p0), (2, .int p1)] := hl
  have hi0 : ∀ w ∈ u_ws RX0 TX0 8, w ∈ wsX2_clock := by decide +kernel
  refine lv_aload_n hx hb dX2_clock_0 rfl (lv_at hl 0 rfl) ?_
  refine lv_iload_n hx hb dX2_clock_1 rfl (lv_at hl 1 rfl) ?_
  refine z_xVq (qc := (RX2, TX2, 5)) (As := [.int p0]) (rest := []) (0) F (c_X2_caseAt l hfl sa D k ad M O hI2 p0) (cwV 1 hts gX2_clock_X2_caseAt rfl rfl rfl (by decide +kernel) ⟨Nat.le_of_ble_eq_true rfl, Nat.le_of_ble_eq_true rfl⟩) hK hP (by omega) cX_0 rfl hE hS0 hnox hlocks rfl hl.1 rfl (Nat.le_of_ble_eq_true rfl) dX2_clock_2 ⟨Nat.le_of_ble_eq_true rfl, Nat.le_of_ble_eq_true rfl⟩ (Nat.le_of_ble_eq_true rfl) (Nat.le_of_ble_eq_true rfl) (fun E hpx => by obtain ⟨rfl, zz1⟩ := hpx; exact exC_1 (fun zz2 => zz1 zz2)) (fun a9 ha9 H1 locs1 hz1 hk1 hS0 => ?_)
  replace hP := z_keptP hP hk1
  obtain ⟨i, hi, rfl, rfl⟩ := ha9
  try rw [ix_nI (show i < 2 ^ 31 by omega)]
  have xa : zI (M 0 1) (nI i) := ⟨i, hi, rfl⟩
  have hz := hI5 i hi
  obtain ⟨hc1, hc2, hc3, hc4, hc5, hc6, hc7⟩ := id hz
  refine lv_astore_n (lv' := [(3, .ref (ad (20 + 2 * i))), (0, .ref (ad 0)), (1, .int (nI i)), (2, .int p1)]) hx hb dX2_clock_5 rfl hl (by decide) rfl (fun ls hl => ?_)
  refine lv_iload_n hx hb dX2_clock_6 rfl (lv_at hl 3 rfl) ?_
  refine lv_iconst (v := nI 0) hx hb dX2_clock_7 (by decide) ?_
  refine lv_iconst (v := nI 2) hx hb dX2_clock_8 (by decide) ?_
  refine z_xS (As := [.int p1, .int (nI 0), .int (nI 2)]) (rest := []) F (c_X2_checkRange l hfl sa (p1) (nI 0) (nI 2)) (va_cwS 3 hts gX2_clock_X2_checkRange rfl rfl rfl (by decide +kernel) ⟨Nat.le_of_ble_eq_true rfl, Nat.le_of_ble_eq_true rfl⟩) hE hS0 hnox hlocks rfl hl.1 rfl (Nat.le_of_ble_eq_true rfl) dX2_clock_9 ⟨Nat.le_of_ble_eq_true rfl, Nat.le_of_ble_eq_true rfl⟩ (Nat.le_of_ble_eq_true rfl) (Nat.le_of_ble_eq_true rfl) (fun E hpx => by obtain ⟨rfl, zz1⟩ := hpx; exact exC_2 xa (fun zz2 => zz1 zz2)) (fun c12 H1 locs1 hz1 hk1 hS0 => ?_)
  replace hP := z_keptP hP hk1
  obtain ⟨st, hst0, hst, rfl⟩ := (zB_iff (by omega) (by decide)).mp c12
  try rw [ix_nI (show st < 2 ^ 31 by omega)]
  refine lv_aload_n hx hb dX2_clock_12 rfl (lv_at hl 0 rfl) ?_
  refine z_get (C := RX0) (T := TX0) (N := 8) (ci := 0) (v := .ref (ad (21 + 2 * i))) F hK hP hi0 rfl (20 + 2 * i) 7 (show 20 + 2 * i < 20 + 2 * M 0 1 by have := hi; omega) cX_c (by decide) rfl (by decide +kernel) dX2_clock_13 ?_
  refine lv_iload_n hx hb dX2_clock_16 rfl (lv_at hl 3 rfl) ?_
  refine z_iald (v := nI (M 15 (3 * i + st))) F hK hP (21 + 2 * i) 0 (show 21 + 2 * i < 20 + 2 * M 0 1 by have := hi; omega) cX_k rfl (i := nI st) st rfl (by omega) (by decide) (rw0_at (by omega)) dX2_clock_17 ?_
  have hS := zS_mono (B := A) hS0 noA_le
  refine vx_ret (mc := 2) (ms := 12) (W.widen (k := 2) (n := 12) (Nat.le_of_ble_eq_true rfl) (Nat.le_of_ble_eq_true rfl) ?_)
  exact W.iret (v := nI (M 15 (3 * i + st))) hx hb hr (fun t ht hW => ⟨⟨nI (M 15 (3 * i + st)), ad, rfl, ⟨x3_0 xa c12 trivial, rfl⟩, ⟨⟨by rw [ht]; exact hP, va_K.moved hW.alike hK⟩, hD⟩, fun _ _ => rfl⟩, hS.F ht⟩) hS.2.2 dX2_clock_18
set_option maxRecDepth 100000 in
set_option maxHeartbeats 4000000 in
theorem c_X2_isMissed (l : Launch) (hfl : l.stackTraces = false) (sa : Nat → Nat) (D : va_G) (k : Nat → ClassId) (ad : Nat → Nat) (M : Nat → Nat → Nat) (O : Nat → Nat → Int32) (sz : Nat) (hI : zInv M) (p0 p1 : Int32) : vx_Met l yX2_isMissed wsX2_isMissed ({ frames := 8, cells := 2, slots := 12, locals := 124 }) (va_Pc [.ref (ad 0), .int p0, .int p1] (zPre D k ad M O sz sa)) (zQop D k ad M (M) (O) (va_A (zw (20 + 2 * M 0 1) ad (cX k ad M O)) sz) (x3 (zI (M 0 1) p0) (nI 0 ≤ p1 ∧ p1 ≤ nI 2) (True)) (bI (M 8 (3 * M 11 (ix p0) + ix p1) < M 15 (3 * ix p0 + ix p1)))) (zX (fun E => exC E (x3 (zI (M 0 1) p0) (nI 0 ≤ p1 ∧ p1 ≤ nI 2) (True)))) 2 12 (va_A (zw (20 + 2 * M 0 1) ad (cX k ad M O)) sz) := by
  refine vx_ofW (cc := cX2_isMissed) (maxL := 4) (ret := (some .boolean)) (by decide) rfl ?_
  intro p e s m args below meth c s₁ B hml hnox hv
  obtain ⟨rfl, ⟨hsz, ⟨hP, hK⟩, hD0⟩, hE⟩ := hv
  have hx := B.exec
  have hb := B.bytes
  have hr := B.returns
  have hts := atoms_spec (ws := wsX2_isMissed) B.pre
  have hown : s.vm.findClass RX2 = some m.cls := findClass_of_methodNamed B.named
  have hlocks := B.notSynchronized
  have F : CallFix p m c cX2_isMissed 4 s _ wsX2_isMissed RX2 := ⟨hx, hb, hml, hown, hts⟩
  subst hsz
  have hD := hD0.self (sz := s.heap.size)
  generalize hAe : va_A (zw (20 + 2 * M 0 1) ad (cX k ad M O)) s.heap.size = A at hD hE ⊢
  have hA : ∀ q : Nat, s.heap.size ≤ q → A q := fun q h => by rw [← hAe]; exact Or.inr h
  have hS0 : va_S noA s.heap s.heap [] := va_S.rf
  obtain ⟨hI1, hI2, hI3, hI4, hI5, hI6, hI7⟩ := id hI
  have hl := lv_entry ([.ref (ad 0), .int p0, .int p1]) (n := 4) (Nat.le_of_ble_eq_true rfl)
  rw [lg_entry_eq]
  generalize (lg_sl ([.ref (ad 0), .int p0, .int p1]) ++ List.replicate (4 - (lg_sl ([.ref (ad 0), .int p0, .int p1])).length) Slot.unset).toArray = ls at hl ⊢
  have hl : lv_has ls 4 [(0, .ref (ad 0)), (1, .int p0), (2, .int p1)] := hl
  have hk9 : ∀ x, x < 120 → M 15 x ≤ 24000 := fun x h => Nat.le_trans (hI6 x h) hI1
  refine lv_aload_n hx hb dX2_isMissed_0 rfl (lv_at hl 0 rfl) ?_
  refine lv_iload_n hx hb dX2_isMissed_1 rfl (lv_at hl 1 rfl) ?_
  refine z_xVq (qc := (RX2, TX2, 5)) (As := [.int p0]) (rest := []) (0) F (c_X2_caseAt l hfl sa D k ad M O hI2 p0) (cwV 1 hts gX2_isMissed_X2_caseAt rfl rfl rfl (by decide +kernel) ⟨Nat.le_of_ble_eq_true rfl, Nat.le_of_ble_eq_true rfl⟩) hK hP (by omega) cX_0 rfl hE hS0 hnox hlocks rfl hl.1 rfl (Nat.le_of_ble_eq_true rfl) dX2_isMissed_2 ⟨Nat.le_of_ble_eq_true rfl, Nat.le_of_ble_eq_true rfl⟩ (Nat.le_of_ble_eq_true rfl) (Nat.le_of_ble_eq_true rfl) (fun E hpx => by obtain ⟨rfl, zz1⟩ := hpx; exact exC_1 (fun zz2 => zz1 zz2)) (fun a9 ha9 H1 locs1 hz1 hk1 hS0 => ?_)
  replace hP := z_keptP hP hk1
  obtain ⟨i, hi, rfl, rfl⟩ := ha9
  try rw [ix_nI (show i < 2 ^ 31 by omega)]
  have xa : zI (M 0 1) (nI i) := ⟨i, hi, rfl⟩
  have hz := hI5 i hi
  obtain ⟨hc1, hc2, hc3, hc4, hc5, hc6, hc7⟩ := id hz
  refine lv_astore_n (lv' := [(3, .ref (ad (20 + 2 * i))), (0, .ref (ad 0)), (1, .int (nI i)), (2, .int p1)]) hx hb dX2_isMissed_5 rfl hl (by decide) rfl (fun ls hl => ?_)
  refine lv_iload_n hx hb dX2_isMissed_6 rfl (lv_at hl 3 rfl) ?_
  refine lv_iconst (v := nI 0) hx hb dX2_isMissed_7 (by decide) ?_
  refine lv_iconst (v := nI 2) hx hb dX2_isMissed_8 (by decide) ?_
  refine z_xS (As := [.int p1, .int (nI 0), .int (nI 2)]) (rest := []) F (c_X2_checkRange l hfl sa (p1) (nI 0) (nI 2)) (va_cwS 3 hts gX2_isMissed_X2_checkRange rfl rfl rfl (by decide +kernel) ⟨Nat.le_of_ble_eq_true rfl, Nat.le_of_ble_eq_true rfl⟩) hE hS0 hnox hlocks rfl hl.1 rfl (Nat.le_of_ble_eq_true rfl) dX2_isMissed_9 ⟨Nat.le_of_ble_eq_true rfl, Nat.le_of_ble_eq_true rfl⟩ (Nat.le_of_ble_eq_true rfl) (Nat.le_of_ble_eq_true rfl) (fun E hpx => by obtain ⟨rfl, zz1⟩ := hpx; exact exC_2 xa (fun zz2 => zz1 zz2)) (fun c13 H1 locs1 hz1 hk1 hS0 => ?_)
  replace hP := z_keptP hP hk1
  obtain ⟨st, hst0, hst, rfl⟩ := (zB_iff (by omega) (by decide)).mp c13
  try rw [ix_nI (show st < 2 ^ 31 by omega)]
  refine lv_aload_n hx hb dX2_isMissed_12 rfl (lv_at hl 1 rfl) ?_
  refine lv_aload_n hx hb dX2_isMissed_13 rfl (lv_at hl 0 rfl) ?_
  refine lv_iload_n hx hb dX2_isMissed_14 rfl (lv_at hl 3 rfl) ?_
  refine z_cV (qc := (RX2, TX2, 5)) (As := [.ref (ad (20 + 2 * i)), .int (nI st)]) (rest := []) (0) F (c_X2_misses l D k ad M O i hz hi hI4 hk9 hI2 st (by omega)) (cwV 2 hts gX2_isMissed_X2_misses rfl rfl rfl (by decide +kernel) ⟨Nat.le_of_ble_eq_true rfl, Nat.le_of_ble_eq_true rfl⟩) hK hP (by omega) cX_0 rfl rfl hl.1 rfl (Nat.le_of_ble_eq_true rfl) dX2_isMissed_15 ⟨Nat.le_of_ble_eq_true rfl, Nat.le_of_ble_eq_true rfl⟩ (fun r hr => ?_)
  subst hr
  have hS := zS_mono (B := A) hS0 noA_le
  refine vx_ret (mc := 2) (ms := 12) (W.widen (k := 2) (n := 12) (Nat.le_of_ble_eq_true rfl) (Nat.le_of_ble_eq_true rfl) ?_)
  exact W.zret (v := bI (M 8 (3 * M 11 i + st) < M 15 (3 * i + st))) hx hb hr bI_n (fun t ht hW => ⟨⟨bI (M 8 (3 * M 11 i + st) < M 15 (3 * i + st)), ad, rfl, ⟨x3_0 xa c13 trivial, rfl⟩, ⟨⟨by rw [ht]; exact hP, va_K.moved hW.alike hK⟩, hD⟩, fun _ _ => rfl⟩, hS.F ht⟩) hS.2.2 dX2_isMissed_18
set_option maxRecDepth 100000 in
set_option maxHeartbeats 4000000 in
theorem c_X2_step (l : Launch) (hfl : l.stackTraces = false) (sa : Nat → Nat) (D : va_G) (k : Nat → ClassId) (ad : Nat → Nat) (M : Nat → Nat → Nat) (O : Nat → Nat → Int32) (sz : Nat) (hI : zInv M) (p0 : Int32) : vx_Met l yX2_step wsX2_step ({ frames := 7, cells := 1, slots := 6, locals := 104 }) (va_Pc [.ref (ad 0), .int p0] (zPre D k ad M O sz sa)) (zQop D k ad M (M) (O) (va_A (zw (20 + 2 * M 0 1) ad (cX k ad M O)) sz) (x3 (zI (M 0 1) p0) (True) (True)) (nI (gS M (ix p0) 3))) (zX (fun E => exC E (x3 (zI (M 0 1) p0) (True) (True)))) 1 6 (va_A (zw (20 + 2 * M 0 1) ad (cX k ad M O)) sz) := by
  refine vx_ofW (cc := cX2_step) (maxL := 2) (ret := (some .int)) (by decide) rfl ?_
  intro p e s m args below meth c s₁ B hml hnox hv
  obtain ⟨rfl, ⟨hsz, ⟨hP, hK⟩, hD0⟩, hE⟩ := hv
  have hx := B.exec
  have hb := B.bytes
  have hr := B.returns
  have hts := atoms_spec (ws := wsX2_step) B.pre
  have hown : s.vm.findClass RX2 = some m.cls := findClass_of_methodNamed B.named
  have hlocks := B.notSynchronized
  have F : CallFix p m c cX2_step 2 s _ wsX2_step RX2 := ⟨hx, hb, hml, hown, hts⟩
  subst hsz
  have hD := hD0.self (sz := s.heap.size)
  generalize hAe : va_A (zw (20 + 2 * M 0 1) ad (cX k ad M O)) s.heap.size = A at hD hE ⊢
  have hA : ∀ q : Nat, s.heap.size ≤ q → A q := fun q h => by rw [← hAe]; exact Or.inr h
  have hS0 : va_S noA s.heap s.heap [] := va_S.rf
  obtain ⟨hI1, hI2, hI3, hI4, hI5, hI6, hI7⟩ := id hI
  have hl := lv_entry ([.ref (ad 0), .int p0]) (n := 2) (Nat.le_of_ble_eq_true rfl)
  rw [lg_entry_eq]
  generalize (lg_sl ([.ref (ad 0), .int p0]) ++ List.replicate (2 - (lg_sl ([.ref (ad 0), .int p0])).length) Slot.unset).toArray = ls at hl ⊢
  have hl : lv_has ls 2 [(0, .ref (ad 0)), (1, .int p0)] := hl
  have hk9 : ∀ x, x < 120 → M 15 x ≤ 24000 := fun x h => Nat.le_trans (hI6 x h) hI1
  refine lv_aload_n hx hb dX2_step_0 rfl (lv_at hl 0 rfl) ?_
  refine lv_aload_n hx hb dX2_step_1 rfl (lv_at hl 0 rfl) ?_
  refine lv_iload_n hx hb dX2_step_2 rfl (lv_at hl 1 rfl) ?_
  refine z_xVq (qc := (RX2, TX2, 5)) (As := [.int p0]) (rest := [.ref (ad 0)]) (0) F (c_X2_caseAt l hfl sa D k ad M O hI2 p0) (cwV 1 hts gX2_step_X2_caseAt rfl rfl rfl (by decide +kernel) ⟨Nat.le_of_ble_eq_true rfl, Nat.le_of_ble_eq_true rfl⟩) hK hP (by omega) cX_0 rfl hE hS0 hnox hlocks rfl hl.1 rfl (Nat.le_of_ble_eq_true rfl) dX2_step_3 ⟨Nat.le_of_ble_eq_true rfl, Nat.le_of_ble_eq_true rfl⟩ (Nat.le_of_ble_eq_true rfl) (Nat.le_of_ble_eq_true rfl) (fun E hpx => by obtain ⟨rfl, zz1⟩ := hpx; exact exC_1 (fun zz2 => zz1 zz2)) (fun a9 ha9 H1 locs1 hz1 hk1 hS0 => ?_)
  replace hP := z_keptP hP hk1
  obtain ⟨i, hi, rfl, rfl⟩ := ha9
  try rw [ix_nI (show i < 2 ^ 31 by omega)]
  have xa : zI (M 0 1) (nI i) := ⟨i, hi, rfl⟩
  have hz := hI5 i hi
  obtain ⟨hc1, hc2, hc3, hc4, hc5, hc6, hc7⟩ := id hz
  refine z_cV (qc := (RX2, TX2, 5)) (As := [.ref (ad (20 + 2 * i))]) (rest := []) (0) F (c_X2_greatestStep l D k ad M O i hz hi hI4 hk9 hI2) (cwV 1 hts gX2_step_X2_greatestStep rfl rfl rfl (by decide +kernel) ⟨Nat.le_of_ble_eq_true rfl, Nat.le_of_ble_eq_true rfl⟩) hK hP (by omega) cX_0 rfl rfl hl.1 rfl (Nat.le_of_ble_eq_true rfl) dX2_step_6 ⟨Nat.le_of_ble_eq_true rfl, Nat.le_of_ble_eq_true rfl⟩ (fun r hr => ?_)
  subst hr
  have hS := zS_mono (B := A) hS0 noA_le
  refine vx_ret (mc := 1) (ms := 6) (W.widen (k := 1) (n := 6) (Nat.le_of_ble_eq_true rfl) (Nat.le_of_ble_eq_true rfl) ?_)
  exact W.iret (v := nI (gS M i 3)) hx hb hr (fun t ht hW => ⟨⟨nI (gS M i 3), ad, rfl, ⟨x3_0 xa trivial trivial, rfl⟩, ⟨⟨by rw [ht]; exact hP, va_K.moved hW.alike hK⟩, hD⟩, fun _ _ => rfl⟩, hS.F ht⟩) hS.2.2 dX2_step_9
set_option maxRecDepth 100000 in
set_option maxHeartbeats 4000000 in
theorem c_X2_rest (l : Launch) (hfl : l.stackTraces = false) (sa : Nat → Nat) (D : va_G) (k : Nat → ClassId) (ad : Nat → Nat) (M : Nat → Nat → Nat) (O : Nat → Nat → Int32) (sz : Nat) (hI : zInv M) (p0 : Int32) (b1 : Nat) (hb1 : b1 ≤ 1) : vx_Met l yX2_rest wsX2_rest ({ frames := 7, cells := 2, slots := 12, locals := 104 }) (va_Pc [.ref (ad 0), .int p0, .int (nI b1)] (zPre D k ad M O sz sa)) (zQop D k ad M (zu M 14 (ix p0) b1) (O) (va_A (zw (20 + 2 * M 0 1) ad (cX k ad M O)) sz) (x3 (zI (M 0 1) p0) (True) (M 12 (ix p0) = 0)) (nI (M 14 (ix p0)))) (zX (fun E => exC E (x3 (zI (M 0 1) p0) (True) (M 12 (ix p0) = 0)))) 2 12 (va_A (zw (20 + 2 * M 0 1) ad (cX k ad M O)) sz) := by
  refine vx_ofW (cc := cX2_rest) (maxL := 5) (ret := (some .boolean)) (by decide) rfl ?_
  intro p e s m args below meth c s₁ B hml hnox hv
  obtain ⟨rfl, ⟨hsz, ⟨hP, hK⟩, hD0⟩, hE⟩ := hv
  have hx := B.exec
  have hb := B.bytes
  have hr := B.returns
  have hts := atoms_spec (ws := wsX2_rest) B.pre
  have hown : s.vm.findClass RX2 = some m.cls := findClass_of_methodNamed B.named
  have hlocks := B.notSynchronized
  have F : CallFix p m c cX2_rest 5 s _ wsX2_rest RX2 := ⟨hx, hb, hml, hown, hts⟩
  subst hsz
  have hD := hD0.self (sz := s.heap.size)
  generalize hAe : va_A (zw (20 + 2 * M 0 1) ad (cX k ad M O)) s.heap.size = A at hD hE ⊢
  have hA : ∀ q : Nat, s.heap.size ≤ q → A q := fun q h => by rw [← hAe]; exact Or.inr h
  have hS0 : va_S noA s.heap s.heap [] := va_S.rf
  obtain ⟨hI1, hI2, hI3, hI4, hI5, hI6, hI7⟩ := id hI
  have hl := lv_entry ([.ref (ad 0), .int p0, .int (nI b1)]) (n := 5) (Nat.le_of_ble_eq_true rfl)
  rw [lg_entry_eq]
  generalize (lg_sl ([.ref (ad 0), .int p0, .int (nI b1)]) ++ List.replicate (5 - (lg_sl ([.ref (ad 0), .int p0, .int (nI b1)])).length) Slot.unset).toArray = ls at hl ⊢
  have hl : lv_has ls 5 [(0, .ref (ad 0)), (1, .int p0), (2, .int (nI b1))] := hl
  have hi0 : ∀ w ∈ u_ws RX0 TX0 8, w ∈ wsX2_rest := by decide +kernel
  refine lv_aload_n hx hb dX2_rest_0 rfl (lv_at hl 0 rfl) ?_
  refine lv_iload_n hx hb dX2_rest_1 rfl (lv_at hl 1 rfl) ?_
  refine z_xVq (qc := (RX2, TX2, 5)) (As := [.int p0]) (rest := []) (0) F (c_X2_caseAt l hfl sa D k ad M O hI2 p0) (cwV 1 hts gX2_rest_X2_caseAt rfl rfl rfl (by decide +kernel) ⟨Nat.le_of_ble_eq_true rfl, Nat.le_of_ble_eq_true rfl⟩) hK hP (by omega) cX_0 rfl hE hS0 hnox hlocks rfl hl.1 rfl (Nat.le_of_ble_eq_true rfl) dX2_rest_2 ⟨Nat.le_of_ble_eq_true rfl, Nat.le_of_ble_eq_true rfl⟩ (Nat.le_of_ble_eq_true rfl) (Nat.le_of_ble_eq_true rfl) (fun E hpx => by obtain ⟨rfl, zz1⟩ := hpx; exact exC_1 (fun zz2 => zz1 zz2)) (fun a9 ha9 H1 locs1 hz1 hk1 hS0 => ?_)
  replace hP := z_keptP hP hk1
  obtain ⟨i, hi, rfl, rfl⟩ := ha9
  try rw [ix_nI (show i < 2 ^ 31 by omega)]
  have xa : zI (M 0 1) (nI i) := ⟨i, hi, rfl⟩
  have hz := hI5 i hi
  obtain ⟨hc1, hc2, hc3, hc4, hc5, hc6, hc7⟩ := id hz
  refine lv_astore_n (lv' := [(3, .ref (ad (20 + 2 * i))), (0, .ref (ad 0)), (1, .int (nI i)), (2, .int (nI b1))]) hx hb dX2_rest_5 rfl hl (by decide) rfl (fun ls hl => ?_)
  refine lv_aload_n hx hb dX2_rest_6 rfl (lv_at hl 0 rfl) ?_
  refine z_get (C := RX0) (T := TX0) (N := 8) (ci := 0) (v := .int (nI (M 12 i))) F hK hP hi0 rfl (20 + 2 * i) 3 (show 20 + 2 * i < 20 + 2 * M 0 1 by have := hi; omega) cX_c (by decide) rfl (by decide +kernel) dX2_rest_7 ?_
  refine z_ifn_ne (tgt := 17) F (by omega) dX2_rest_10 (by decide) (fun c14 => ?_) (fun c14 => ?_)
  · refine lv_iconst (v := nI 0) hx hb dX2_rest_17 (by decide) ?_
    refine z_top (show nI 0 = bI (M 12 i = 0) from (bI_f (c14)).symm) ?_
    refine z_xS (As := [.int (bI (M 12 i = 0))]) (rest := []) F (c_X2_checkState l hfl sa (M 12 i = 0)) (va_cwS 1 hts gX2_rest_X2_checkState rfl rfl rfl (by decide +kernel) ⟨Nat.le_of_ble_eq_true rfl, Nat.le_of_ble_eq_true rfl⟩) hE hS0 hnox hlocks rfl hl.1 rfl (Nat.le_of_ble_eq_true rfl) dX2_rest_18 ⟨Nat.le_of_ble_eq_true rfl, Nat.le_of_ble_eq_true rfl⟩ (Nat.le_of_ble_eq_true rfl) (Nat.le_of_ble_eq_true rfl) (fun E hpx => by obtain ⟨rfl, zz1⟩ := hpx; exact exC_3 xa trivial zz1) (fun c15 H1 locs1 hz1 hk1 hS0 => ?_)
    replace hP := z_keptP hP hk1
    have hS := zS_mono (B := A) hS0 noA_le
    refine lv_aload_n hx hb dX2_rest_21 rfl (lv_at hl 0 rfl) ?_
    refine z_get (C := RX0) (T := TX0) (N := 8) (ci := 0) (v := .int (nI (M 14 i))) F hK hP hi0 rfl (20 + 2 * i) 4 (show 20 + 2 * i < 20 + 2 * M 0 1 by have := hi; omega) cX_c (by decide) rfl (by decide +kernel) dX2_rest_22 ?_
    refine lv_istore (lv' := [(4, .int (nI (M 14 i))), (3, .ref (ad (20 + 2 * i))), (0, .ref (ad 0)), (1, .int (nI i)), (2, .int (nI b1))]) hx hb dX2_rest_25 hl (by decide) rfl (fun ls hl => ?_)
    refine lv_aload_n hx hb dX2_rest_27 rfl (lv_at hl 1 rfl) ?_
    refine lv_iload_n hx hb dX2_rest_28 rfl (lv_at hl 4 rfl) ?_
    refine z_put (C := RX0) (T := TX0) (N := 8) (ci := 0) (f' := (cX k ad (zu M 14 i b1) O)) F hK hP hD hS hi0 rfl tyX0 tyX0_ok nmX0 (20 + 2 * i) 4 (show 20 + 2 * i < 20 + 2 * M 0 1 by have := hi; omega) cX_c (by decide) (Nat.le_of_ble_eq_true rfl) (by decide +kernel) rfl rfl (nb_n hb1) (nb_f hb1) (cX_urests _) dX2_rest_29 (fun H locs hP hD hS => ?_)
    refine lv_iload hx hb dX2_rest_32 (lv_at hl 0 rfl) ?_
    refine vx_ret (mc := 2) (ms := 12) (W.widen (k := 2) (n := 12) (Nat.le_of_ble_eq_true rfl) (Nat.le_of_ble_eq_true rfl) ?_)
    exact W.zret (v := nI (M 14 i)) hx hb hr (nb_n hc6) (fun t ht hW => ⟨⟨nI (M 14 i), ad, rfl, ⟨x3_0 xa trivial c15, rfl⟩, ⟨⟨by rw [ht]; exact hP, va_K.moved hW.alike hK⟩, hD⟩, fun _ _ => rfl⟩, hS.F ht⟩) hS.2.2 dX2_rest_34
  · refine lv_iconst (v := nI 1) hx hb dX2_rest_13 (by decide) ?_
    refine lv_goto (tgt := 18) hx hb dX2_rest_14 (by decide) ?_
    refine z_top (show nI 1 = bI (M 12 i = 0) from (bI_t (c14)).symm) ?_
    refine z_xS (As := [.int (bI (M 12 i = 0))]) (rest := []) F (c_X2_checkState l hfl sa (M 12 i = 0)) (va_cwS 1 hts gX2_rest_X2_checkState rfl rfl rfl (by decide +kernel) ⟨Nat.le_of_ble_eq_true rfl, Nat.le_of_ble_eq_true rfl⟩) hE hS0 hnox hlocks rfl hl.1 rfl (Nat.le_of_ble_eq_true rfl) dX2_rest_18 ⟨Nat.le_of_ble_eq_true rfl, Nat.le_of_ble_eq_true rfl⟩ (Nat.le_of_ble_eq_true rfl) (Nat.le_of_ble_eq_true rfl) (fun E hpx => by obtain ⟨rfl, zz1⟩ := hpx; exact exC_3 xa trivial zz1) (fun c16 H1 locs1 hz1 hk1 hS0 => ?_)
    replace hP := z_keptP hP hk1
    have hS := zS_mono (B := A) hS0 noA_le
    refine lv_aload_n hx hb dX2_rest_21 rfl (lv_at hl 0 rfl) ?_
    refine z_get (C := RX0) (T := TX0) (N := 8) (ci := 0) (v := .int (nI (M 14 i))) F hK hP hi0 rfl (20 + 2 * i) 4 (show 20 + 2 * i < 20 + 2 * M 0 1 by have := hi; omega) cX_c (by decide) rfl (by decide +kernel) dX2_rest_22 ?_
    refine lv_istore (lv' := [(4, .int (nI (M 14 i))), (3, .ref (ad (20 + 2 * i))), (0, .ref (ad 0)), (1, .int (nI i)), (2, .int (nI b1))]) hx hb dX2_rest_25 hl (by decide) rfl (fun ls hl => ?_)
    refine lv_aload_n hx hb dX2_rest_27 rfl (lv_at hl 1 rfl) ?_
    refine lv_iload_n hx hb dX2_rest_28 rfl (lv_at hl 4 rfl) ?_
    refine z_put (C := RX0) (T := TX0) (N := 8) (ci := 0) (f' := (cX k ad (zu M 14 i b1) O)) F hK hP hD hS hi0 rfl tyX0 tyX0_ok nmX0 (20 + 2 * i) 4 (show 20 + 2 * i < 20 + 2 * M 0 1 by have := hi; omega) cX_c (by decide) (Nat.le_of_ble_eq_true rfl) (by decide +kernel) rfl rfl (nb_n hb1) (nb_f hb1) (cX_urests _) dX2_rest_29 (fun H locs hP hD hS => ?_)
    refine lv_iload hx hb dX2_rest_32 (lv_at hl 0 rfl) ?_
    refine vx_ret (mc := 2) (ms := 12) (W.widen (k := 2) (n := 12) (Nat.le_of_ble_eq_true rfl) (Nat.le_of_ble_eq_true rfl) ?_)
    exact W.zret (v := nI (M 14 i)) hx hb hr (nb_n hc6) (fun t ht hW => ⟨⟨nI (M 14 i), ad, rfl, ⟨x3_0 xa trivial c16, rfl⟩, ⟨⟨by rw [ht]; exact hP, va_K.moved hW.alike hK⟩, hD⟩, fun _ _ => rfl⟩, hS.F ht⟩) hS.2.2 dX2_rest_34
set_option maxRecDepth 100000 in
set_option maxHeartbeats 4000000 in
theorem c_X2_setGravity (l : Launch) (hfl : l.stackTraces = false) (sa : Nat → Nat) (D : va_G) (k : Nat → ClassId) (ad : Nat → Nat) (M : Nat → Nat → Nat) (O : Nat → Nat → Int32) (sz : Nat) (hI : zInv M) (p0 p1 : Int32) : vx_Met l yX2_setGravity wsX2_setGravity ({ frames := 8, cells := 3, slots := 18, locals := 124 }) (va_Pc [.ref (ad 0), .int p0, .int p1] (zPre D k ad M O sz sa)) (zQop D k ad M (zu M 11 (ix p0) (ix p1)) (O) (va_A (zw (20 + 2 * M 0 1) ad (cX k ad M O)) sz) (x3 (zI (M 0 1) p0) (nI 0 ≤ p1 ∧ p1 ≤ nI 2) (M 12 (ix p0) = 0)) (nI (M 11 (ix p0)))) (zX (fun E => exC E (x3 (zI (M 0 1) p0) (nI 0 ≤ p1 ∧ p1 ≤ nI 2) (M 12 (ix p0) = 0)))) 3 18 (va_A (zw (20 + 2 * M 0 1) ad (cX k ad M O)) sz) := by
  refine vx_ofW (cc := cX2_setGravity) (maxL := 5) (ret := (some .int)) (by decide) rfl ?_
  intro p e s m args below meth c s₁ B hml hnox hv
  obtain ⟨rfl, ⟨hsz, ⟨hP, hK⟩, hD0⟩, hE⟩ := hv
  have hx := B.exec
  have hb := B.bytes
  have hr := B.returns
  have hts := atoms_spec (ws := wsX2_setGravity) B.pre
  have hown : s.vm.findClass RX2 = some m.cls := findClass_of_methodNamed B.named
  have hlocks := B.notSynchronized
  have F : CallFix p m c cX2_setGravity 5 s _ wsX2_setGravity RX2 := ⟨hx, hb, hml, hown, hts⟩
  subst hsz
  have hD := hD0.self (sz := s.heap.size)
  generalize hAe : va_A (zw (20 + 2 * M 0 1) ad (cX k ad M O)) s.heap.size = A at hD hE ⊢
  have hA : ∀ q : Nat, s.heap.size ≤ q → A q := fun q h => by rw [← hAe]; exact Or.inr h
  have hS0 : va_S noA s.heap s.heap [] := va_S.rf
  obtain ⟨hI1, hI2, hI3, hI4, hI5, hI6, hI7⟩ := id hI
  have hl := lv_entry ([.ref (ad 0), .int p0, .int p1]) (n := 5) (Nat.le_of_ble_eq_true rfl)
  rw [lg_entry_eq]
  generalize (lg_sl ([.ref (ad 0), .int p0, .int p1]) ++ List.replicate (5 - (lg_sl ([.ref (ad 0), .int p0, .int p1])).length) Slot.unset).toArray = ls at hl ⊢
  have hl : lv_has ls 5 [(0, .ref (ad 0)), (1, .int p0), (2, .int p1)] := hl
  have hi0 : ∀ w ∈ u_ws RX0 TX0 8, w ∈ wsX2_setGravity := by decide +kernel
  refine lv_aload_n hx hb dX2_setGravity_0 rfl (lv_at hl 0 rfl) ?_
  refine lv_iload_n hx hb dX2_setGravity_1 rfl (lv_at hl 1 rfl) ?_
  refine z_xVq (qc := (RX2, TX2, 5)) (As := [.int p0]) (rest := []) (0) F (c_X2_caseAt l hfl sa D k ad M O hI2 p0) (cwV 1 hts gX2_setGravity_X2_caseAt rfl rfl rfl (by decide +kernel) ⟨Nat.le_of_ble_eq_true rfl, Nat.le_of_ble_eq_true rfl⟩) hK hP (by omega) cX_0 rfl hE hS0 hnox hlocks rfl hl.1 rfl (Nat.le_of_ble_eq_true rfl) dX2_setGravity_2 ⟨Nat.le_of_ble_eq_true rfl, Nat.le_of_ble_eq_true rfl⟩ (Nat.le_of_ble_eq_true rfl) (Nat.le_of_ble_eq_true rfl) (fun E hpx => by obtain ⟨rfl, zz1⟩ := hpx; exact exC_1 (fun zz2 => zz1 zz2)) (fun a9 ha9 H1 locs1 hz1 hk1 hS0 => ?_)
  replace hP := z_keptP hP hk1
  obtain ⟨i, hi, rfl, rfl⟩ := ha9
  try rw [ix_nI (show i < 2 ^ 31 by omega)]
  have xa : zI (M 0 1) (nI i) := ⟨i, hi, rfl⟩
  have hz := hI5 i hi
  obtain ⟨hc1, hc2, hc3, hc4, hc5, hc6, hc7⟩ := id hz
  refine lv_astore_n (lv' := [(3, .ref (ad (20 + 2 * i))), (0, .ref (ad 0)), (1, .int (nI i)), (2, .int p1)]) hx hb dX2_setGravity_5 rfl hl (by decide) rfl (fun ls hl => ?_)
  refine lv_iload_n hx hb dX2_setGravity_6 rfl (lv_at hl 3 rfl) ?_
  refine lv_iconst (v := nI 0) hx hb dX2_setGravity_7 (by decide) ?_
  refine lv_iconst (v := nI 2) hx hb dX2_setGravity_8 (by decide) ?_
  refine z_xS (As := [.int p1, .int (nI 0), .int (nI 2)]) (rest := []) F (c_X2_checkRange l hfl sa (p1) (nI 0) (nI 2)) (va_cwS 3 hts gX2_setGravity_X2_checkRange rfl rfl rfl (by decide +kernel) ⟨Nat.le_of_ble_eq_true rfl, Nat.le_of_ble_eq_true rfl⟩) hE hS0 hnox hlocks rfl hl.1 rfl (Nat.le_of_ble_eq_true rfl) dX2_setGravity_9 ⟨Nat.le_of_ble_eq_true rfl, Nat.le_of_ble_eq_true rfl⟩ (Nat.le_of_ble_eq_true rfl) (Nat.le_of_ble_eq_true rfl) (fun E hpx => by obtain ⟨rfl, zz1⟩ := hpx; exact exC_2 xa (fun zz2 => zz1 zz2)) (fun c17 H1 locs1 hz1 hk1 hS0 => ?_)
  replace hP := z_keptP hP hk1
  obtain ⟨g, hg0, hg, rfl⟩ := (zB_iff (by omega) (by decide)).mp c17
  try rw [ix_nI (show g < 2 ^ 31 by omega)]
  refine lv_aload_n hx hb dX2_setGravity_12 rfl (lv_at hl 0 rfl) ?_
  refine z_get (C := RX0) (T := TX0) (N := 8) (ci := 0) (v := .int (nI (M 12 i))) F hK hP hi0 rfl (20 + 2 * i) 3 (show 20 + 2 * i < 20 + 2 * M 0 1 by have := hi; omega) cX_c (by decide) rfl (by decide +kernel) dX2_setGravity_13 ?_
  refine z_ifn_ne (tgt := 23) F (by omega) dX2_setGravity_16 (by decide) (fun c18 => ?_) (fun c18 => ?_)
  · refine lv_iconst (v := nI 0) hx hb dX2_setGravity_23 (by decide) ?_
    refine z_top (show nI 0 = bI (M 12 i = 0) from (bI_f (c18)).symm) ?_
    refine z_xS (As := [.int (bI (M 12 i = 0))]) (rest := []) F (c_X2_checkState l hfl sa (M 12 i = 0)) (va_cwS 1 hts gX2_setGravity_X2_checkState rfl rfl rfl (by decide +kernel) ⟨Nat.le_of_ble_eq_true rfl, Nat.le_of_ble_eq_true rfl⟩) hE hS0 hnox hlocks rfl hl.1 rfl (Nat.le_of_ble_eq_true rfl) dX2_setGravity_24 ⟨Nat.le_of_ble_eq_true rfl, Nat.le_of_ble_eq_true rfl⟩ (Nat.le_of_ble_eq_true rfl) (Nat.le_of_ble_eq_true rfl) (fun E hpx => by obtain ⟨rfl, zz1⟩ := hpx; exact exC_3 xa c17 zz1) (fun c19 H1 locs1 hz1 hk1 hS0 => ?_)
    replace hP := z_keptP hP hk1
    have hS := zS_mono (B := A) hS0 noA_le
    refine lv_aload_n hx hb dX2_setGravity_27 rfl (lv_at hl 0 rfl) ?_
    refine z_get (C := RX0) (T := TX0) (N := 8) (ci := 0) (v := .int (nI (M 11 i))) F hK hP hi0 rfl (20 + 2 * i) 2 (show 20 + 2 * i < 20 + 2 * M 0 1 by have := hi; omega) cX_c (by decide) rfl (by decide +kernel) dX2_setGravity_28 ?_
    refine lv_istore (lv' := [(4, .int (nI (M 11 i))), (3, .ref (ad (20 + 2 * i))), (0, .ref (ad 0)), (1, .int (nI i)), (2, .int (nI g))]) hx hb dX2_setGravity_31 hl (by decide) rfl (fun ls hl => ?_)
    refine lv_aload_n hx hb dX2_setGravity_33 rfl (lv_at hl 1 rfl) ?_
    refine lv_iload_n hx hb dX2_setGravity_34 rfl (lv_at hl 4 rfl) ?_
    refine z_put (C := RX0) (T := TX0) (N := 8) (ci := 0) (f' := (cX k ad (zu M 11 i g) O)) F hK hP hD hS hi0 rfl tyX0 tyX0_ok nmX0 (20 + 2 * i) 2 (show 20 + 2 * i < 20 + 2 * M 0 1 by have := hi; omega) cX_c (by decide) (Nat.le_of_ble_eq_true rfl) (by decide +kernel) rfl rfl rfl rfl (cX_ugrav _) dX2_setGravity_35 (fun H locs hP hD hS => ?_)
    refine lv_iload hx hb dX2_setGravity_38 (lv_at hl 0 rfl) ?_
    refine vx_ret (mc := 3) (ms := 18) (W.widen (k := 3) (n := 18) (Nat.le_of_ble_eq_true rfl) (Nat.le_of_ble_eq_true rfl) ?_)
    exact W.iret (v := nI (M 11 i)) hx hb hr (fun t ht hW => ⟨⟨nI (M 11 i), ad, rfl, ⟨x3_0 xa c17 c19, rfl⟩, ⟨⟨by rw [ht]; exact hP, va_K.moved hW.alike hK⟩, hD⟩, fun _ _ => rfl⟩, hS.F ht⟩) hS.2.2 dX2_setGravity_40
  · refine lv_iconst (v := nI 1) hx hb dX2_setGravity_19 (by decide) ?_
    refine lv_goto (tgt := 24) hx hb dX2_setGravity_20 (by decide) ?_
    refine z_top (show nI 1 = bI (M 12 i = 0) from (bI_t (c18)).symm) ?_
    refine z_xS (As := [.int (bI (M 12 i = 0))]) (rest := []) F (c_X2_checkState l hfl sa (M 12 i = 0)) (va_cwS 1 hts gX2_setGravity_X2_checkState rfl rfl rfl (by decide +kernel) ⟨Nat.le_of_ble_eq_true rfl, Nat.le_of_ble_eq_true rfl⟩) hE hS0 hnox hlocks rfl hl.1 rfl (Nat.le_of_ble_eq_true rfl) dX2_setGravity_24 ⟨Nat.le_of_ble_eq_true rfl, Nat.le_of_ble_eq_true rfl⟩ (Nat.le_of_ble_eq_true rfl) (Nat.le_of_ble_eq_true rfl) (fun E hpx => by obtain ⟨rfl, zz1⟩ := hpx; exact exC_3 xa c17 zz1) (fun c20 H1 locs1 hz1 hk1 hS0 => ?_)
    replace hP := z_keptP hP hk1
    have hS := zS_mono (B := A) hS0 noA_le
    refine lv_aload_n hx hb dX2_setGravity_27 rfl (lv_at hl 0 rfl) ?_
    refine z_get (C := RX0) (T := TX0) (N := 8) (ci := 0) (v := .int (nI (M 11 i))) F hK hP hi0 rfl (20 + 2 * i) 2 (show 20 + 2 * i < 20 + 2 * M 0 1 by have := hi; omega) cX_c (by decide) rfl (by decide +kernel) dX2_setGravity_28 ?_
    refine lv_istore (lv' := [(4, .int (nI (M 11 i))), (3, .ref (ad (20 + 2 * i))), (0, .ref (ad 0)), (1, .int (nI i)), (2, .int (nI g))]) hx hb dX2_setGravity_31 hl (by decide) rfl (fun ls hl => ?_)
    refine lv_aload_n hx hb dX2_setGravity_33 rfl (lv_at hl 1 rfl) ?_
    refine lv_iload_n hx hb dX2_setGravity_34 rfl (lv_at hl 4 rfl) ?_
    refine z_put (C := RX0) (T := TX0) (N := 8) (ci := 0) (f' := (cX k ad (zu M 11 i g) O)) F hK hP hD hS hi0 rfl tyX0 tyX0_ok nmX0 (20 + 2 * i) 2 (show 20 + 2 * i < 20 + 2 * M 0 1 by have := hi; omega) cX_c (by decide) (Nat.le_of_ble_eq_true rfl) (by decide +kernel) rfl rfl rfl rfl (cX_ugrav _) dX2_setGravity_35 (fun H locs hP hD hS => ?_)
    refine lv_iload hx hb dX2_setGravity_38 (lv_at hl 0 rfl) ?_
    refine vx_ret (mc := 3) (ms := 18) (W.widen (k := 3) (n := 18) (Nat.le_of_ble_eq_true rfl) (Nat.le_of_ble_eq_true rfl) ?_)
    exact W.iret (v := nI (M 11 i)) hx hb hr (fun t ht hW => ⟨⟨nI (M 11 i), ad, rfl, ⟨x3_0 xa c17 c20, rfl⟩, ⟨⟨by rw [ht]; exact hP, va_K.moved hW.alike hK⟩, hD⟩, fun _ _ => rfl⟩, hS.F ht⟩) hS.2.2 dX2_setGravity_40
set_option maxRecDepth 100000 in
set_option maxHeartbeats 4000000 in
theorem c_X2_openAnew (l : Launch) (hfl : l.stackTraces = false) (sa : Nat → Nat) (D : va_G) (k : Nat → ClassId) (ad : Nat → Nat) (M : Nat → Nat → Nat) (O : Nat → Nat → Int32) (sz : Nat) (hI : zInv M) (p0 : Int32) : vx_Met l yX2_openAnew wsX2_openAnew ({ frames := 7, cells := 2, slots := 12, locals := 104 }) (va_Pc [.ref (ad 0), .int p0] (zPre D k ad M O sz sa)) (zQop D k ad M (zu (zu (zu M 12 (ix p0) 0) 14 (ix p0) 0) 16 (ix p0) (min (M 16 (ix p0)) 2)) (O) (va_A (zw (20 + 2 * M 0 1) ad (cX k ad M O)) sz) (x3 (zI (M 0 1) p0) (True) (M 12 (ix p0) = 2)) (nI (M 15 (3 * ix p0 + 2)))) (zX (fun E => exC E (x3 (zI (M 0 1) p0) (True) (M 12 (ix p0) = 2)))) 2 12 (va_A (zw (20 + 2 * M 0 1) ad (cX k ad M O)) sz) := by
  refine vx_ofW (cc := cX2_openAnew) (maxL := 3) (ret := (some .int)) (by decide) rfl ?_
  intro p e s m args below meth c s₁ B hml hnox hv
  obtain ⟨rfl, ⟨hsz, ⟨hP, hK⟩, hD0⟩, hE⟩ := hv
  have hx := B.exec
  have hb := B.bytes
  have hr := B.returns
  have hts := atoms_spec (ws := wsX2_openAnew) B.pre
  have hown : s.vm.findClass RX2 = some m.cls := findClass_of_methodNamed B.named
  have hlocks := B.notSynchronized
  have F : CallFix p m c cX2_openAnew 3 s _ wsX2_openAnew RX2 := ⟨hx, hb, hml, hown, hts⟩
  subst hsz
  have hD := hD0.self (sz := s.heap.size)
  generalize hAe : va_A (zw (20 + 2 * M 0 1) ad (cX k ad M O)) s.heap.size = A at hD hE ⊢
  have hA : ∀ q : Nat, s.heap.size ≤ q → A q := fun q h => by rw [← hAe]; exact Or.inr h
  have hS0 : va_S noA s.heap s.heap [] := va_S.rf
  obtain ⟨hI1, hI2, hI3, hI4, hI5, hI6, hI7⟩ := id hI
  have hl := lv_entry ([.ref (ad 0), .int p0]) (n := 3) (Nat.le_of_ble_eq_true rfl)
  rw [lg_entry_eq]
  generalize (lg_sl ([.ref (ad 0), .int p0]) ++ List.replicate (3 - (lg_sl ([.ref (ad 0), .int p0])).length) Slot.unset).toArray = ls at hl ⊢
  have hl : lv_has ls 3 [(0, .ref (ad 0)), (1, .int p0)] := hl
  have hi0 : ∀ w ∈ u_ws RX0 TX0 8, w ∈ wsX2_openAnew := by decide +kernel
  refine lv_aload_n hx hb dX2_openAnew_0 rfl (lv_at hl 0 rfl) ?_
  refine lv_iload_n hx hb dX2_openAnew_1 rfl (lv_at hl 1 rfl) ?_
  refine z_xVq (qc := (RX2, TX2, 5)) (As := [.int p0]) (rest := []) (0) F (c_X2_caseAt l hfl sa D k ad M O hI2 p0) (cwV 1 hts gX2_openAnew_X2_caseAt rfl rfl rfl (by decide +kernel) ⟨Nat.le_of_ble_eq_true rfl, Nat.le_of_ble_eq_true rfl⟩) hK hP (by omega) cX_0 rfl hE hS0 hnox hlocks rfl hl.1 rfl (Nat.le_of_ble_eq_true rfl) dX2_openAnew_2 ⟨Nat.le_of_ble_eq_true rfl, Nat.le_of_ble_eq_true rfl⟩ (Nat.le_of_ble_eq_true rfl) (Nat.le_of_ble_eq_true rfl) (fun E hpx => by obtain ⟨rfl, zz1⟩ := hpx; exact exC_1 (fun zz2 => zz1 zz2)) (fun a9 ha9 H1 locs1 hz1 hk1 hS0 => ?_)
  replace hP := z_keptP hP hk1
  obtain ⟨i, hi, rfl, rfl⟩ := ha9
  try rw [ix_nI (show i < 2 ^ 31 by omega)]
  have xa : zI (M 0 1) (nI i) := ⟨i, hi, rfl⟩
  have hz := hI5 i hi
  obtain ⟨hc1, hc2, hc3, hc4, hc5, hc6, hc7⟩ := id hz
  refine lv_astore_n (lv' := [(2, .ref (ad (20 + 2 * i))), (0, .ref (ad 0)), (1, .int (nI i))]) hx hb dX2_openAnew_5 rfl hl (by decide) rfl (fun ls hl => ?_)
  refine lv_aload_n hx hb dX2_openAnew_6 rfl (lv_at hl 0 rfl) ?_
  refine z_get (C := RX0) (T := TX0) (N := 8) (ci := 0) (v := .int (nI (M 12 i))) F hK hP hi0 rfl (20 + 2 * i) 3 (show 20 + 2 * i < 20 + 2 * M 0 1 by have := hi; omega) cX_c (by decide) rfl (by decide +kernel) dX2_openAnew_7 ?_
  refine lv_iconst (v := nI 2) hx hb dX2_openAnew_10 (by decide) ?_
  refine z_icmp_ne (tgt := 18) F (by omega) (by omega) dX2_openAnew_11 (by decide) (fun c21 => ?_) (fun c21 => ?_)
  · refine lv_iconst (v := nI 0) hx hb dX2_openAnew_18 (by decide) ?_
    refine z_top (show nI 0 = bI (M 12 i = 2) from (bI_f (c21)).symm) ?_
    refine z_xS (As := [.int (bI (M 12 i = 2))]) (rest := []) F (c_X2_checkState l hfl sa (M 12 i = 2)) (va_cwS 1 hts gX2_openAnew_X2_checkState rfl rfl rfl (by decide +kernel) ⟨Nat.le_of_ble_eq_true rfl, Nat.le_of_ble_eq_true rfl⟩) hE hS0 hnox hlocks rfl hl.1 rfl (Nat.le_of_ble_eq_true rfl) dX2_openAnew_19 ⟨Nat.le_of_ble_eq_true rfl, Nat.le_of_ble_eq_true rfl⟩ (Nat.le_of_ble_eq_true rfl) (Nat.le_of_ble_eq_true rfl) (fun E hpx => by obtain ⟨rfl, zz1⟩ := hpx; exact exC_3 xa trivial zz1) (fun c22 H1 locs1 hz1 hk1 hS0 => ?_)
    replace hP := z_keptP hP hk1
    have hS := zS_mono (B := A) hS0 noA_le
    refine lv_aload_n hx hb dX2_openAnew_22 rfl (lv_at hl 0 rfl) ?_
    refine lv_iconst (v := nI 0) hx hb dX2_openAnew_23 (by decide) ?_
    refine z_put (C := RX0) (T := TX0) (N := 8) (ci := 0) (f' := (cX k ad (zu M 12 i 0) O)) F hK hP hD hS hi0 rfl tyX0 tyX0_ok nmX0 (20 + 2 * i) 3 (show 20 + 2 * i < 20 + 2 * M 0 1 by have := hi; omega) cX_c (by decide) (Nat.le_of_ble_eq_true rfl) (by decide +kernel) rfl rfl rfl rfl (cX_ustate _) dX2_openAnew_24 (fun H locs hP hD hS => ?_)
    refine lv_aload_n hx hb dX2_openAnew_27 rfl (lv_at hl 0 rfl) ?_
    refine lv_iconst (v := nI 0) hx hb dX2_openAnew_28 (by decide) ?_
    refine z_put (C := RX0) (T := TX0) (N := 8) (ci := 0) (f' := (cX k ad (zu (zu M 12 i 0) 14 i 0) O)) F hK hP hD hS hi0 rfl tyX0 tyX0_ok nmX0 (20 + 2 * i) 4 (show 20 + 2 * i < 20 + 2 * M 0 1 by have := hi; omega) cX_c (by decide) (Nat.le_of_ble_eq_true rfl) (by decide +kernel) rfl rfl rfl rfl (cX_urests _) dX2_openAnew_29 (fun H locs hP hD hS => ?_)
    refine lv_aload_n hx hb dX2_openAnew_32 rfl (lv_at hl 0 rfl) ?_
    refine lv_aload_n hx hb dX2_openAnew_33 rfl (lv_at hl 0 rfl) ?_
    refine z_get (C := RX0) (T := TX0) (N := 8) (ci := 0) (v := .int (nI (M 16 i))) F hK hP hi0 rfl (20 + 2 * i) 6 (show 20 + 2 * i < 20 + 2 * M 0 1 by have := hi; omega) cX_c (by decide) rfl (by decide +kernel) dX2_openAnew_34 ?_
    refine lv_iconst (v := nI 2) hx hb dX2_openAnew_37 (by decide) ?_
    refine z_mmin F hl.1 (by decide +kernel) (by decide +kernel) (by decide +kernel) (by decide +kernel) ⟨Nat.le_of_ble_eq_true rfl, Nat.le_of_ble_eq_true rfl⟩ ⟨Nat.le_of_ble_eq_true rfl, Nat.le_of_ble_eq_true rfl⟩ (by omega) (by omega) dX2_openAnew_38 ?_
    refine z_put (C := RX0) (T := TX0) (N := 8) (ci := 0) (f' := (cX k ad (zu (zu (zu M 12 i 0) 14 i 0) 16 i (min (M 16 i) 2)) O)) F hK hP hD hS hi0 rfl tyX0 tyX0_ok nmX0 (20 + 2 * i) 6 (show 20 + 2 * i < 20 + 2 * M 0 1 by have := hi; omega) cX_c (by decide) (Nat.le_of_ble_eq_true rfl) (by decide +kernel) rfl rfl rfl rfl (cX_usr _) dX2_openAnew_41 (fun H locs hP hD hS => ?_)
    refine lv_aload_n hx hb dX2_openAnew_44 rfl (lv_at hl 0 rfl) ?_
    refine z_get (C := RX0) (T := TX0) (N := 8) (ci := 0) (v := .ref (ad (21 + 2 * i))) F hK hP hi0 rfl (20 + 2 * i) 7 (show 20 + 2 * i < 20 + 2 * M 0 1 by have := hi; omega) cX_c (by decide) rfl (by decide +kernel) dX2_openAnew_45 ?_
    refine lv_iconst (v := nI 2) hx hb dX2_openAnew_48 (by decide) ?_
    refine z_iald (v := nI (M 15 (3 * i + 2))) F hK hP (21 + 2 * i) 0 (show 21 + 2 * i < 20 + 2 * M 0 1 by have := hi; omega) cX_k rfl (i := nI 2) 2 rfl (by omega) (by decide) (rw0_at (by omega)) dX2_openAnew_49 ?_
    refine vx_ret (mc := 2) (ms := 12) (W.widen (k := 2) (n := 12) (Nat.le_of_ble_eq_true rfl) (Nat.le_of_ble_eq_true rfl) ?_)
    exact W.iret (v := nI (M 15 (3 * i + 2))) hx hb hr (fun t ht hW => ⟨⟨nI (M 15 (3 * i + 2)), ad, rfl, ⟨x3_0 xa trivial c22, rfl⟩, ⟨⟨by rw [ht]; exact hP, va_K.moved hW.alike hK⟩, hD⟩, fun _ _ => rfl⟩, hS.F ht⟩) hS.2.2 dX2_openAnew_50
  · refine lv_iconst (v := nI 1) hx hb dX2_openAnew_14 (by decide) ?_
    refine lv_goto (tgt := 19) hx hb dX2_openAnew_15 (by decide) ?_
    refine z_top (show nI 1 = bI (M 12 i = 2) from (bI_t (c21)).symm) ?_
    refine z_xS (As := [.int (bI (M 12 i = 2))]) (rest := []) F (c_X2_checkState l hfl sa (M 12 i = 2)) (va_cwS 1 hts gX2_openAnew_X2_checkState rfl rfl rfl (by decide +kernel) ⟨Nat.le_of_ble_eq_true rfl, Nat.le_of_ble_eq_true rfl⟩) hE hS0 hnox hlocks rfl hl.1 rfl (Nat.le_of_ble_eq_true rfl) dX2_openAnew_19 ⟨Nat.le_of_ble_eq_true rfl, Nat.le_of_ble_eq_true rfl⟩ (Nat.le_of_ble_eq_true rfl) (Nat.le_of_ble_eq_true rfl) (fun E hpx => by obtain ⟨rfl, zz1⟩ := hpx; exact exC_3 xa trivial zz1) (fun c23 H1 locs1 hz1 hk1 hS0 => ?_)
    replace hP := z_keptP hP hk1
    have hS := zS_mono (B := A) hS0 noA_le
    refine lv_aload_n hx hb dX2_openAnew_22 rfl (lv_at hl 0 rfl) ?_
    refine lv_iconst (v := nI 0) hx hb dX2_openAnew_23 (by decide) ?_
    refine z_put (C := RX0) (T := TX0) (N := 8) (ci := 0) (f' := (cX k ad (zu M 12 i 0) O)) F hK hP hD hS hi0 rfl tyX0 tyX0_ok nmX0 (20 + 2 * i) 3 (show 20 + 2 * i < 20 + 2 * M 0 1 by have := hi; omega) cX_c (by decide) (Nat.le_of_ble_eq_true rfl) (by decide +kernel) rfl rfl rfl rfl (cX_ustate _) dX2_openAnew_24 (fun H locs hP hD hS => ?_)
    refine lv_aload_n hx hb dX2_openAnew_27 rfl (lv_at hl 0 rfl) ?_
    refine lv_iconst (v := nI 0) hx hb dX2_openAnew_28 (by decide) ?_
    refine z_put (C := RX0) (T := TX0) (N := 8) (ci := 0) (f' := (cX k ad (zu (zu M 12 i 0) 14 i 0) O)) F hK hP hD hS hi0 rfl tyX0 tyX0_ok nmX0 (20 + 2 * i) 4 (show 20 + 2 * i < 20 + 2 * M 0 1 by have := hi; omega) cX_c (by decide) (Nat.le_of_ble_eq_true rfl) (by decide +kernel) rfl rfl rfl rfl (cX_urests _) dX2_openAnew_29 (fun H locs hP hD hS => ?_)
    refine lv_aload_n hx hb dX2_openAnew_32 rfl (lv_at hl 0 rfl) ?_
    refine lv_aload_n hx hb dX2_openAnew_33 rfl (lv_at hl 0 rfl) ?_
    refine z_get (C := RX0) (T := TX0) (N := 8) (ci := 0) (v := .int (nI (M 16 i))) F hK hP hi0 rfl (20 + 2 * i) 6 (show 20 + 2 * i < 20 + 2 * M 0 1 by have := hi; omega) cX_c (by decide) rfl (by decide +kernel) dX2_openAnew_34 ?_
    refine lv_iconst (v := nI 2) hx hb dX2_openAnew_37 (by decide) ?_
    refine z_mmin F hl.1 (by decide +kernel) (by decide +kernel) (by decide +kernel) (by decide +kernel) ⟨Nat.le_of_ble_eq_true rfl, Nat.le_of_ble_eq_true rfl⟩ ⟨Nat.le_of_ble_eq_true rfl, Nat.le_of_ble_eq_true rfl⟩ (by omega) (by omega) dX2_openAnew_38 ?_
    refine z_put (C := RX0) (T := TX0) (N := 8) (ci := 0) (f' := (cX k ad (zu (zu (zu M 12 i 0) 14 i 0) 16 i (min (M 16 i) 2)) O)) F hK hP hD hS hi0 rfl tyX0 tyX0_ok nmX0 (20 + 2 * i) 6 (show 20 + 2 * i < 20 + 2 * M 0 1 by have := hi; omega) cX_c (by decide) (Nat.le_of_ble_eq_true rfl) (by decide +kernel) rfl rfl rfl rfl (cX_usr _) dX2_openAnew_41 (fun H locs hP hD hS => ?_)
    refine lv_aload_n hx hb dX2_openAnew_44 rfl (lv_at hl 0 rfl) ?_
    refine z_get (C := RX0) (T := TX0) (N := 8) (ci := 0) (v := .ref (ad (21 + 2 * i))) F hK hP hi0 rfl (20 + 2 * i) 7 (show 20 + 2 * i < 20 + 2 * M 0 1 by have := hi; omega) cX_c (by decide) rfl (by decide +kernel) dX2_openAnew_45 ?_
    refine lv_iconst (v := nI 2) hx hb dX2_openAnew_48 (by decide) ?_
    refine z_iald (v := nI (M 15 (3 * i + 2))) F hK hP (21 + 2 * i) 0 (show 21 + 2 * i < 20 + 2 * M 0 1 by have := hi; omega) cX_k rfl (i := nI 2) 2 rfl (by omega) (by decide) (rw0_at (by omega)) dX2_openAnew_49 ?_
    refine vx_ret (mc := 2) (ms := 12) (W.widen (k := 2) (n := 12) (Nat.le_of_ble_eq_true rfl) (Nat.le_of_ble_eq_true rfl) ?_)
    exact W.iret (v := nI (M 15 (3 * i + 2))) hx hb hr (fun t ht hW => ⟨⟨nI (M 15 (3 * i + 2)), ad, rfl, ⟨x3_0 xa trivial c23, rfl⟩, ⟨⟨by rw [ht]; exact hP, va_K.moved hW.alike hK⟩, hD⟩, fun _ _ => rfl⟩, hS.F ht⟩) hS.2.2 dX2_openAnew_50
