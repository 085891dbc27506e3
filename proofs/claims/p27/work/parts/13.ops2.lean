set_option maxRecDepth 100000 in
set_option maxHeartbeats 4000000 in
theorem c_X1_keepFull (l : Launch) (D : va_G) (k : Nat → ClassId) (ad : Nat → Nat) (M : Nat → Nat → Nat) (O : Nat → Nat → Int32) (i : Nat) (hs : zSi M i) (kk fr to : Nat) (hi : i < 4) (hfull : ¬ M 7 i < 8) : Met l yX1_keepContract wsX1_keepContract ({ frames := 0, cells := 0, slots := 0, locals := 0 }) (va_Pc [.ref (ad (4 + 4 * i)), .int (nI kk), .int (nI fr), .int (nI to)] (zR D k (20 + 2 * M 0 1) ad (cX k ad M O))) (vp_Si (fun r => r = bI (M 7 i < 8))) 0 0 (fun _ => False) := by
  refine Met.ofW (cc := cX1_keepContract) (maxL := 4) (ret := (some .boolean)) (by decide) rfl ?_
  intro p e s m args below meth c s₁ B hml hv
  obtain ⟨rfl, hP, hK⟩ := hv
  have hx := B.exec
  have hb := B.bytes
  have hr := B.returns
  have hts := atoms_spec (ws := wsX1_keepContract) B.pre
  have hown : s.vm.findClass RX1 = some m.cls := findClass_of_methodNamed B.named
  have hlocks := B.notSynchronized
  have F : CallFix p m c cX1_keepContract 4 s _ wsX1_keepContract RX1 := ⟨hx, hb, hml, hown, hts⟩
  have hl := lv_entry ([.ref (ad (4 + 4 * i)), .int (nI kk), .int (nI fr), .int (nI to)]) (n := 4) (Nat.le_of_ble_eq_true rfl)
  rw [lg_entry_eq]
  generalize (lg_sl ([.ref (ad (4 + 4 * i)), .int (nI kk), .int (nI fr), .int (nI to)]) ++ List.replicate (4 - (lg_sl ([.ref (ad (4 + 4 * i)), .int (nI kk), .int (nI fr), .int (nI to)])).length) Slot.unset).toArray = ls at hl ⊢
  have hl : lv_has ls 4 [(0, .ref (ad (4 + 4 * i))), (1, .int (nI kk)), (2, .int (nI fr)), (3, .int (nI to))] := hl
  have hi1 : ∀ w ∈ u_ws RX1 TX1 9, w ∈ wsX1_keepContract := by decide +kernel
  obtain ⟨hd1, hd2, hd3, hd4⟩ := id hs
  refine lv_aload_n hx hb dX1_keepContract_0 rfl (lv_at hl 0 rfl) ?_
  refine z_get (C := RX1) (T := TX1) (N := 9) (ci := 1) (v := .int (nI (M 7 i))) F hK hP hi1 rfl (4 + 4 * i) 6 (by have := hi; omega) (cX_s hi) (by decide) rfl (by decide +kernel) dX1_keepContract_1 ?_
  refine lv_bipush (v := nI 8) hx hb dX1_keepContract_4 (by decide) ?_
  refine z_icmp_lt (tgt := 11) F (by omega) (by omega) dX1_keepContract_6 (by decide) (fun c1 => ?_) (fun c1 => ?_)
  · exact absurd c1 (by omega)
  · refine lv_iconst (v := nI 0) hx hb dX1_keepContract_9 (by decide) ?_
    exact W.zret (v := nI 0) hx hb hr rfl (fun t ht hW => ⟨nI 0, rfl, (bI_f (by omega)).symm, ht⟩) (fun q h => by cases h) dX1_keepContract_10
set_option maxRecDepth 100000 in
set_option maxHeartbeats 4000000 in
theorem c_X2_addContract (l : Launch) (hfl : l.stackTraces = false) (sa : Nat → Nat) (D : va_G) (k : Nat → ClassId) (ad : Nat → Nat) (M : Nat → Nat → Nat) (O : Nat → Nat → Int32) (sz : Nat) (hI : zInv M) (p0 p1 p2 p3 : Int32) : vx_Met l yX2_addContract wsX2_addContract ({ frames := 8, cells := 5, slots := 30, locals := 124 }) (va_Pc [.ref (ad 0), .int p0, .int p1, .int p2, .int p3] (zPre D k ad M O sz sa)) (zQop D k ad M (kcM M (ix p0) (ix p1) (ix p2) (ix p3)) (O) (va_A (zw (20 + 2 * M 0 1) ad (cX k ad M O)) sz) (x3 (zI 4 p0) ((nI 1 ≤ p1 ∧ p1 ≤ nI 15) ∧ (nI 0 ≤ p2 ∧ p2 ≤ nI 1000) ∧ (p2 ≤ p3 ∧ p3 ≤ nI 1000)) (M 7 (ix p0) < 8)) (nI (kcM M (ix p0) (ix p1) (ix p2) (ix p3) 7 (ix p0)))) (zX (fun E => exC E (x3 (zI 4 p0) ((nI 1 ≤ p1 ∧ p1 ≤ nI 15) ∧ (nI 0 ≤ p2 ∧ p2 ≤ nI 1000) ∧ (p2 ≤ p3 ∧ p3 ≤ nI 1000)) (M 7 (ix p0) < 8)))) 5 30 (va_A (zw (20 + 2 * M 0 1) ad (cX k ad M O)) sz) := by
  refine vx_ofW (cc := cX2_addContract) (maxL := 7) (ret := (some .int)) (by decide) rfl ?_
  intro p e s m args below meth c s₁ B hml hnox hv
  obtain ⟨rfl, ⟨hsz, ⟨hP, hK⟩, hD0⟩, hE⟩ := hv
  have hx := B.exec
  have hb := B.bytes
  have hr := B.returns
  have hts := atoms_spec (ws := wsX2_addContract) B.pre
  have hown : s.vm.findClass RX2 = some m.cls := findClass_of_methodNamed B.named
  have hlocks := B.notSynchronized
  have F : CallFix p m c cX2_addContract 7 s _ wsX2_addContract RX2 := ⟨hx, hb, hml, hown, hts⟩
  subst hsz
  have hD := hD0.self (sz := s.heap.size)
  generalize hAe : va_A (zw (20 + 2 * M 0 1) ad (cX k ad M O)) s.heap.size = A at hD hE ⊢
  have hA : ∀ q : Nat, s.heap.size ≤ q → A q := fun q h => by rw [← hAe]; exact Or.inr h
  have hS0 : va_S noA s.heap s.heap [] := va_S.rf
  obtain ⟨hI1, hI2, hI3, hI4, hI5, hI6, hI7⟩ := id hI
  have hl := lv_entry ([.ref (ad 0), .int p0, .int p1, .int p2, .int p3]) (n := 7) (Nat.le_of_ble_eq_true rfl)
  rw [lg_entry_eq]
  generalize (lg_sl ([.ref (ad 0), .int p0, .int p1, .int p2, .int p3]) ++ List.replicate (7 - (lg_sl ([.ref (ad 0), .int p0, .int p1, .int p2, .int p3])).length) Slot.unset).toArray = ls at hl ⊢
  have hl : lv_has ls 7 [(0, .ref (ad 0)), (1, .int p0), (2, .int p1), (3, .int p2), (4, .int p3)] := hl
  have hi1 : ∀ w ∈ u_ws RX1 TX1 9, w ∈ wsX2_addContract := by decide +kernel
  refine lv_aload_n hx hb dX2_addContract_0 rfl (lv_at hl 0 rfl) ?_
  refine lv_iload_n hx hb dX2_addContract_1 rfl (lv_at hl 1 rfl) ?_
  refine z_xVq (qc := (RX2, TX2, 5)) (As := [.int p0]) (rest := []) (0) F (c_X2_siteAt l hfl sa D k ad M O p0) (cwV 1 hts gX2_addContract_X2_siteAt rfl rfl rfl (by decide +kernel) ⟨Nat.le_of_ble_eq_true rfl, Nat.le_of_ble_eq_true rfl⟩) hK hP (by omega) cX_0 rfl hE hS0 hnox hlocks rfl hl.1 rfl (Nat.le_of_ble_eq_true rfl) dX2_addContract_2 ⟨Nat.le_of_ble_eq_true rfl, Nat.le_of_ble_eq_true rfl⟩ (Nat.le_of_ble_eq_true rfl) (Nat.le_of_ble_eq_true rfl) (fun E hpx => by obtain ⟨rfl, zz1⟩ := hpx; exact exC_1 (fun zz2 => zz1 zz2)) (fun a9 ha9 H1 locs1 hz1 hk1 hS0 => ?_)
  replace hP := z_keptP hP hk1
  obtain ⟨i, hi, rfl, rfl⟩ := ha9
  try rw [ix_nI (show i < 2 ^ 31 by omega)]
  have xa : zI 4 (nI i) := ⟨i, hi, rfl⟩
  obtain ⟨hs, ho⟩ := hI3 i hi
  obtain ⟨hd1, hd2, hd3, hd4⟩ := id hs
  refine lv_astore (lv' := [(5, .ref (ad (4 + 4 * i))), (0, .ref (ad 0)), (1, .int (nI i)), (2, .int p1), (3, .int p2), (4, .int p3)]) hx hb dX2_addContract_5 hl (by decide) rfl (fun ls hl => ?_)
  refine lv_iload_n hx hb dX2_addContract_7 rfl (lv_at hl 3 rfl) ?_
  refine lv_iconst (v := nI 1) hx hb dX2_addContract_8 (by decide) ?_
  refine lv_bipush (v := nI 15) hx hb dX2_addContract_9 (by decide) ?_
  refine z_xS (As := [.int p1, .int (nI 1), .int (nI 15)]) (rest := []) F (c_X2_checkRange l hfl sa (p1) (nI 1) (nI 15)) (va_cwS 3 hts gX2_addContract_X2_checkRange rfl rfl rfl (by decide +kernel) ⟨Nat.le_of_ble_eq_true rfl, Nat.le_of_ble_eq_true rfl⟩) hE hS0 hnox hlocks rfl hl.1 rfl (Nat.le_of_ble_eq_true rfl) dX2_addContract_11 ⟨Nat.le_of_ble_eq_true rfl, Nat.le_of_ble_eq_true rfl⟩ (Nat.le_of_ble_eq_true rfl) (Nat.le_of_ble_eq_true rfl) (fun E hpx => by obtain ⟨rfl, zz1⟩ := hpx; exact exC_2 xa (fun zz2 => zz1 zz2.1)) (fun c2 H1 locs1 hz1 hk1 hS0 => ?_)
  replace hP := z_keptP hP hk1
  obtain ⟨b1, hb10, hb1, rfl⟩ := (zB_iff (by omega) (by decide)).mp c2
  try rw [ix_nI (show b1 < 2 ^ 31 by omega)]
  refine lv_iload_n hx hb dX2_addContract_14 rfl (lv_at hl 4 rfl) ?_
  refine lv_iconst (v := nI 0) hx hb dX2_addContract_15 (by decide) ?_
  refine lv_sipush (v := nI 1000) hx hb dX2_addContract_16 (by decide) ?_
  refine z_xS (As := [.int p2, .int (nI 0), .int (nI 1000)]) (rest := []) F (c_X2_checkRange l hfl sa (p2) (nI 0) (nI 1000)) (va_cwS 3 hts gX2_addContract_X2_checkRange rfl rfl rfl (by decide +kernel) ⟨Nat.le_of_ble_eq_true rfl, Nat.le_of_ble_eq_true rfl⟩) hE hS0 hnox hlocks rfl hl.1 rfl (Nat.le_of_ble_eq_true rfl) dX2_addContract_19 ⟨Nat.le_of_ble_eq_true rfl, Nat.le_of_ble_eq_true rfl⟩ (Nat.le_of_ble_eq_true rfl) (Nat.le_of_ble_eq_true rfl) (fun E hpx => by obtain ⟨rfl, zz1⟩ := hpx; exact exC_2 xa (fun zz2 => zz1 zz2.2.1)) (fun c3 H1 locs1 hz1 hk1 hS0 => ?_)
  replace hP := z_keptP hP hk1
  obtain ⟨b2, hb20, hb2, rfl⟩ := (zB_iff (by omega) (by decide)).mp c3
  try rw [ix_nI (show b2 < 2 ^ 31 by omega)]
  refine lv_iload hx hb dX2_addContract_22 (lv_at hl 5 rfl) ?_
  refine lv_iload_n hx hb dX2_addContract_24 rfl (lv_at hl 4 rfl) ?_
  refine lv_sipush (v := nI 1000) hx hb dX2_addContract_25 (by decide) ?_
  refine z_xS (As := [.int p3, .int (nI b2), .int (nI 1000)]) (rest := []) F (c_X2_checkRange l hfl sa (p3) (nI b2) (nI 1000)) (va_cwS 3 hts gX2_addContract_X2_checkRange rfl rfl rfl (by decide +kernel) ⟨Nat.le_of_ble_eq_true rfl, Nat.le_of_ble_eq_true rfl⟩) hE hS0 hnox hlocks rfl hl.1 rfl (Nat.le_of_ble_eq_true rfl) dX2_addContract_28 ⟨Nat.le_of_ble_eq_true rfl, Nat.le_of_ble_eq_true rfl⟩ (Nat.le_of_ble_eq_true rfl) (Nat.le_of_ble_eq_true rfl) (fun E hpx => by obtain ⟨rfl, zz1⟩ := hpx; exact exC_2 xa (fun zz2 => zz1 zz2.2.2)) (fun c4 H1 locs1 hz1 hk1 hS0 => ?_)
  replace hP := z_keptP hP hk1
  obtain ⟨b3, hb30, hb3, rfl⟩ := (zB_iff (by omega) (by decide)).mp c4
  try rw [ix_nI (show b3 < 2 ^ 31 by omega)]
  refine lv_aload hx hb dX2_addContract_31 (lv_at hl 0 rfl) ?_
  refine lv_iload_n hx hb dX2_addContract_33 rfl (lv_at hl 3 rfl) ?_
  refine lv_iload_n hx hb dX2_addContract_34 rfl (lv_at hl 4 rfl) ?_
  refine lv_iload hx hb dX2_addContract_35 (lv_at hl 5 rfl) ?_
  by_cases hro : M 7 i < 8
  · have hS := zS_mono (B := A) hS0 noA_le
    refine z_mV (qc := (RX1, TX1, 9)) (As := [.int (nI b1), .int (nI b2), .int (nI b3)]) (rest := []) (4 + 4 * i) F (c_X1_keepContract l D k ad M O _ i hs b1 b2 b3 hi) (cwV 3 hts gX2_addContract_X1_keepContract rfl rfl rfl (by decide +kernel) ⟨Nat.le_of_ble_eq_true rfl, Nat.le_of_ble_eq_true rfl⟩) hK hP hD hS hA (by have := hi; omega) (cX_s hi) rfl rfl hl.1 rfl (Nat.le_of_ble_eq_true rfl) dX2_addContract_37 ⟨Nat.le_of_ble_eq_true rfl, Nat.le_of_ble_eq_true rfl⟩ (fun r H locs hr0 hP hD hS => ?_)
    subst hr0
    refine lv_istore (lv' := [(6, .int (bI (M 7 i < 8))), (5, .ref (ad (4 + 4 * i))), (0, .ref (ad 0)), (1, .int (nI i)), (2, .int (nI b1)), (3, .int (nI b2)), (4, .int (nI b3))]) hx hb dX2_addContract_40 hl (by decide) rfl (fun ls hl => ?_)
    refine lv_iload hx hb dX2_addContract_42 (lv_at hl 0 rfl) ?_
    refine z_xSn (As := [.int (bI (M 7 i < 8))]) (rest := []) F (c_X2_checkState l hfl sa (M 7 i < 8)) (va_cwS 1 hts gX2_addContract_X2_checkState rfl rfl rfl (by decide +kernel) ⟨Nat.le_of_ble_eq_true rfl, Nat.le_of_ble_eq_true rfl⟩) hE hS (fun E zz1 => zz1.2 hro) rfl hl.1 rfl (Nat.le_of_ble_eq_true rfl) dX2_addContract_44 ⟨Nat.le_of_ble_eq_true rfl, Nat.le_of_ble_eq_true rfl⟩ (fun hro H1 locs1 hz1 hk1 hS => ?_)
    replace hP := z_keptP hP hk1
    refine lv_aload hx hb dX2_addContract_47 (lv_at hl 1 rfl) ?_
    refine z_get (C := RX1) (T := TX1) (N := 9) (ci := 1) (v := .int (nI ((kcM M i b1 b2 b3) 7 i))) F hK hP hi1 rfl (4 + 4 * i) 6 (by have := hi; omega) (cX_s hi) (by decide) rfl (by decide +kernel) dX2_addContract_49 ?_
    have e01 : kcM M i b1 b2 b3 0 1 = M 0 1 := by unfold kcM; split <;> rfl
    rw [← e01] at hP hD
    refine vx_ret (mc := 5) (ms := 30) (W.widen (k := 5) (n := 30) (Nat.le_of_ble_eq_true rfl) (Nat.le_of_ble_eq_true rfl) ?_)
    exact W.iret (v := nI ((kcM M i b1 b2 b3) 7 i)) hx hb hr (fun t ht hW => ⟨⟨nI ((kcM M i b1 b2 b3) 7 i), ad, rfl, ⟨x3_0 xa ⟨c2, c3, c4⟩ hro, rfl⟩, ⟨⟨by rw [ht]; exact hP, va_K.moved hW.alike hK⟩, hD⟩, fun _ _ => rfl⟩, hS.F ht⟩) hS.2.2 dX2_addContract_52
  · refine z_cV (qc := (RX1, TX1, 9)) (As := [.int (nI b1), .int (nI b2), .int (nI b3)]) (rest := []) (4 + 4 * i) F (c_X1_keepFull l D k ad M O i hs b1 b2 b3 hi hro) (cwV 3 hts gX2_addContract_X1_keepContract rfl rfl rfl (by decide +kernel) ⟨Nat.le_of_ble_eq_true rfl, Nat.le_of_ble_eq_true rfl⟩) hK hP (by have := hi; omega) (cX_s hi) rfl rfl hl.1 rfl (Nat.le_of_ble_eq_true rfl) dX2_addContract_37 ⟨Nat.le_of_ble_eq_true rfl, Nat.le_of_ble_eq_true rfl⟩ (fun r hr => ?_)
    subst hr
    refine lv_istore (lv' := [(6, .int (bI (M 7 i < 8))), (5, .ref (ad (4 + 4 * i))), (0, .ref (ad 0)), (1, .int (nI i)), (2, .int (nI b1)), (3, .int (nI b2)), (4, .int (nI b3))]) hx hb dX2_addContract_40 hl (by decide) rfl (fun ls hl => ?_)
    refine lv_iload hx hb dX2_addContract_42 (lv_at hl 0 rfl) ?_
    refine z_xS (As := [.int (bI (M 7 i < 8))]) (rest := []) F (c_X2_checkState l hfl sa (M 7 i < 8)) (va_cwS 1 hts gX2_addContract_X2_checkState rfl rfl rfl (by decide +kernel) ⟨Nat.le_of_ble_eq_true rfl, Nat.le_of_ble_eq_true rfl⟩) hE hS0 hnox hlocks rfl hl.1 rfl (Nat.le_of_ble_eq_true rfl) dX2_addContract_44 ⟨Nat.le_of_ble_eq_true rfl, Nat.le_of_ble_eq_true rfl⟩ (Nat.le_of_ble_eq_true rfl) (Nat.le_of_ble_eq_true rfl) (fun E hpx => by obtain ⟨rfl, zz1⟩ := hpx; exact exC_3 xa ⟨c2, c3, c4⟩ zz1) (fun c5 H1 locs1 hz1 hk1 hS0 => ?_)
    replace hP := z_keptP hP hk1
    exact absurd c5 hro
set_option maxRecDepth 100000 in
set_option maxHeartbeats 4000000 in
theorem lp_nextGap {p : Program} {l : Launch} {e : Env} {s : State} {m : MethodId} {args : Array Value} {below : List Frame} {meth : Method} {c : Code} {H : Heap} {locs : List Loc} {cells slots : Nat} {Q : State → Prop} {D : va_G} {k : Nat → ClassId} {ad : Nat → Nat} {M : Nat → Nat → Nat} {O : Nat → Nat → Int32} (F : CallFix p m c cX2_nextGap 6 s args wsX2_nextGap RX2) (hK : va_K D vwCl (tyL k) s)
    {i kd : Nat} {v0 : Int32} (hs : zSi M i) (ho : zCo M i) (hi : i < 4) (hkd : kd < 4) (hcs : cells ≤ (headSpec wsX2_nextGap ({ frames := 8, cells := 3, slots := 18, locals := 124 })).room.cells ∧ slots ≤ (headSpec wsX2_nextGap ({ frames := 8, cells := 3, slots := 18, locals := 124 })).room.slots)
    (hP : va_P D vwCl (zw (20 + 2 * M 0 1) ad (cX k ad M O)) H)
    (k0 : ∀ g : Nat, nI g = v0 → ∀ (ls : Array Slot), W p l e (headSpec wsX2_nextGap ({ frames := 8, cells := 3, slots := 18, locals := 124 })).room s m args below meth c H locs cells slots Q (F0 m 43 ls [.int (nI g)]))
    (k1 : (-1 : Int32) = v0 → ∀ (ls : Array Slot), W p l e (headSpec wsX2_nextGap ({ frames := 8, cells := 3, slots := 18, locals := 124 })).room s m args below meth c H locs cells slots Q (F0 m 50 ls [])) :
    ∀ (fu g : Nat), g ≤ 1001 → 1001 < g + fu → ngF M i kd (1001 - g) g = v0 → ∀ (ls : Array Slot), lv_has ls 6 [(5, .int (nI g)), (0, .ref (ad 0)), (2, .int (nI kd)), (4, .ref (ad (4 + 4 * i)))] → W p l e (headSpec wsX2_nextGap ({ frames := 8, cells := 3, slots := 18, locals := 124 })).room s m args below meth c H locs cells slots Q (F0 m 22 ls []) := by
  have hx := F.1
  have hb := F.2.1
  have hts := F.2.2.2.2
  have hown := F.2.2.2.1
  intro fu
  induction fu with
  | zero => intro g h1; omega
  | succ fu ih =>
    intro g h1 h2 hv ls hl
    refine lv_iload hx hb dX2_nextGap_22 (lv_at hl 0 rfl) ?_
    refine lv_sipush (v := nI 1000) hx hb dX2_nextGap_24 (by decide) ?_
    refine z_icmp_gt (tgt := 50) F (by omega) (by omega) dX2_nextGap_27 (by decide) (fun c6 => ?_) (fun c6 => ?_)
    · obtain rfl : g = 1001 := by omega
      exact k1 (by rw [← hv]; rfl) ls
    · refine lv_aload hx hb dX2_nextGap_30 (lv_at hl 3 rfl) ?_
      refine lv_iload_n hx hb dX2_nextGap_32 rfl (lv_at hl 2 rfl) ?_
      refine lv_iload hx hb dX2_nextGap_33 (lv_at hl 0 rfl) ?_
      refine z_cV (qc := (RX1, TX1, 9)) (As := [.int (nI kd), .int (nI g)]) (rest := []) (4 + 4 * i) F (c_X1_covers l D k ad M O i hs ho kd g hi hkd (by omega)) (cwV 2 hts gX2_nextGap_X1_covers rfl rfl rfl (by decide +kernel) ⟨Nat.le_of_ble_eq_true rfl, Nat.le_of_ble_eq_true rfl⟩) hK hP (by have := hi; omega) (cX_s hi) rfl rfl hl.1 rfl (Nat.le_of_ble_eq_true rfl) dX2_nextGap_35 hcs (fun r hr => ?_)
      subst hr
      refine z_ifb_ne (tgt := 44) F dX2_nextGap_38 (by decide) (fun c7 => ?_) (fun c7 => ?_)
      · refine lv_iinc (v := nI (g + 1)) (lv' := [(5, .int (nI (g + 1))), (0, .ref (ad 0)), (2, .int (nI kd)), (4, .ref (ad (4 + 4 * i)))]) hx hb dX2_nextGap_44 hl (k := 0) rfl (nI_1 g) (by decide) rfl (fun ls hl => ?_)
        refine lv_goto (tgt := 22) hx hb dX2_nextGap_47 (by decide) ?_
        have e1 : ngF M i kd (1001 - g) g = ngF M i kd (1001 - (g + 1)) (g + 1) := by rw [show 1001 - g = (1001 - (g + 1)) + 1 by omega]; exact ngF_t c7
        exact ih (g + 1) (by omega) (by omega) (by rw [← e1]; exact hv) ls (lv_sub hl [0, 1, 2, 3] rfl)
      · refine lv_iload hx hb dX2_nextGap_41 (lv_at hl 0 rfl) ?_
        have e1 : ngF M i kd (1001 - g) g = nI g := by rw [show 1001 - g = (1000 - g) + 1 by omega]; exact ngF_f c7
        exact k0 g (by rw [← hv]; exact e1.symm) ls
set_option maxRecDepth 100000 in
set_option maxHeartbeats 4000000 in
theorem c_X2_nextGap (l : Launch) (hfl : l.stackTraces = false) (sa : Nat → Nat) (D : va_G) (k : Nat → ClassId) (ad : Nat → Nat) (M : Nat → Nat → Nat) (O : Nat → Nat → Int32) (sz : Nat) (hI : zInv M) (p0 p1 p2 : Int32) : vx_Met l yX2_nextGap wsX2_nextGap ({ frames := 8, cells := 3, slots := 18, locals := 124 }) (va_Pc [.ref (ad 0), .int p0, .int p1, .int p2] (zPre D k ad M O sz sa)) (zQop D k ad M (M) (O) (va_A (zw (20 + 2 * M 0 1) ad (cX k ad M O)) sz) (x3 (zI 4 p0 ∧ zI 4 p1) (nI 0 ≤ p2 ∧ p2 ≤ nI 1000) (True)) (ngF M (ix p0) (ix p1) (1001 - ix p2) (ix p2))) (zX (fun E => exC E (x3 (zI 4 p0 ∧ zI 4 p1) (nI 0 ≤ p2 ∧ p2 ≤ nI 1000) (True)))) 3 18 (va_A (zw (20 + 2 * M 0 1) ad (cX k ad M O)) sz) := by
  refine vx_ofW (cc := cX2_nextGap) (maxL := 6) (ret := (some .int)) (by decide) rfl ?_
  intro p e s m args below meth c s₁ B hml hnox hv
  obtain ⟨rfl, ⟨hsz, ⟨hP, hK⟩, hD0⟩, hE⟩ := hv
  have hx := B.exec
  have hb := B.bytes
  have hr := B.returns
  have hts := atoms_spec (ws := wsX2_nextGap) B.pre
  have hown : s.vm.findClass RX2 = some m.cls := findClass_of_methodNamed B.named
  have hlocks := B.notSynchronized
  have F : CallFix p m c cX2_nextGap 6 s _ wsX2_nextGap RX2 := ⟨hx, hb, hml, hown, hts⟩
  subst hsz
  have hD := hD0.self (sz := s.heap.size)
  generalize hAe : va_A (zw (20 + 2 * M 0 1) ad (cX k ad M O)) s.heap.size = A at hD hE ⊢
  have hA : ∀ q : Nat, s.heap.size ≤ q → A q := fun q h => by rw [← hAe]; exact Or.inr h
  have hS0 : va_S noA s.heap s.heap [] := va_S.rf
  obtain ⟨hI1, hI2, hI3, hI4, hI5, hI6, hI7⟩ := id hI
  have hl := lv_entry ([.ref (ad 0), .int p0, .int p1, .int p2]) (n := 6) (Nat.le_of_ble_eq_true rfl)
  rw [lg_entry_eq]
  generalize (lg_sl ([.ref (ad 0), .int p0, .int p1, .int p2]) ++ List.replicate (6 - (lg_sl ([.ref (ad 0), .int p0, .int p1, .int p2])).length) Slot.unset).toArray = ls at hl ⊢
  have hl : lv_has ls 6 [(0, .ref (ad 0)), (1, .int p0), (2, .int p1), (3, .int p2)] := hl
  refine lv_aload_n hx hb dX2_nextGap_0 rfl (lv_at hl 0 rfl) ?_
  refine lv_iload_n hx hb dX2_nextGap_1 rfl (lv_at hl 1 rfl) ?_
  refine z_xVq (qc := (RX2, TX2, 5)) (As := [.int p0]) (rest := []) (0) F (c_X2_siteAt l hfl sa D k ad M O p0) (cwV 1 hts gX2_nextGap_X2_siteAt rfl rfl rfl (by decide +kernel) ⟨Nat.le_of_ble_eq_true rfl, Nat.le_of_ble_eq_true rfl⟩) hK hP (by omega) cX_0 rfl hE hS0 hnox hlocks rfl hl.1 rfl (Nat.le_of_ble_eq_true rfl) dX2_nextGap_2 ⟨Nat.le_of_ble_eq_true rfl, Nat.le_of_ble_eq_true rfl⟩ (Nat.le_of_ble_eq_true rfl) (Nat.le_of_ble_eq_true rfl) (fun E hpx => by obtain ⟨rfl, zz1⟩ := hpx; exact exC_1 (fun zz2 => zz1 zz2.1)) (fun a9 ha9 H1 locs1 hz1 hk1 hS0 => ?_)
  replace hP := z_keptP hP hk1
  obtain ⟨i, hi, rfl, rfl⟩ := ha9
  try rw [ix_nI (show i < 2 ^ 31 by omega)]
  have xa : zI 4 (nI i) := ⟨i, hi, rfl⟩
  obtain ⟨hs, ho⟩ := hI3 i hi
  obtain ⟨hd1, hd2, hd3, hd4⟩ := id hs
  refine lv_astore (lv' := [(4, .ref (ad (4 + 4 * i))), (0, .ref (ad 0)), (1, .int (nI i)), (2, .int p1), (3, .int p2)]) hx hb dX2_nextGap_5 hl (by decide) rfl (fun ls hl => ?_)
  refine lv_iload_n hx hb dX2_nextGap_7 rfl (lv_at hl 3 rfl) ?_
  refine z_xS (As := [.int p1]) (rest := []) F (c_X2_checkKind l hfl sa p1) (va_cwS 1 hts gX2_nextGap_X2_checkKind rfl rfl rfl (by decide +kernel) ⟨Nat.le_of_ble_eq_true rfl, Nat.le_of_ble_eq_true rfl⟩) hE hS0 hnox hlocks rfl hl.1 rfl (Nat.le_of_ble_eq_true rfl) dX2_nextGap_8 ⟨Nat.le_of_ble_eq_true rfl, Nat.le_of_ble_eq_true rfl⟩ (Nat.le_of_ble_eq_true rfl) (Nat.le_of_ble_eq_true rfl) (fun E hpx => by obtain ⟨rfl, zz1⟩ := hpx; exact exC_1 (fun zz2 => zz1 zz2.2)) (fun c8 H1 locs1 hz1 hk1 hS0 => ?_)
  replace hP := z_keptP hP hk1
  obtain ⟨kd, hkd, rfl⟩ := id c8
  try rw [ix_nI (show kd < 2 ^ 31 by omega)]
  refine lv_iload_n hx hb dX2_nextGap_11 rfl (lv_at hl 4 rfl) ?_
  refine lv_iconst (v := nI 0) hx hb dX2_nextGap_12 (by decide) ?_
  refine lv_sipush (v := nI 1000) hx hb dX2_nextGap_13 (by decide) ?_
  refine z_xS (As := [.int p2, .int (nI 0), .int (nI 1000)]) (rest := []) F (c_X2_checkRange l hfl sa (p2) (nI 0) (nI 1000)) (va_cwS 3 hts gX2_nextGap_X2_checkRange rfl rfl rfl (by decide +kernel) ⟨Nat.le_of_ble_eq_true rfl, Nat.le_of_ble_eq_true rfl⟩) hE hS0 hnox hlocks rfl hl.1 rfl (Nat.le_of_ble_eq_true rfl) dX2_nextGap_16 ⟨Nat.le_of_ble_eq_true rfl, Nat.le_of_ble_eq_true rfl⟩ (Nat.le_of_ble_eq_true rfl) (Nat.le_of_ble_eq_true rfl) (fun E hpx => by obtain ⟨rfl, zz1⟩ := hpx; exact exC_2 ⟨xa, c8⟩ (fun zz2 => zz1 zz2)) (fun c9 H1 locs1 hz1 hk1 hS0 => ?_)
  replace hP := z_keptP hP hk1
  obtain ⟨b2, hb20, hb2, rfl⟩ := (zB_iff (by omega) (by decide)).mp c9
  try rw [ix_nI (show b2 < 2 ^ 31 by omega)]
  refine lv_iload_n hx hb dX2_nextGap_19 rfl (lv_at hl 4 rfl) ?_
  refine lv_istore (lv' := [(5, .int (nI b2)), (4, .ref (ad (4 + 4 * i))), (0, .ref (ad 0)), (1, .int (nI i)), (2, .int (nI kd)), (3, .int (nI b2))]) hx hb dX2_nextGap_20 hl (by decide) rfl (fun ls hl => ?_)
  have hS := zS_mono (B := A) hS0 noA_le
  refine lp_nextGap (v0 := ngF M i kd (1001 - b2) b2) F hK hs ho hi hkd ⟨Nat.le_of_ble_eq_true rfl, Nat.le_of_ble_eq_true rfl⟩ hP (fun g hv ls => ?_) (fun hv ls => ?_) 1002 b2 (by omega) (by omega) rfl ls (lv_sub hl [0, 2, 4, 1] rfl)
  · refine vx_ret (mc := 3) (ms := 18) (W.widen (k := 3) (n := 18) (Nat.le_of_ble_eq_true rfl) (Nat.le_of_ble_eq_true rfl) ?_)
    exact W.iret (v := nI g) hx hb hr (fun t ht hW => ⟨⟨nI g, ad, rfl, ⟨x3_0 ⟨xa, c8⟩ c9 trivial, hv⟩, ⟨⟨by rw [ht]; exact hP, va_K.moved hW.alike hK⟩, hD⟩, fun _ _ => rfl⟩, hS.F ht⟩) hS.2.2 dX2_nextGap_43
  · refine lv_iconst (v := (-1)) hx hb dX2_nextGap_50 (by decide) ?_
    refine vx_ret (mc := 3) (ms := 18) (W.widen (k := 3) (n := 18) (Nat.le_of_ble_eq_true rfl) (Nat.le_of_ble_eq_true rfl) ?_)
    exact W.iret (v := (-1)) hx hb hr (fun t ht hW => ⟨⟨(-1), ad, rfl, ⟨x3_0 ⟨xa, c8⟩ c9 trivial, hv⟩, ⟨⟨by rw [ht]; exact hP, va_K.moved hW.alike hK⟩, hD⟩, fun _ _ => rfl⟩, hS.F ht⟩) hS.2.2 dX2_nextGap_51
set_option maxRecDepth 100000 in
set_option maxHeartbeats 4000000 in
theorem lp_hoursOne {p : Program} {l : Launch} {e : Env} {s : State} {m : MethodId} {args : Array Value} {below : List Frame} {meth : Method} {c : Code} {H : Heap} {locs : List Loc} {cells slots : Nat} {Q : State → Prop} {D : va_G} {k : Nat → ClassId} {ad : Nat → Nat} {M : Nat → Nat → Nat} {O : Nat → Nat → Int32} (F : CallFix p m c cX2_hoursOneByOne 7 s args wsX2_hoursOneByOne RX2) (hK : va_K D vwCl (tyL k) s)
    {i b1 b2 : Nat} (hs : zSi M i) (hi : i < 4) (hb2 : b2 ≤ 24000) (hcs : cells ≤ (headSpec wsX2_hoursOneByOne ({ frames := 8, cells := 3, slots := 18, locals := 124 })).room.cells ∧ slots ≤ (headSpec wsX2_hoursOneByOne ({ frames := 8, cells := 3, slots := 18, locals := 124 })).room.slots)
    (hP : va_P D vwCl (zw (20 + 2 * M 0 1) ad (cX k ad M O)) H)
    (k0 : ∀ (ls : Array Slot), lv_has ls 7 [(5, .int (nI (hN M i b2 - hN M i b1)))] → W p l e (headSpec wsX2_hoursOneByOne ({ frames := 8, cells := 3, slots := 18, locals := 124 })).room s m args below meth c H locs cells slots Q (F0 m 54 ls [])) :
    ∀ (fu h : Nat), b1 ≤ h → h ≤ b2 → b2 < h + fu → ∀ (ls : Array Slot), lv_has ls 7 [(6, .int (nI h)), (5, .int (nI (hN M i h - hN M i b1))), (0, .ref (ad 0)), (3, .int (nI b2)), (4, .ref (ad (4 + 4 * i)))] → W p l e (headSpec wsX2_hoursOneByOne ({ frames := 8, cells := 3, slots := 18, locals := 124 })).room s m args below meth c H locs cells slots Q (F0 m 29 ls []) := by
  have hx := F.1
  have hb := F.2.1
  have hts := F.2.2.2.2
  have hown := F.2.2.2.1
  intro fu
  induction fu with
  | zero => intro h h1 h2; omega
  | succ fu ih =>
    intro h h1 h2 h3 ls hl
    have hm := hN_mono M i b1 (h - b1)
    rw [show b1 + (h - b1) = h by omega] at hm
    refine lv_iload hx hb dX2_hoursOneByOne_29 (lv_at hl 0 rfl) ?_
    refine lv_iload_n hx hb dX2_hoursOneByOne_31 rfl (lv_at hl 3 rfl) ?_
    refine z_icmp_ge (tgt := 54) F (by omega) (by omega) dX2_hoursOneByOne_32 (by decide) (fun c10 => ?_) (fun c10 => ?_)
    · obtain rfl : h = b2 := by omega
      exact k0 ls (lv_sub hl [1] rfl)
    · refine lv_aload hx hb dX2_hoursOneByOne_35 (lv_at hl 4 rfl) ?_
      refine lv_iload hx hb dX2_hoursOneByOne_37 (lv_at hl 0 rfl) ?_
      refine z_cV (qc := (RX1, TX1, 9)) (As := [.int (nI h)]) (rest := []) (4 + 4 * i) F (c_X1_counts l D k ad M O i hs h hi (by omega)) (cwV 1 hts gX2_hoursOneByOne_X1_counts rfl rfl rfl (by decide +kernel) ⟨Nat.le_of_ble_eq_true rfl, Nat.le_of_ble_eq_true rfl⟩) hK hP (by have := hi; omega) (cX_s hi) rfl rfl hl.1 rfl (Nat.le_of_ble_eq_true rfl) dX2_hoursOneByOne_39 hcs (fun r hr => ?_)
      subst hr
      refine z_ifb_eq (tgt := 48) F dX2_hoursOneByOne_42 (by decide) (fun c11 => ?_) (fun c11 => ?_)
      · refine lv_iinc (v := nI (h + 1)) (lv' := [(6, .int (nI (h + 1))), (5, .int (nI (hN M i h - hN M i b1))), (0, .ref (ad 0)), (3, .int (nI b2)), (4, .ref (ad (4 + 4 * i)))]) hx hb dX2_hoursOneByOne_48 hl (k := 0) rfl (nI_1 h) (by decide) rfl (fun ls hl => ?_)
        refine lv_goto (tgt := 29) hx hb dX2_hoursOneByOne_51 (by decide) ?_
        have e2 : hN M i (h + 1) = hN M i h + (if hrB M i h = true then 1 else 0) := rfl
        rw [if_neg c11] at e2
        have e1 : hN M i (h + 1) - hN M i b1 = hN M i h - hN M i b1 := by omega
        exact ih (h + 1) (by omega) (by omega) (by omega) ls (by rw [e1]; exact lv_sub hl [0, 1, 2, 3, 4] rfl)
      · refine lv_iinc (v := nI ((hN M i h - hN M i b1) + 1)) (lv' := [(5, .int (nI ((hN M i h - hN M i b1) + 1))), (6, .int (nI h)), (0, .ref (ad 0)), (3, .int (nI b2)), (4, .ref (ad (4 + 4 * i)))]) hx hb dX2_hoursOneByOne_45 hl (k := 1) rfl (nI_1 (hN M i h - hN M i b1)) (by decide) rfl (fun ls hl => ?_)
        refine lv_iinc (v := nI (h + 1)) (lv' := [(6, .int (nI (h + 1))), (5, .int (nI ((hN M i h - hN M i b1) + 1))), (0, .ref (ad 0)), (3, .int (nI b2)), (4, .ref (ad (4 + 4 * i)))]) hx hb dX2_hoursOneByOne_48 hl (k := 1) rfl (nI_1 h) (by decide) rfl (fun ls hl => ?_)
        refine lv_goto (tgt := 29) hx hb dX2_hoursOneByOne_51 (by decide) ?_
        have e2 : hN M i (h + 1) = hN M i h + (if hrB M i h = true then 1 else 0) := rfl
        rw [if_pos c11] at e2
        have e1 : hN M i (h + 1) - hN M i b1 = (hN M i h - hN M i b1) + 1 := by omega
        exact ih (h + 1) (by omega) (by omega) (by omega) ls (by rw [e1]; exact lv_sub hl [0, 1, 2, 3, 4] rfl)
set_option maxRecDepth 100000 in
set_option maxHeartbeats 4000000 in
theorem c_X2_hoursOneByOne (l : Launch) (hfl : l.stackTraces = false) (sa : Nat → Nat) (D : va_G) (k : Nat → ClassId) (ad : Nat → Nat) (M : Nat → Nat → Nat) (O : Nat → Nat → Int32) (sz : Nat) (hI : zInv M) (p0 p1 p2 : Int32) : vx_Met l yX2_hoursOneByOne wsX2_hoursOneByOne ({ frames := 8, cells := 3, slots := 18, locals := 124 }) (va_Pc [.ref (ad 0), .int p0, .int p1, .int p2] (zPre D k ad M O sz sa)) (zQop D k ad M (M) (O) (va_A (zw (20 + 2 * M 0 1) ad (cX k ad M O)) sz) (x3 (zI 4 p0) ((nI 0 ≤ p1 ∧ p1 ≤ nI 24000) ∧ (p1 ≤ p2 ∧ p2 ≤ nI 24000)) (True)) (nI (hN M (ix p0) (ix p2) - hN M (ix p0) (ix p1)))) (zX (fun E => exC E (x3 (zI 4 p0) ((nI 0 ≤ p1 ∧ p1 ≤ nI 24000) ∧ (p1 ≤ p2 ∧ p2 ≤ nI 24000)) (True)))) 3 18 (va_A (zw (20 + 2 * M 0 1) ad (cX k ad M O)) sz) := by
  refine vx_ofW (cc := cX2_hoursOneByOne) (maxL := 7) (ret := (some .int)) (by decide) rfl ?_
  intro p e s m args below meth c s₁ B hml hnox hv
  obtain ⟨rfl, ⟨hsz, ⟨hP, hK⟩, hD0⟩, hE⟩ := hv
  have hx := B.exec
  have hb := B.bytes
  have hr := B.returns
  have hts := atoms_spec (ws := wsX2_hoursOneByOne) B.pre
  have hown : s.vm.findClass RX2 = some m.cls := findClass_of_methodNamed B.named
  have hlocks := B.notSynchronized
  have F : CallFix p m c cX2_hoursOneByOne 7 s _ wsX2_hoursOneByOne RX2 := ⟨hx, hb, hml, hown, hts⟩
  subst hsz
  have hD := hD0.self (sz := s.heap.size)
  generalize hAe : va_A (zw (20 + 2 * M 0 1) ad (cX k ad M O)) s.heap.size = A at hD hE ⊢
  have hA : ∀ q : Nat, s.heap.size ≤ q → A q := fun q h => by rw [← hAe]; exact Or.inr h
  have hS0 : va_S noA s.heap s.heap [] := va_S.rf
  obtain ⟨hI1, hI2, hI3, hI4, hI5, hI6, hI7⟩ := id hI
  have hl := lv_entry ([.ref (ad 0), .int p0, .int p1, .int p2]) (n := 7) (Nat.le_of_ble_eq_true rfl)
  rw [lg_entry_eq]
  generalize (lg_sl ([.ref (ad 0), .int p0, .int p1, .int p2]) ++ List.replicate (7 - (lg_sl ([.ref (ad 0), .int p0, .int p1, .int p2])).length) Slot.unset).toArray = ls at hl ⊢
  have hl : lv_has ls 7 [(0, .ref (ad 0)), (1, .int p0), (2, .int p1), (3, .int p2)] := hl
  refine lv_aload_n hx hb dX2_hoursOneByOne_0 rfl (lv_at hl 0 rfl) ?_
  refine lv_iload_n hx hb dX2_hoursOneByOne_1 rfl (lv_at hl 1 rfl) ?_
  refine z_xVq (qc := (RX2, TX2, 5)) (As := [.int p0]) (rest := []) (0) F (c_X2_siteAt l hfl sa D k ad M O p0) (cwV 1 hts gX2_hoursOneByOne_X2_siteAt rfl rfl rfl (by decide +kernel) ⟨Nat.le_of_ble_eq_true rfl, Nat.le_of_ble_eq_true rfl⟩) hK hP (by omega) cX_0 rfl hE hS0 hnox hlocks rfl hl.1 rfl (Nat.le_of_ble_eq_true rfl) dX2_hoursOneByOne_2 ⟨Nat.le_of_ble_eq_true rfl, Nat.le_of_ble_eq_true rfl⟩ (Nat.le_of_ble_eq_true rfl) (Nat.le_of_ble_eq_true rfl) (fun E hpx => by obtain ⟨rfl, zz1⟩ := hpx; exact exC_1 (fun zz2 => zz1 zz2)) (fun a9 ha9 H1 locs1 hz1 hk1 hS0 => ?_)
  replace hP := z_keptP hP hk1
  obtain ⟨i, hi, rfl, rfl⟩ := ha9
  try rw [ix_nI (show i < 2 ^ 31 by omega)]
  have xa : zI 4 (nI i) := ⟨i, hi, rfl⟩
  obtain ⟨hs, ho⟩ := hI3 i hi
  obtain ⟨hd1, hd2, hd3, hd4⟩ := id hs
  refine lv_astore (lv' := [(4, .ref (ad (4 + 4 * i))), (0, .ref (ad 0)), (1, .int (nI i)), (2, .int p1), (3, .int p2)]) hx hb dX2_hoursOneByOne_5 hl (by decide) rfl (fun ls hl => ?_)
  refine lv_iload_n hx hb dX2_hoursOneByOne_7 rfl (lv_at hl 3 rfl) ?_
  refine lv_iconst (v := nI 0) hx hb dX2_hoursOneByOne_8 (by decide) ?_
  refine lv_sipush (v := nI 24000) hx hb dX2_hoursOneByOne_9 (by decide) ?_
  refine z_xS (As := [.int p1, .int (nI 0), .int (nI 24000)]) (rest := []) F (c_X2_checkRange l hfl sa (p1) (nI 0) (nI 24000)) (va_cwS 3 hts gX2_hoursOneByOne_X2_checkRange rfl rfl rfl (by decide +kernel) ⟨Nat.le_of_ble_eq_true rfl, Nat.le_of_ble_eq_true rfl⟩) hE hS0 hnox hlocks rfl hl.1 rfl (Nat.le_of_ble_eq_true rfl) dX2_hoursOneByOne_12 ⟨Nat.le_of_ble_eq_true rfl, Nat.le_of_ble_eq_true rfl⟩ (Nat.le_of_ble_eq_true rfl) (Nat.le_of_ble_eq_true rfl) (fun E hpx => by obtain ⟨rfl, zz1⟩ := hpx; exact exC_2 xa (fun zz2 => zz1 zz2.1)) (fun c12 H1 locs1 hz1 hk1 hS0 => ?_)
  replace hP := z_keptP hP hk1
  obtain ⟨b1, hb10, hb1, rfl⟩ := (zB_iff (by omega) (by decide)).mp c12
  try rw [ix_nI (show b1 < 2 ^ 31 by omega)]
  refine lv_iload_n hx hb dX2_hoursOneByOne_15 rfl (lv_at hl 4 rfl) ?_
  refine lv_iload_n hx hb dX2_hoursOneByOne_16 rfl (lv_at hl 3 rfl) ?_
  refine lv_sipush (v := nI 24000) hx hb dX2_hoursOneByOne_17 (by decide) ?_
  refine z_xS (As := [.int p2, .int (nI b1), .int (nI 24000)]) (rest := []) F (c_X2_checkRange l hfl sa (p2) (nI b1) (nI 24000)) (va_cwS 3 hts gX2_hoursOneByOne_X2_checkRange rfl rfl rfl (by decide +kernel) ⟨Nat.le_of_ble_eq_true rfl, Nat.le_of_ble_eq_true rfl⟩) hE hS0 hnox hlocks rfl hl.1 rfl (Nat.le_of_ble_eq_true rfl) dX2_hoursOneByOne_20 ⟨Nat.le_of_ble_eq_true rfl, Nat.le_of_ble_eq_true rfl⟩ (Nat.le_of_ble_eq_true rfl) (Nat.le_of_ble_eq_true rfl) (fun E hpx => by obtain ⟨rfl, zz1⟩ := hpx; exact exC_2 xa (fun zz2 => zz1 zz2.2)) (fun c13 H1 locs1 hz1 hk1 hS0 => ?_)
  replace hP := z_keptP hP hk1
  obtain ⟨b2, hb20, hb2, rfl⟩ := (zB_iff (by omega) (by decide)).mp c13
  try rw [ix_nI (show b2 < 2 ^ 31 by omega)]
  refine lv_iconst (v := nI 0) hx hb dX2_hoursOneByOne_23 (by decide) ?_
  refine lv_istore (lv' := [(5, .int (nI 0)), (4, .ref (ad (4 + 4 * i))), (0, .ref (ad 0)), (1, .int (nI i)), (2, .int (nI b1)), (3, .int (nI b2))]) hx hb dX2_hoursOneByOne_24 hl (by decide) rfl (fun ls hl => ?_)
  refine lv_iload_n hx hb dX2_hoursOneByOne_26 rfl (lv_at hl 4 rfl) ?_
  refine lv_istore (lv' := [(6, .int (nI b1)), (5, .int (nI 0)), (4, .ref (ad (4 + 4 * i))), (0, .ref (ad 0)), (1, .int (nI i)), (2, .int (nI b1)), (3, .int (nI b2))]) hx hb dX2_hoursOneByOne_27 hl (by decide) rfl (fun ls hl => ?_)
  have hS := zS_mono (B := A) hS0 noA_le
  refine lp_hoursOne F hK hs hi (by omega) ⟨Nat.le_of_ble_eq_true rfl, Nat.le_of_ble_eq_true rfl⟩ hP (fun ls hl => ?_) (b2 + 1) b1 (Nat.le_refl _) (by omega) (by omega) ls (by rw [Nat.sub_self]; exact lv_sub hl [0, 1, 3, 6, 2] rfl)
  refine lv_iload hx hb dX2_hoursOneByOne_54 (lv_at hl 0 rfl) ?_
  refine vx_ret (mc := 3) (ms := 18) (W.widen (k := 3) (n := 18) (Nat.le_of_ble_eq_true rfl) (Nat.le_of_ble_eq_true rfl) ?_)
  exact W.iret (v := nI (hN M i b2 - hN M i b1)) hx hb hr (fun t ht hW => ⟨⟨nI (hN M i b2 - hN M i b1), ad, rfl, ⟨x3_0 xa ⟨c12, c13⟩ trivial, rfl⟩, ⟨⟨by rw [ht]; exact hP, va_K.moved hW.alike hK⟩, hD⟩, fun _ _ => rfl⟩, hS.F ht⟩) hS.2.2 dX2_hoursOneByOne_56
set_option maxRecDepth 100000 in
set_option maxHeartbeats 4000000 in
theorem lp_pass {p : Program} {l : Launch} {e : Env} {s : State} {m : MethodId} {args : Array Value} {below : List Frame} {meth : Method} {c : Code} {Q : State → Prop} {D : va_G} {k : Nat → ClassId} {ad : Nat → Nat} {M : Nat → Nat → Nat} {O : Nat → Nat → Int32} (F : CallFix p m c cX2_pass 6 s args wsX2_pass RX2) (hK : va_K D vwCl (tyL k) s)
    {A : Nat → Prop} {cells slots h0 : Nat} (hA : ∀ q : Nat, s.heap.size ≤ q → A q) (hcs : cells + 0 ≤ (headSpec wsX2_pass ({ frames := 8, cells := 2, slots := 12, locals := 124 })).room.cells ∧ slots + 0 ≤ (headSpec wsX2_pass ({ frames := 8, cells := 2, slots := 12, locals := 124 })).room.slots) (hca : ∀ c, c < M 0 1 → zCa M c) (hsi : ∀ i, i < 4 → zSi M i) (h40 : M 0 1 ≤ 40) (ht1 : M 0 0 + h0 ≤ 24000)
    (k0 : ∀ (H : Heap) (locs : List Loc), va_P D vwCl (zw (20 + 2 * M 0 1) ad (cX k ad (rkM M (M 0 0) (M 0 0 + h0) (M 0 1)) O)) H → va_D A (zw (20 + 2 * M 0 1) ad (cX k ad (rkM M (M 0 0) (M 0 0 + h0) (M 0 1)) O)) → va_S A s.heap H locs → ∀ (ls : Array Slot), lv_has ls 6 [(0, .ref (ad 0)), (1, .int (nI h0))] → W p l e (headSpec wsX2_pass ({ frames := 8, cells := 2, slots := 12, locals := 124 })).room s m args below meth c H locs cells slots Q (F0 m 77 ls [])) :
    ∀ (fu i : Nat) (H : Heap) (locs : List Loc), i ≤ 40 → 40 < i + fu → va_P D vwCl (zw (20 + 2 * M 0 1) ad (cX k ad (rkM M (M 0 0) (M 0 0 + h0) (min i (M 0 1))) O)) H → va_D A (zw (20 + 2 * M 0 1) ad (cX k ad (rkM M (M 0 0) (M 0 0 + h0) (min i (M 0 1))) O)) → va_S A s.heap H locs → ∀ (ls : Array Slot), lv_has ls 6 [(4, .int (nI i)), (0, .ref (ad 0)), (1, .int (nI h0)), (2, .ref (ad 3)), (3, .int (nI 40))] → W p l e (headSpec wsX2_pass ({ frames := 8, cells := 2, slots := 12, locals := 124 })).room s m args below meth c H locs cells slots Q (F0 m 39 ls []) := by
  have hx := F.1
  have hb := F.2.1
  have hts := F.2.2.2.2
  have hown := F.2.2.2.1
  have hi2 : ∀ w ∈ u_ws RX2 TX2 5, w ∈ wsX2_pass := by decide +kernel
  have hi0 : ∀ w ∈ u_ws RX0 TX0 8, w ∈ wsX2_pass := by decide +kernel
  intro fu
  induction fu with
  | zero => intro i H locs h1 h2; omega
  | succ fu ih =>
    intro i H locs h1 h2 hP hD hS ls hl
    refine lv_iload hx hb dX2_pass_39 (lv_at hl 0 rfl) ?_
    refine lv_iload_n hx hb dX2_pass_41 rfl (lv_at hl 4 rfl) ?_
    refine z_icmp_ge (tgt := 77) F (by omega) (by omega) dX2_pass_42 (by decide) (fun c14 => ?_) (fun c14 => ?_)
    · obtain rfl : i = 40 := by omega
      rw [show min 40 (M 0 1) = M 0 1 by omega] at hP hD
      exact k0 H locs hP hD hS ls (lv_sub hl [1, 2] rfl)
    · refine lv_aload_n hx hb dX2_pass_45 rfl (lv_at hl 3 rfl) ?_
      refine lv_iload hx hb dX2_pass_46 (lv_at hl 0 rfl) ?_
      refine z_aldq (v := if i < (rkM M (M 0 0) (M 0 0 + h0) (min i (M 0 1))) 0 1 then some (ad (20 + 2 * i)) else none) F hK hP (3) 3 (by omega) cX_3 rfl (i := nI i) i rfl (by omega) (by decide) rfl dX2_pass_48 ?_
      by_cases hin : i < M 0 1
      · rw [if_pos (show i < (rkM M (M 0 0) (M 0 0 + h0) (min i (M 0 1))) 0 1 from hin)]
        refine z_rf ?_
        rw [show min i (M 0 1) = i by omega] at hP hD
        obtain ⟨hc1, hc2, hc3, hc4, hc5, hc6, hc7⟩ := hca i hin
        refine lv_astore (lv' := [(5, .ref (ad (20 + 2 * i))), (4, .int (nI i)), (0, .ref (ad 0)), (1, .int (nI h0)), (2, .ref (ad 3)), (3, .int (nI 40))]) hx hb dX2_pass_49 hl (by decide) rfl (fun ls hl => ?_)
        refine lv_aload hx hb dX2_pass_51 (lv_at hl 0 rfl) ?_
        refine lv_ifnull hx hb dX2_pass_53 ?_
        refine lv_aload hx hb dX2_pass_56 (lv_at hl 0 rfl) ?_
        refine lv_aload_n hx hb dX2_pass_58 rfl (lv_at hl 2 rfl) ?_
        refine z_get (C := RX2) (T := TX2) (N := 5) (ci := 2) (v := .int (nI ((rkM M (M 0 0) (M 0 0 + h0) i) 0 0))) F hK hP hi2 rfl (0) 4 (by omega) cX_0 (by decide) rfl (by decide +kernel) dX2_pass_59 ?_
        refine lv_aload_n hx hb dX2_pass_62 rfl (lv_at hl 2 rfl) ?_
        refine z_get (C := RX2) (T := TX2) (N := 5) (ci := 2) (v := .int (nI ((rkM M (M 0 0) (M 0 0 + h0) i) 0 0))) F hK hP hi2 rfl (0) 4 (by omega) cX_0 (by decide) rfl (by decide +kernel) dX2_pass_63 ?_
        refine lv_iload_n hx hb dX2_pass_66 rfl (lv_at hl 3 rfl) ?_
        refine z_add F dX2_pass_67 ?_
        refine z_mVv (qc := (RX0, TX0, 8)) (As := [.int (nI ((rkM M (M 0 0) (M 0 0 + h0) i) 0 0)), .int (nI (((rkM M (M 0 0) (M 0 0 + h0) i) 0 0) + h0))]) (rest := []) (20 + 2 * i) F (c_X0_runClocks l D k ad (rkM M (M 0 0) (M 0 0 + h0) i) O _ i (hca i hin) hin (hsi _ hc1) (M 0 0) (M 0 0 + h0) (by omega) (by omega)) (cwV 2 hts gX2_pass_X0_runClocks rfl rfl rfl (by decide +kernel) ⟨Nat.le_of_ble_eq_true rfl, Nat.le_of_ble_eq_true rfl⟩) hK hP hD hS hA (show 20 + 2 * i < 20 + 2 * M 0 1 by have := hin; omega) cX_c rfl rfl hl.1 rfl (Nat.le_of_ble_eq_true rfl) dX2_pass_68 hcs (fun H locs hP hD hS => ?_)
        refine lv_iinc (v := nI (i + 1)) (lv' := [(4, .int (nI (i + 1))), (5, .ref (ad (20 + 2 * i))), (0, .ref (ad 0)), (1, .int (nI h0)), (2, .ref (ad 3)), (3, .int (nI 40))]) hx hb dX2_pass_71 hl (k := 1) rfl (nI_1 i) (by decide) rfl (fun ls hl => ?_)
        refine lv_goto (tgt := 39) hx hb dX2_pass_74 (by decide) ?_
        rw [rkM_s, show i + 1 = min (i + 1) (M 0 1) by omega] at hP hD
        exact ih (i + 1) H locs (by omega) (by omega) hP hD hS ls (lv_sub hl [0, 2, 3, 4, 5] rfl)
      · rw [if_neg (show ¬ i < (rkM M (M 0 0) (M 0 0 + h0) (min i (M 0 1))) 0 1 from hin)]
        refine z_rn ?_
        refine lv_astoreN (lv' := [(5, .null), (4, .int (nI i)), (0, .ref (ad 0)), (1, .int (nI h0)), (2, .ref (ad 3)), (3, .int (nI 40))]) hx hb dX2_pass_49 hl (by decide) rfl (fun ls hl => ?_)
        refine lv_aloadN hx hb dX2_pass_51 (lv_at hl 0 rfl) ?_
        refine lv_ifnullN (tgt := 71) hx hb dX2_pass_53 (by decide) ?_
        refine lv_iinc (v := nI (i + 1)) (lv' := [(4, .int (nI (i + 1))), (5, .null), (0, .ref (ad 0)), (1, .int (nI h0)), (2, .ref (ad 3)), (3, .int (nI 40))]) hx hb dX2_pass_71 hl (k := 1) rfl (nI_1 i) (by decide) rfl (fun ls hl => ?_)
        refine lv_goto (tgt := 39) hx hb dX2_pass_74 (by decide) ?_
        rw [show min i (M 0 1) = min (i + 1) (M 0 1) by omega] at hP hD
        exact ih (i + 1) H locs (by omega) (by omega) hP hD hS ls (lv_sub hl [0, 2, 3, 4, 5] rfl)
set_option maxRecDepth 100000 in
set_option maxHeartbeats 4000000 in
theorem c_X2_pass (l : Launch) (hfl : l.stackTraces = false) (sa : Nat → Nat) (D : va_G) (k : Nat → ClassId) (ad : Nat → Nat) (M : Nat → Nat → Nat) (O : Nat → Nat → Int32) (sz : Nat) (hI : zInv M) (p0 : Int32) : vx_Met l yX2_pass wsX2_pass ({ frames := 8, cells := 2, slots := 12, locals := 124 }) (va_Pc [.ref (ad 0), .int p0] (zPre D k ad M O sz sa)) (zQop D k ad M (zu (rkM M (M 0 0) (M 0 0 + ix p0) (M 0 1)) 0 0 (M 0 0 + ix p0)) (O) (va_A (zw (20 + 2 * M 0 1) ad (cX k ad M O)) sz) (x3 (True) (nI 1 ≤ p0 ∧ p0 ≤ nI 1000) (M 0 0 + ix p0 ≤ 24000)) (nI (M 0 0 + ix p0))) (zX (fun E => exC E (x3 (True) (nI 1 ≤ p0 ∧ p0 ≤ nI 1000) (M 0 0 + ix p0 ≤ 24000)))) 2 12 (va_A (zw (20 + 2 * M 0 1) ad (cX k ad M O)) sz) := by
  refine vx_ofW (cc := cX2_pass) (maxL := 6) (ret := (some .int)) (by decide) rfl ?_
  intro p e s m args below meth c s₁ B hml hnox hv
  obtain ⟨rfl, ⟨hsz, ⟨hP, hK⟩, hD0⟩, hE⟩ := hv
  have hx := B.exec
  have hb := B.bytes
  have hr := B.returns
  have hts := atoms_spec (ws := wsX2_pass) B.pre
  have hown : s.vm.findClass RX2 = some m.cls := findClass_of_methodNamed B.named
  have hlocks := B.notSynchronized
  have F : CallFix p m c cX2_pass 6 s _ wsX2_pass RX2 := ⟨hx, hb, hml, hown, hts⟩
  subst hsz
  have hD := hD0.self (sz := s.heap.size)
  generalize hAe : va_A (zw (20 + 2 * M 0 1) ad (cX k ad M O)) s.heap.size = A at hD hE ⊢
  have hA : ∀ q : Nat, s.heap.size ≤ q → A q := fun q h => by rw [← hAe]; exact Or.inr h
  have hS0 : va_S noA s.heap s.heap [] := va_S.rf
  obtain ⟨hI1, hI2, hI3, hI4, hI5, hI6, hI7⟩ := id hI
  have hl := lv_entry ([.ref (ad 0), .int p0]) (n := 6) (Nat.le_of_ble_eq_true rfl)
  rw [lg_entry_eq]
  generalize (lg_sl ([.ref (ad 0), .int p0]) ++ List.replicate (6 - (lg_sl ([.ref (ad 0), .int p0])).length) Slot.unset).toArray = ls at hl ⊢
  have hl : lv_has ls 6 [(0, .ref (ad 0)), (1, .int p0)] := hl
  have hi2 : ∀ w ∈ u_ws RX2 TX2 5, w ∈ wsX2_pass := by decide +kernel
  refine lv_iload_n hx hb dX2_pass_0 rfl (lv_at hl 1 rfl) ?_
  refine lv_iconst (v := nI 1) hx hb dX2_pass_1 (by decide) ?_
  refine lv_sipush (v := nI 1000) hx hb dX2_pass_2 (by decide) ?_
  refine z_xS (As := [.int p0, .int (nI 1), .int (nI 1000)]) (rest := []) F (c_X2_checkRange l hfl sa (p0) (nI 1) (nI 1000)) (va_cwS 3 hts gX2_pass_X2_checkRange rfl rfl rfl (by decide +kernel) ⟨Nat.le_of_ble_eq_true rfl, Nat.le_of_ble_eq_true rfl⟩) hE hS0 hnox hlocks rfl hl.1 rfl (Nat.le_of_ble_eq_true rfl) dX2_pass_5 ⟨Nat.le_of_ble_eq_true rfl, Nat.le_of_ble_eq_true rfl⟩ (Nat.le_of_ble_eq_true rfl) (Nat.le_of_ble_eq_true rfl) (fun E hpx => by obtain ⟨rfl, zz1⟩ := hpx; exact exC_2 trivial (fun zz2 => zz1 zz2)) (fun c15 H1 locs1 hz1 hk1 hS0 => ?_)
  replace hP := z_keptP hP hk1
  obtain ⟨h0, hh00, hh0, rfl⟩ := (zB_iff (by omega) (by decide)).mp c15
  try rw [ix_nI (show h0 < 2 ^ 31 by omega)]
  refine lv_aload_n hx hb dX2_pass_8 rfl (lv_at hl 0 rfl) ?_
  refine z_get (C := RX2) (T := TX2) (N := 5) (ci := 2) (v := .int (nI (M 0 0))) F hK hP hi2 rfl (0) 4 (by omega) cX_0 (by decide) rfl (by decide +kernel) dX2_pass_9 ?_
  refine lv_iload_n hx hb dX2_pass_12 rfl (lv_at hl 1 rfl) ?_
  refine z_add F dX2_pass_13 ?_
  refine lv_sipush (v := nI 24000) hx hb dX2_pass_14 (by decide) ?_
  refine z_icmp_gt (tgt := 24) F (by omega) (by omega) dX2_pass_17 (by decide) (fun c16 => ?_) (fun c16 => ?_)
  · refine lv_iconst (v := nI 0) hx hb dX2_pass_24 (by decide) ?_
    refine z_top (show nI 0 = bI (M 0 0 + h0 ≤ 24000) from (bI_f (Nat.not_le.mpr c16)).symm) ?_
    refine z_xS (As := [.int (bI (M 0 0 + h0 ≤ 24000))]) (rest := []) F (c_X2_checkState l hfl sa (M 0 0 + h0 ≤ 24000)) (va_cwS 1 hts gX2_pass_X2_checkState rfl rfl rfl (by decide +kernel) ⟨Nat.le_of_ble_eq_true rfl, Nat.le_of_ble_eq_true rfl⟩) hE hS0 hnox hlocks rfl hl.1 rfl (Nat.le_of_ble_eq_true rfl) dX2_pass_25 ⟨Nat.le_of_ble_eq_true rfl, Nat.le_of_ble_eq_true rfl⟩ (Nat.le_of_ble_eq_true rfl) (Nat.le_of_ble_eq_true rfl) (fun E hpx => by obtain ⟨rfl, zz1⟩ := hpx; exact exC_3 trivial c15 zz1) (fun c17 H1 locs1 hz1 hk1 hS0 => ?_)
    replace hP := z_keptP hP hk1
    refine lv_aload_n hx hb dX2_pass_28 rfl (lv_at hl 0 rfl) ?_
    refine z_get (C := RX2) (T := TX2) (N := 5) (ci := 2) (v := .ref (ad 3)) F hK hP hi2 rfl (0) 2 (by omega) cX_0 (by decide) rfl (by decide +kernel) dX2_pass_29 ?_
    refine lv_astore_n (lv' := [(2, .ref (ad 3)), (0, .ref (ad 0)), (1, .int (nI h0))]) hx hb dX2_pass_32 rfl hl (by decide) rfl (fun ls hl => ?_)
    refine lv_aload_n hx hb dX2_pass_33 rfl (lv_at hl 0 rfl) ?_
    refine z_alen F hK hP (3) 3 (by omega) cX_3 rfl 40 rfl dX2_pass_34 ?_
    refine lv_istore_n (lv' := [(3, .int (nI 40)), (2, .ref (ad 3)), (0, .ref (ad 0)), (1, .int (nI h0))]) hx hb dX2_pass_35 rfl hl (by decide) rfl (fun ls hl => ?_)
    refine lv_iconst (v := nI 0) hx hb dX2_pass_36 (by decide) ?_
    refine lv_istore (lv' := [(4, .int (nI 0)), (3, .int (nI 40)), (2, .ref (ad 3)), (0, .ref (ad 0)), (1, .int (nI h0))]) hx hb dX2_pass_37 hl (by decide) rfl (fun ls hl => ?_)
    have hS := zS_mono (B := A) hS0 noA_le
    have e0 : rkM M (M 0 0) (M 0 0 + h0) (min 0 (M 0 1)) = M := by rw [Nat.zero_min, rkM_0]
    refine lp_pass (A := A) (h0 := h0) F hK hA ⟨Nat.le_of_ble_eq_true rfl, Nat.le_of_ble_eq_true rfl⟩ hI5 (fun i hi => (hI3 i hi).1) hI2 c17 (fun H locs hP hD hS ls hl => ?_) 41 0 _ _ (by omega) (by omega) (by rw [e0]; exact hP) (by rw [e0]; exact hD) hS ls (lv_sub hl [0, 3, 4, 2, 1] rfl)
    refine lv_aload_n hx hb dX2_pass_77 rfl (lv_at hl 0 rfl) ?_
    refine lv_dup hx hb dX2_pass_78 rfl ?_
    refine z_get (C := RX2) (T := TX2) (N := 5) (ci := 2) (v := .int (nI ((rkM M (M 0 0) (M 0 0 + h0) (M 0 1)) 0 0))) F hK hP hi2 rfl (0) 4 (by omega) cX_0 (by decide) rfl (by decide +kernel) dX2_pass_79 ?_
    refine lv_iload_n hx hb dX2_pass_82 rfl (lv_at hl 1 rfl) ?_
    refine z_add F dX2_pass_83 ?_
    refine z_put (C := RX2) (T := TX2) (N := 5) (ci := 2) (f' := (cX k ad (zu (rkM M (M 0 0) (M 0 0 + h0) (M 0 1)) 0 0 (((rkM M (M 0 0) (M 0 0 + h0) (M 0 1)) 0 0) + h0)) O)) F hK hP hD hS hi2 rfl tyX2 tyX2_ok nmX2 (0) 4 (by omega) cX_0 (by decide) (Nat.le_of_ble_eq_true rfl) (by decide +kernel) rfl rfl rfl rfl (cX_unow _) dX2_pass_84 (fun H locs hP hD hS => ?_)
    refine lv_aload_n hx hb dX2_pass_87 rfl (lv_at hl 0 rfl) ?_
    refine z_get (C := RX2) (T := TX2) (N := 5) (ci := 2) (v := .int (nI (((rkM M (M 0 0) (M 0 0 + h0) (M 0 1)) 0 0) + h0))) F hK hP hi2 rfl (0) 4 (by omega) cX_0 (by decide) rfl (by decide +kernel) dX2_pass_88 ?_
    refine vx_ret (mc := 2) (ms := 12) (W.widen (k := 2) (n := 12) (Nat.le_of_ble_eq_true rfl) (Nat.le_of_ble_eq_true rfl) ?_)
    exact W.iret (v := nI (((rkM M (M 0 0) (M 0 0 + h0) (M 0 1)) 0 0) + h0)) hx hb hr (fun t ht hW => ⟨⟨nI (((rkM M (M 0 0) (M 0 0 + h0) (M 0 1)) 0 0) + h0), ad, rfl, ⟨x3_0 trivial c15 c17, rfl⟩, ⟨⟨by rw [ht]; exact hP, va_K.moved hW.alike hK⟩, hD⟩, fun _ _ => rfl⟩, hS.F ht⟩) hS.2.2 dX2_pass_91
  · refine lv_iconst (v := nI 1) hx hb dX2_pass_20 (by decide) ?_
    refine lv_goto (tgt := 25) hx hb dX2_pass_21 (by decide) ?_
    refine z_top (show nI 1 = bI (M 0 0 + h0 ≤ 24000) from (bI_t (c16)).symm) ?_
    refine z_xS (As := [.int (bI (M 0 0 + h0 ≤ 24000))]) (rest := []) F (c_X2_checkState l hfl sa (M 0 0 + h0 ≤ 24000)) (va_cwS 1 hts gX2_pass_X2_checkState rfl rfl rfl (by decide +kernel) ⟨Nat.le_of_ble_eq_true rfl, Nat.le_of_ble_eq_true rfl⟩) hE hS0 hnox hlocks rfl hl.1 rfl (Nat.le_of_ble_eq_true rfl) dX2_pass_25 ⟨Nat.le_of_ble_eq_true rfl, Nat.le_of_ble_eq_true rfl⟩ (Nat.le_of_ble_eq_true rfl) (Nat.le_of_ble_eq_true rfl) (fun E hpx => by obtain ⟨rfl, zz1⟩ := hpx; exact exC_3 trivial c15 zz1) (fun c18 H1 locs1 hz1 hk1 hS0 => ?_)
    replace hP := z_keptP hP hk1
    refine lv_aload_n hx hb dX2_pass_28 rfl (lv_at hl 0 rfl) ?_
    refine z_get (C := RX2) (T := TX2) (N := 5) (ci := 2) (v := .ref (ad 3)) F hK hP hi2 rfl (0) 2 (by omega) cX_0 (by decide) rfl (by decide +kernel) dX2_pass_29 ?_
    refine lv_astore_n (lv' := [(2, .ref (ad 3)), (0, .ref (ad 0)), (1, .int (nI h0))]) hx hb dX2_pass_32 rfl hl (by decide) rfl (fun ls hl => ?_)
    refine lv_aload_n hx hb dX2_pass_33 rfl (lv_at hl 0 rfl) ?_
    refine z_alen F hK hP (3) 3 (by omega) cX_3 rfl 40 rfl dX2_pass_34 ?_
    refine lv_istore_n (lv' := [(3, .int (nI 40)), (2, .ref (ad 3)), (0, .ref (ad 0)), (1, .int (nI h0))]) hx hb dX2_pass_35 rfl hl (by decide) rfl (fun ls hl => ?_)
    refine lv_iconst (v := nI 0) hx hb dX2_pass_36 (by decide) ?_
    refine lv_istore (lv' := [(4, .int (nI 0)), (3, .int (nI 40)), (2, .ref (ad 3)), (0, .ref (ad 0)), (1, .int (nI h0))]) hx hb dX2_pass_37 hl (by decide) rfl (fun ls hl => ?_)
    have hS := zS_mono (B := A) hS0 noA_le
    have e0 : rkM M (M 0 0) (M 0 0 + h0) (min 0 (M 0 1)) = M := by rw [Nat.zero_min, rkM_0]
    refine lp_pass (A := A) (h0 := h0) F hK hA ⟨Nat.le_of_ble_eq_true rfl, Nat.le_of_ble_eq_true rfl⟩ hI5 (fun i hi => (hI3 i hi).1) hI2 c18 (fun H locs hP hD hS ls hl => ?_) 41 0 _ _ (by omega) (by omega) (by rw [e0]; exact hP) (by rw [e0]; exact hD) hS ls (lv_sub hl [0, 3, 4, 2, 1] rfl)
    refine lv_aload_n hx hb dX2_pass_77 rfl (lv_at hl 0 rfl) ?_
    refine lv_dup hx hb dX2_pass_78 rfl ?_
    refine z_get (C := RX2) (T := TX2) (N := 5) (ci := 2) (v := .int (nI ((rkM M (M 0 0) (M 0 0 + h0) (M 0 1)) 0 0))) F hK hP hi2 rfl (0) 4 (by omega) cX_0 (by decide) rfl (by decide +kernel) dX2_pass_79 ?_
    refine lv_iload_n hx hb dX2_pass_82 rfl (lv_at hl 1 rfl) ?_
    refine z_add F dX2_pass_83 ?_
    refine z_put (C := RX2) (T := TX2) (N := 5) (ci := 2) (f' := (cX k ad (zu (rkM M (M 0 0) (M 0 0 + h0) (M 0 1)) 0 0 (((rkM M (M 0 0) (M 0 0 + h0) (M 0 1)) 0 0) + h0)) O)) F hK hP hD hS hi2 rfl tyX2 tyX2_ok nmX2 (0) 4 (by omega) cX_0 (by decide) (Nat.le_of_ble_eq_true rfl) (by decide +kernel) rfl rfl rfl rfl (cX_unow _) dX2_pass_84 (fun H locs hP hD hS => ?_)
    refine lv_aload_n hx hb dX2_pass_87 rfl (lv_at hl 0 rfl) ?_
    refine z_get (C := RX2) (T := TX2) (N := 5) (ci := 2) (v := .int (nI (((rkM M (M 0 0) (M 0 0 + h0) (M 0 1)) 0 0) + h0))) F hK hP hi2 rfl (0) 4 (by omega) cX_0 (by decide) rfl (by decide +kernel) dX2_pass_88 ?_
    refine vx_ret (mc := 2) (ms := 12) (W.widen (k := 2) (n := 12) (Nat.le_of_ble_eq_true rfl) (Nat.le_of_ble_eq_true rfl) ?_)
    exact W.iret (v := nI (((rkM M (M 0 0) (M 0 0 + h0) (M 0 1)) 0 0) + h0)) hx hb hr (fun t ht hW => ⟨⟨nI (((rkM M (M 0 0) (M 0 0 + h0) (M 0 1)) 0 0) + h0), ad, rfl, ⟨x3_0 trivial c15 c18, rfl⟩, ⟨⟨by rw [ht]; exact hP, va_K.moved hW.alike hK⟩, hD⟩, fun _ _ => rfl⟩, hS.F ht⟩) hS.2.2 dX2_pass_91
