set_option maxRecDepth 100000 in
set_option maxHeartbeats 4000000 in
/-- Site.countsDay(d) -/
theorem c_X1_countsDay (l : Launch) (D : va_G) (k : Nat → ClassId) (ad : Nat → Nat) (M : Nat → Nat → Nat) (O : Nat → Nat → Int32) (hI : zInv M) (i d : Nat) (hi : i < 4) (hd : d < 2 ^ 31) : Met l yX1_countsDay wsX1_countsDay ({ frames := 0, cells := 0, slots := 0, locals := 0 }) (va_Pc [.ref (ad (4 + 4 * i)), .int (nI d)] (zR D k (20 + 2 * M 0 1) ad (cX k ad M O))) (vp_Si (fun r => r = bI ((M 1 i).testBit (d % 7) = true))) 0 0 (fun _ => False) := by
  refine Met.ofW (cc := cX1_countsDay) (maxL := 2) (ret := (some .boolean)) (by decide) rfl ?_
  intro p e s m args below meth c s₁ B hml hv
  obtain ⟨rfl, hP, hK⟩ := hv
  have hx := B.exec
  have hb := B.bytes
  have hr := B.returns
  have hts := atoms_spec (ws := wsX1_countsDay) B.pre
  have hown : s.vm.findClass RX1 = some m.cls := findClass_of_methodNamed B.named
  have hlocks := B.notSynchronized
  have F : CallFix p m c cX1_countsDay 2 s _ wsX1_countsDay RX1 := ⟨hx, hb, hml, hown, hts⟩
  have hl := lv_entry ([.ref (ad (4 + 4 * i)), .int (nI d)]) (n := 2) (Nat.le_of_ble_eq_true rfl)
  rw [lg_entry_eq]
  generalize (lg_sl ([.ref (ad (4 + 4 * i)), .int (nI d)]) ++ List.replicate (2 - (lg_sl ([.ref (ad (4 + 4 * i)), .int (nI d)])).length) Slot.unset).toArray = ls at hl ⊢
  have hl : lv_has ls 2 [(0, .ref (ad (4 + 4 * i))), (1, .int (nI d))] := hl
  have hi1 : ∀ w ∈ u_ws RX1 TX1 9, w ∈ wsX1_countsDay := by decide +kernel
  obtain ⟨hI1, hI2, hI3, hI4, hI5, hI6, hI7, hI8⟩ := id hI
  obtain ⟨hd1, hd2, hd3, hd4⟩ := hI3 i hi
  refine lv_aload_n hx hb dX1_countsDay_0 rfl (lv_at hl 0 rfl) ?_
  refine z_get (C := RX1) (T := TX1) (N := 9) (ci := 1) (v := .int (nI (M 1 i))) F hK hP hi1 rfl (4 + 4 * i) 0 (by have := hi; omega) (cX_s hi) (by decide) rfl (by decide +kernel) dX1_countsDay_1 ?_
  refine lv_iload_n hx hb dX1_countsDay_4 rfl (lv_at hl 1 rfl) ?_
  refine lv_bipush (v := nI 7) hx hb dX1_countsDay_5 (by decide) ?_
  refine z_rem F (by omega) (by omega) (by omega) dX1_countsDay_7 ?_
  refine lv_ishr hx hb dX1_countsDay_8 ?_
  refine lv_iconst (v := nI 1) hx hb dX1_countsDay_9 (by decide) ?_
  refine lv_iand hx hb dX1_countsDay_10 ?_
  refine z_top (show (nI (M 1 i) >>> (nI (d % 7) &&& 31)) &&& nI 1 = bI ((M 1 i).testBit (d % 7) = true) by rw [bit_shr _ hd1 _ (Nat.mod_lt _ (by decide)), bit_b]) ?_
  refine z_ifb_eq (tgt := 18) F dX1_countsDay_11 (by decide) (fun c1 => ?_) (fun c1 => ?_)
  · refine lv_iconst (v := nI 0) hx hb dX1_countsDay_18 (by decide) ?_
    exact W.zret (v := nI 0) hx hb hr rfl (fun t ht hW => ⟨nI 0, rfl, (bI_f c1).symm, ht⟩) (fun q h => by cases h) dX1_countsDay_19
  · refine lv_iconst (v := nI 1) hx hb dX1_countsDay_14 (by decide) ?_
    refine lv_goto (tgt := 19) hx hb dX1_countsDay_15 (by decide) ?_
    exact W.zret (v := nI 1) hx hb hr rfl (fun t ht hW => ⟨nI 1, rfl, (bI_t c1).symm, ht⟩) (fun q h => by cases h) dX1_countsDay_19
set_option maxRecDepth 100000 in
set_option maxHeartbeats 4000000 in
/-- Site.counts(h) -/
theorem c_X1_counts (l : Launch) (D : va_G) (k : Nat → ClassId) (ad : Nat → Nat) (M : Nat → Nat → Nat) (O : Nat → Nat → Int32) (hI : zInv M) (i h : Nat) (hi : i < 4) (hh : h < 2 ^ 31) : Met l yX1_counts wsX1_counts ({ frames := 1, cells := 0, slots := 0, locals := 21 }) (va_Pc [.ref (ad (4 + 4 * i)), .int (nI h)] (zR D k (20 + 2 * M 0 1) ad (cX k ad M O))) (vp_Si (fun r => r = bI (hrB M i h = true))) 0 0 (fun _ => False) := by
  refine Met.ofW (cc := cX1_counts) (maxL := 3) (ret := (some .boolean)) (by decide) rfl ?_
  intro p e s m args below meth c s₁ B hml hv
  obtain ⟨rfl, hP, hK⟩ := hv
  have hx := B.exec
  have hb := B.bytes
  have hr := B.returns
  have hts := atoms_spec (ws := wsX1_counts) B.pre
  have hown : s.vm.findClass RX1 = some m.cls := findClass_of_methodNamed B.named
  have hlocks := B.notSynchronized
  have F : CallFix p m c cX1_counts 3 s _ wsX1_counts RX1 := ⟨hx, hb, hml, hown, hts⟩
  have hl := lv_entry ([.ref (ad (4 + 4 * i)), .int (nI h)]) (n := 3) (Nat.le_of_ble_eq_true rfl)
  rw [lg_entry_eq]
  generalize (lg_sl ([.ref (ad (4 + 4 * i)), .int (nI h)]) ++ List.replicate (3 - (lg_sl ([.ref (ad (4 + 4 * i)), .int (nI h)])).length) Slot.unset).toArray = ls at hl ⊢
  have hl : lv_has ls 3 [(0, .ref (ad (4 + 4 * i))), (1, .int (nI h))] := hl
  have hi1 : ∀ w ∈ u_ws RX1 TX1 9, w ∈ wsX1_counts := by decide +kernel
  obtain ⟨hI1, hI2, hI3, hI4, hI5, hI6, hI7, hI8⟩ := id hI
  obtain ⟨hd1, hd2, hd3, hd4⟩ := hI3 i hi
  refine lv_iload_n hx hb dX1_counts_0 rfl (lv_at hl 1 rfl) ?_
  refine lv_bipush (v := nI 24) hx hb dX1_counts_1 (by decide) ?_
  refine z_rem F (by omega) (by omega) (by omega) dX1_counts_3 ?_
  refine lv_istore_n (lv' := [(2, .int (nI (h % 24))), (0, .ref (ad (4 + 4 * i))), (1, .int (nI h))]) hx hb dX1_counts_4 rfl hl (by decide) rfl (fun ls hl => ?_)
  refine lv_aload_n hx hb dX1_counts_5 rfl (lv_at hl 1 rfl) ?_
  refine lv_iload_n hx hb dX1_counts_6 rfl (lv_at hl 2 rfl) ?_
  refine lv_bipush (v := nI 24) hx hb dX1_counts_7 (by decide) ?_
  refine z_div F (by omega) (by omega) (by omega) dX1_counts_9 ?_
  refine z_cV (qc := (RX1, TX1, 9)) (As := [.int (nI (h / 24))]) (rest := []) (4 + 4 * i) F (c_X1_countsDay l D k ad M O hI i (h / 24) hi (by omega)) (cwV 1 hts gX1_counts_X1_countsDay rfl rfl rfl (by decide +kernel) ⟨Nat.le_of_ble_eq_true rfl, Nat.le_of_ble_eq_true rfl⟩) hK hP (by have := hi; omega) (cX_s hi) rfl rfl hl.1 rfl (by decide) dX1_counts_10 ⟨Nat.le_of_ble_eq_true rfl, Nat.le_of_ble_eq_true rfl⟩ (fun r hr => ?_)
  subst hr
  refine z_ifb_eq (tgt := 36) F dX1_counts_13 (by decide) (fun c2 => ?_) (fun c2 => ?_)
  · refine lv_iconst (v := nI 0) hx hb dX1_counts_36 (by decide) ?_
    exact W.zret (v := nI 0) hx hb hr rfl (fun t ht hW => ⟨nI 0, rfl, (bI_f (fun z => c2 (by unfold hrB at z; simp only [Bool.and_eq_true] at z; exact z.1))).symm, ht⟩) (fun q h => by cases h) dX1_counts_37
  · refine lv_aload_n hx hb dX1_counts_16 rfl (lv_at hl 1 rfl) ?_
    refine z_get (C := RX1) (T := TX1) (N := 9) (ci := 1) (v := .int (nI (M 2 i))) F hK hP hi1 rfl (4 + 4 * i) 1 (by have := hi; omega) (cX_s hi) (by decide) rfl (by decide +kernel) dX1_counts_17 ?_
    refine lv_iload_n hx hb dX1_counts_20 rfl (lv_at hl 0 rfl) ?_
    refine z_icmp_gt (tgt := 36) F (by omega) (by omega) dX1_counts_21 (by decide) (fun c3 => ?_) (fun c3 => ?_)
    · refine lv_iconst (v := nI 0) hx hb dX1_counts_36 (by decide) ?_
      exact W.zret (v := nI 0) hx hb hr rfl (fun t ht hW => ⟨nI 0, rfl, (bI_f (fun z => by unfold hrB at z; simp only [Bool.and_eq_true, decide_eq_true_eq] at z; omega)).symm, ht⟩) (fun q h => by cases h) dX1_counts_37
    · refine lv_iload_n hx hb dX1_counts_24 rfl (lv_at hl 0 rfl) ?_
      refine lv_aload_n hx hb dX1_counts_25 rfl (lv_at hl 1 rfl) ?_
      refine z_get (C := RX1) (T := TX1) (N := 9) (ci := 1) (v := .int (nI (M 3 i))) F hK hP hi1 rfl (4 + 4 * i) 2 (by have := hi; omega) (cX_s hi) (by decide) rfl (by decide +kernel) dX1_counts_26 ?_
      refine z_icmp_gt (tgt := 36) F (by omega) (by omega) dX1_counts_29 (by decide) (fun c4 => ?_) (fun c4 => ?_)
      · refine lv_iconst (v := nI 0) hx hb dX1_counts_36 (by decide) ?_
        exact W.zret (v := nI 0) hx hb hr rfl (fun t ht hW => ⟨nI 0, rfl, (bI_f (fun z => by unfold hrB at z; simp only [Bool.and_eq_true, decide_eq_true_eq] at z; omega)).symm, ht⟩) (fun q h => by cases h) dX1_counts_37
      · refine lv_iconst (v := nI 1) hx hb dX1_counts_32 (by decide) ?_
        refine lv_goto (tgt := 37) hx hb dX1_counts_33 (by decide) ?_
        exact W.zret (v := nI 1) hx hb hr rfl (fun t ht hW => ⟨nI 1, rfl, (bI_t (by unfold hrB; rw [c2]; simp only [decide_eq_true c3, decide_eq_true c4]; rfl)).symm, ht⟩) (fun q h => by cases h) dX1_counts_37
set_option maxRecDepth 100000 in
set_option maxHeartbeats 4000000 in
/-- Case.isRunning() -/
theorem c_X0_isRunning (l : Launch) (D : va_G) (k : Nat → ClassId) (ad : Nat → Nat) (M : Nat → Nat → Nat) (O : Nat → Nat → Int32) (hI : zInv M) (a : Nat) (ha : a < M 0 1) : Met l yX0_isRunning wsX0_isRunning ({ frames := 0, cells := 0, slots := 0, locals := 0 }) (va_Pc [.ref (ad (20 + 2 * a))] (zR D k (20 + 2 * M 0 1) ad (cX k ad M O))) (vp_Si (fun r => r = bI (M 12 a = 0 ∧ M 14 a = 0))) 0 0 (fun _ => False) := by
  refine Met.ofW (cc := cX0_isRunning) (maxL := 1) (ret := (some .boolean)) (by decide) rfl ?_
  intro p e s m args below meth c s₁ B hml hv
  obtain ⟨rfl, hP, hK⟩ := hv
  have hx := B.exec
  have hb := B.bytes
  have hr := B.returns
  have hts := atoms_spec (ws := wsX0_isRunning) B.pre
  have hown : s.vm.findClass RX0 = some m.cls := findClass_of_methodNamed B.named
  have hlocks := B.notSynchronized
  have F : CallFix p m c cX0_isRunning 1 s _ wsX0_isRunning RX0 := ⟨hx, hb, hml, hown, hts⟩
  have hl := lv_entry ([.ref (ad (20 + 2 * a))]) (n := 1) (Nat.le_of_ble_eq_true rfl)
  rw [lg_entry_eq]
  generalize (lg_sl ([.ref (ad (20 + 2 * a))]) ++ List.replicate (1 - (lg_sl ([.ref (ad (20 + 2 * a))])).length) Slot.unset).toArray = ls at hl ⊢
  have hl : lv_has ls 1 [(0, .ref (ad (20 + 2 * a)))] := hl
  have hi0 : ∀ w ∈ u_ws RX0 TX0 8, w ∈ wsX0_isRunning := by decide +kernel
  obtain ⟨hI1, hI2, hI3, hI4, hI5, hI6, hI7, hI8⟩ := id hI
  obtain ⟨hc1, hc2, hc3, hc4, hc5, hc6, hc7⟩ := hI5 a ha
  refine lv_aload_n hx hb dX0_isRunning_0 rfl (lv_at hl 0 rfl) ?_
  refine z_get (C := RX0) (T := TX0) (N := 8) (ci := 0) (v := .int (nI (M 12 a))) F hK hP hi0 rfl (20 + 2 * a) 3 (by have := ha; omega) cX_c (by decide) rfl (by decide +kernel) dX0_isRunning_1 ?_
  refine z_ifn_ne (tgt := 18) F (by omega) dX0_isRunning_4 (by decide) (fun c5 => ?_) (fun c5 => ?_)
  · refine lv_iconst (v := nI 0) hx hb dX0_isRunning_18 (by decide) ?_
    exact W.zret (v := nI 0) hx hb hr rfl (fun t ht hW => ⟨nI 0, rfl, (bI_f (fun z => c5 z.1)).symm, ht⟩) (fun q h => by cases h) dX0_isRunning_19
  · refine lv_aload_n hx hb dX0_isRunning_7 rfl (lv_at hl 0 rfl) ?_
    refine z_get (C := RX0) (T := TX0) (N := 8) (ci := 0) (v := .int (nI (M 14 a))) F hK hP hi0 rfl (20 + 2 * a) 4 (by have := ha; omega) cX_c (by decide) rfl (by decide +kernel) dX0_isRunning_8 ?_
    refine z_ifn_ne (tgt := 18) F (by omega) dX0_isRunning_11 (by decide) (fun c6 => ?_) (fun c6 => ?_)
    · refine lv_iconst (v := nI 0) hx hb dX0_isRunning_18 (by decide) ?_
      exact W.zret (v := nI 0) hx hb hr rfl (fun t ht hW => ⟨nI 0, rfl, (bI_f (fun z => c6 z.2)).symm, ht⟩) (fun q h => by cases h) dX0_isRunning_19
    · refine lv_iconst (v := nI 1) hx hb dX0_isRunning_14 (by decide) ?_
      refine lv_goto (tgt := 19) hx hb dX0_isRunning_15 (by decide) ?_
      exact W.zret (v := nI 1) hx hb hr rfl (fun t ht hW => ⟨nI 1, rfl, (bI_t ⟨c5, c6⟩).symm, ht⟩) (fun q h => by cases h) dX0_isRunning_19
set_option maxRecDepth 100000 in
set_option maxHeartbeats 4000000 in
/-- Case.hasReached(st) -/
theorem c_X0_hasReached (l : Launch) (D : va_G) (k : Nat → ClassId) (ad : Nat → Nat) (M : Nat → Nat → Nat) (O : Nat → Nat → Int32) (hI : zInv M) (a st : Nat) (ha : a < M 0 1) (hs : st < 2 ^ 31) : Met l yX0_hasReached wsX0_hasReached ({ frames := 0, cells := 0, slots := 0, locals := 0 }) (va_Pc [.ref (ad (20 + 2 * a)), .int (nI st)] (zR D k (20 + 2 * M 0 1) ad (cX k ad M O))) (vp_Si (fun r => r = bI (st < M 16 a))) 0 0 (fun _ => False) := by
  refine Met.ofW (cc := cX0_hasReached) (maxL := 2) (ret := (some .boolean)) (by decide) rfl ?_
  intro p e s m args below meth c s₁ B hml hv
  obtain ⟨rfl, hP, hK⟩ := hv
  have hx := B.exec
  have hb := B.bytes
  have hr := B.returns
  have hts := atoms_spec (ws := wsX0_hasReached) B.pre
  have hown : s.vm.findClass RX0 = some m.cls := findClass_of_methodNamed B.named
  have hlocks := B.notSynchronized
  have F : CallFix p m c cX0_hasReached 2 s _ wsX0_hasReached RX0 := ⟨hx, hb, hml, hown, hts⟩
  have hl := lv_entry ([.ref (ad (20 + 2 * a)), .int (nI st)]) (n := 2) (Nat.le_of_ble_eq_true rfl)
  rw [lg_entry_eq]
  generalize (lg_sl ([.ref (ad (20 + 2 * a)), .int (nI st)]) ++ List.replicate (2 - (lg_sl ([.ref (ad (20 + 2 * a)), .int (nI st)])).length) Slot.unset).toArray = ls at hl ⊢
  have hl : lv_has ls 2 [(0, .ref (ad (20 + 2 * a))), (1, .int (nI st))] := hl
  have hi0 : ∀ w ∈ u_ws RX0 TX0 8, w ∈ wsX0_hasReached := by decide +kernel
  obtain ⟨hI1, hI2, hI3, hI4, hI5, hI6, hI7, hI8⟩ := id hI
  obtain ⟨hc1, hc2, hc3, hc4, hc5, hc6, hc7⟩ := hI5 a ha
  refine lv_iload_n hx hb dX0_hasReached_0 rfl (lv_at hl 1 rfl) ?_
  refine lv_aload_n hx hb dX0_hasReached_1 rfl (lv_at hl 0 rfl) ?_
  refine z_get (C := RX0) (T := TX0) (N := 8) (ci := 0) (v := .int (nI (M 16 a))) F hK hP hi0 rfl (20 + 2 * a) 6 (by have := ha; omega) cX_c (by decide) rfl (by decide +kernel) dX0_hasReached_2 ?_
  refine z_icmp_ge (tgt := 12) F (by omega) (by omega) dX0_hasReached_5 (by decide) (fun c7 => ?_) (fun c7 => ?_)
  · refine lv_iconst (v := nI 0) hx hb dX0_hasReached_12 (by decide) ?_
    exact W.zret (v := nI 0) hx hb hr rfl (fun t ht hW => ⟨nI 0, rfl, (bI_f (Nat.not_lt.mpr c7)).symm, ht⟩) (fun q h => by cases h) dX0_hasReached_13
  · refine lv_iconst (v := nI 1) hx hb dX0_hasReached_8 (by decide) ?_
    refine lv_goto (tgt := 13) hx hb dX0_hasReached_9 (by decide) ?_
    exact W.zret (v := nI 1) hx hb hr rfl (fun t ht hW => ⟨nI 1, rfl, (bI_t c7).symm, ht⟩) (fun q h => by cases h) dX0_hasReached_13
theorem hdR_eq {ad : Nat → Nat} {M : Nat → Nat → Nat} {x h : Nat} (hj : ∀ i j, i < 20 + 2 * M 0 1 → j < 20 + 2 * M 0 1 → ad i = ad j → i = j) (hx : x ≤ M 0 1) (hh : h < M 0 1) : hdR ad x = some (ad (20 + 2 * h)) ↔ x = h + 1 := by
  unfold hdR
  by_cases h0 : x = 0
  · rw [if_pos h0]
    exact ⟨fun z => (by cases z), fun z => absurd z (by omega)⟩
  · rw [if_neg h0]
    constructor
    · intro z
      have := hj _ _ (by omega) (by omega) (Option.some.inj z)
      omega
    · rintro rfl
      rfl
set_option maxRecDepth 100000 in
set_option maxHeartbeats 4000000 in
/-- Case.isJoinedTo(other) -/
theorem c_X0_isJoinedTo (l : Launch) (D : va_G) (k : Nat → ClassId) (ad : Nat → Nat) (M : Nat → Nat → Nat) (O : Nat → Nat → Int32) (hI : zInv M) (hj : ∀ i j, i < 20 + 2 * M 0 1 → j < 20 + 2 * M 0 1 → ad i = ad j → i = j) (a h : Nat) (ha : a < M 0 1) (hh : h < M 0 1) : Met l yX0_isJoinedTo wsX0_isJoinedTo ({ frames := 0, cells := 0, slots := 0, locals := 0 }) (va_Pc [.ref (ad (20 + 2 * a)), .ref (ad (20 + 2 * h))] (zR D k (20 + 2 * M 0 1) ad (cX k ad M O))) (vp_Si (fun r => r = bI (M 12 a = 1 ∧ M 13 a = h + 1))) 0 0 (fun _ => False) := by
  refine Met.ofW (cc := cX0_isJoinedTo) (maxL := 2) (ret := (some .boolean)) (by decide) rfl ?_
  intro p e s m args below meth c s₁ B hml hv
  obtain ⟨rfl, hP, hK⟩ := hv
  have hx := B.exec
  have hb := B.bytes
  have hr := B.returns
  have hts := atoms_spec (ws := wsX0_isJoinedTo) B.pre
  have hown : s.vm.findClass RX0 = some m.cls := findClass_of_methodNamed B.named
  have hlocks := B.notSynchronized
  have F : CallFix p m c cX0_isJoinedTo 2 s _ wsX0_isJoinedTo RX0 := ⟨hx, hb, hml, hown, hts⟩
  have hl := lv_entry ([.ref (ad (20 + 2 * a)), .ref (ad (20 + 2 * h))]) (n := 2) (Nat.le_of_ble_eq_true rfl)
  rw [lg_entry_eq]
  generalize (lg_sl ([.ref (ad (20 + 2 * a)), .ref (ad (20 + 2 * h))]) ++ List.replicate (2 - (lg_sl ([.ref (ad (20 + 2 * a)), .ref (ad (20 + 2 * h))])).length) Slot.unset).toArray = ls at hl ⊢
  have hl : lv_has ls 2 [(0, .ref (ad (20 + 2 * a))), (1, .ref (ad (20 + 2 * h)))] := hl
  have hi0 : ∀ w ∈ u_ws RX0 TX0 8, w ∈ wsX0_isJoinedTo := by decide +kernel
  obtain ⟨hI1, hI2, hI3, hI4, hI5, hI6, hI7, hI8⟩ := id hI
  obtain ⟨hc1, hc2, hc3, hc4, hc5, hc6, hc7⟩ := hI5 a ha
  have hb5 := hc5
  refine lv_aload_n hx hb dX0_isJoinedTo_0 rfl (lv_at hl 0 rfl) ?_
  refine z_get (C := RX0) (T := TX0) (N := 8) (ci := 0) (v := .int (nI (M 12 a))) F hK hP hi0 rfl (20 + 2 * a) 3 (by have := ha; omega) cX_c (by decide) rfl (by decide +kernel) dX0_isJoinedTo_1 ?_
  refine lv_iconst (v := nI 1) hx hb dX0_isJoinedTo_4 (by decide) ?_
  refine z_icmp_ne (tgt := 20) F (by omega) (by omega) dX0_isJoinedTo_5 (by decide) (fun c8 => ?_) (fun c8 => ?_)
  · refine lv_iconst (v := nI 0) hx hb dX0_isJoinedTo_20 (by decide) ?_
    exact W.zret (v := nI 0) hx hb hr rfl (fun t ht hW => ⟨nI 0, rfl, (bI_f (fun z => c8 z.1)).symm, ht⟩) (fun q h => by cases h) dX0_isJoinedTo_21
  · refine lv_aload_n hx hb dX0_isJoinedTo_8 rfl (lv_at hl 0 rfl) ?_
    refine z_get (C := RX0) (T := TX0) (N := 8) (ci := 0) (v := va_rf (hdR ad (M 13 a))) F hK hP hi0 rfl (20 + 2 * a) 5 (by have := ha; omega) cX_c (by decide) rfl (by decide +kernel) dX0_isJoinedTo_9 ?_
    refine lv_aload_n hx hb dX0_isJoinedTo_12 rfl (lv_at hl 1 rfl) ?_
    refine lv_acmp_ne (rx := hdR ad (M 13 a)) (ry := some (ad (20 + 2 * h))) (tgt := 20) hx hb dX0_isJoinedTo_13 (by decide) (fun c9 => ?_) (fun c9 => ?_)
    · refine lv_iconst (v := nI 0) hx hb dX0_isJoinedTo_20 (by decide) ?_
      exact W.zret (v := nI 0) hx hb hr rfl (fun t ht hW => ⟨nI 0, rfl, (bI_f (fun z => c9 ((hdR_eq hj hb5 (by omega)).mpr z.2))).symm, ht⟩) (fun q h => by cases h) dX0_isJoinedTo_21
    · refine lv_iconst (v := nI 1) hx hb dX0_isJoinedTo_16 (by decide) ?_
      refine lv_goto (tgt := 21) hx hb dX0_isJoinedTo_17 (by decide) ?_
      exact W.zret (v := nI 1) hx hb hr rfl (fun t ht hW => ⟨nI 1, rfl, (bI_t ⟨c8, (hdR_eq hj hb5 (by omega)).mp c9⟩).symm, ht⟩) (fun q h => by cases h) dX0_isJoinedTo_21
