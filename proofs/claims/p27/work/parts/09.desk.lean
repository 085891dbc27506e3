set_option maxRecDepth 100000 in
set_option maxHeartbeats 4000000 in
/-- promiseFor -/
theorem c_X2_promiseFor (l : Launch) (D : va_G) (k : Nat → ClassId) (ad : Nat → Nat) (M : Nat → Nat → Nat) (O : Nat → Nat → Int32) (a : Nat) (hz : zCa M a) (ha : a < M 0 1) (st : Nat) (hst : st < 3) : Met l yX2_promiseFor wsX2_promiseFor ({ frames := 0, cells := 0, slots := 0, locals := 0 }) (va_Pc [.ref (ad 0), .ref (ad (20 + 2 * a)), .int (nI st)] (zR D k (20 + 2 * M 0 1) ad (cX k ad M O))) (vp_Si (fun r => r = nI (M 8 (3 * M 11 a + st)))) 0 0 (fun _ => False) := by
  refine Met.ofW (cc := cX2_promiseFor) (maxL := 3) (ret := (some .int)) (by decide) rfl ?_
  intro p e s m args below meth c s₁ B hml hv
  obtain ⟨rfl, hP, hK⟩ := hv
  have hx := B.exec
  have hb := B.bytes
  have hr := B.returns
  have hts := atoms_spec (ws := wsX2_promiseFor) B.pre
  have hown : s.vm.findClass RX2 = some m.cls := findClass_of_methodNamed B.named
  have hlocks := B.notSynchronized
  have F : CallFix p m c cX2_promiseFor 3 s _ wsX2_promiseFor RX2 := ⟨hx, hb, hml, hown, hts⟩
  have hl := lv_entry ([.ref (ad 0), .ref (ad (20 + 2 * a)), .int (nI st)]) (n := 3) (Nat.le_of_ble_eq_true rfl)
  rw [lg_entry_eq]
  generalize (lg_sl ([.ref (ad 0), .ref (ad (20 + 2 * a)), .int (nI st)]) ++ List.replicate (3 - (lg_sl ([.ref (ad 0), .ref (ad (20 + 2 * a)), .int (nI st)])).length) Slot.unset).toArray = ls at hl ⊢
  have hl : lv_has ls 3 [(0, .ref (ad 0)), (1, .ref (ad (20 + 2 * a))), (2, .int (nI st))] := hl
  have hi2 : ∀ w ∈ u_ws RX2 TX2 5, w ∈ wsX2_promiseFor := by decide +kernel
  have hi0 : ∀ w ∈ u_ws RX0 TX0 8, w ∈ wsX2_promiseFor := by decide +kernel
  obtain ⟨hc1, hc2, hc3, hc4, hc5, hc6, hc7⟩ := id hz
  refine lv_aload_n hx hb dX2_promiseFor_0 rfl (lv_at hl 0 rfl) ?_
  refine z_get (C := RX2) (T := TX2) (N := 5) (ci := 2) (v := .ref (ad 2)) F hK hP hi2 rfl (0) 1 (by omega) cX_0 (by decide) rfl (by decide +kernel) dX2_promiseFor_1 ?_
  refine lv_aload_n hx hb dX2_promiseFor_4 rfl (lv_at hl 1 rfl) ?_
  refine z_get (C := RX0) (T := TX0) (N := 8) (ci := 0) (v := .int (nI (M 11 a))) F hK hP hi0 rfl (20 + 2 * a) 2 (by have := ha; omega) cX_c (by decide) rfl (by decide +kernel) dX2_promiseFor_5 ?_
  refine lv_iconst (v := nI 3) hx hb dX2_promiseFor_8 (by decide) ?_
  refine z_mul F dX2_promiseFor_9 ?_
  refine lv_iload_n hx hb dX2_promiseFor_10 rfl (lv_at hl 2 rfl) ?_
  refine z_add F dX2_promiseFor_11 ?_
  refine z_iald (v := nI (M 8 (((M 11 a) * 3) + st))) F hK hP (2) 0 (by omega) cX_2 rfl (i := nI (((M 11 a) * 3) + st)) (((M 11 a) * 3) + st) rfl (by omega) (by decide) (rw0_at0 (by omega)) dX2_promiseFor_12 ?_
  exact W.iret (v := nI (M 8 (((M 11 a) * 3) + st))) hx hb hr (fun t ht hW => ⟨nI (M 8 (((M 11 a) * 3) + st)), rfl, (by rw [Nat.mul_comm (M 11 a) 3]), ht⟩) (fun q h => by cases h) dX2_promiseFor_13
set_option maxRecDepth 100000 in
set_option maxHeartbeats 4000000 in
/-- misses -/
theorem c_X2_misses (l : Launch) (D : va_G) (k : Nat → ClassId) (ad : Nat → Nat) (M : Nat → Nat → Nat) (O : Nat → Nat → Int32) (a : Nat) (hz : zCa M a) (ha : a < M 0 1) (hp : zPr M) (hk : ∀ x, x < 120 → M 15 x ≤ 24000) (h40 : M 0 1 ≤ 40) (st : Nat) (hst : st < 3) : Met l yX2_misses wsX2_misses ({ frames := 1, cells := 0, slots := 0, locals := 22 }) (va_Pc [.ref (ad 0), .ref (ad (20 + 2 * a)), .int (nI st)] (zR D k (20 + 2 * M 0 1) ad (cX k ad M O))) (vp_Si (fun r => r = bI (M 8 (3 * M 11 a + st) < M 15 (3 * a + st)))) 0 0 (fun _ => False) := by
  refine Met.ofW (cc := cX2_misses) (maxL := 3) (ret := (some .boolean)) (by decide) rfl ?_
  intro p e s m args below meth c s₁ B hml hv
  obtain ⟨rfl, hP, hK⟩ := hv
  have hx := B.exec
  have hb := B.bytes
  have hr := B.returns
  have hts := atoms_spec (ws := wsX2_misses) B.pre
  have hown : s.vm.findClass RX2 = some m.cls := findClass_of_methodNamed B.named
  have hlocks := B.notSynchronized
  have F : CallFix p m c cX2_misses 3 s _ wsX2_misses RX2 := ⟨hx, hb, hml, hown, hts⟩
  have hl := lv_entry ([.ref (ad 0), .ref (ad (20 + 2 * a)), .int (nI st)]) (n := 3) (Nat.le_of_ble_eq_true rfl)
  rw [lg_entry_eq]
  generalize (lg_sl ([.ref (ad 0), .ref (ad (20 + 2 * a)), .int (nI st)]) ++ List.replicate (3 - (lg_sl ([.ref (ad 0), .ref (ad (20 + 2 * a)), .int (nI st)])).length) Slot.unset).toArray = ls at hl ⊢
  have hl : lv_has ls 3 [(0, .ref (ad 0)), (1, .ref (ad (20 + 2 * a))), (2, .int (nI st))] := hl
  have hi0 : ∀ w ∈ u_ws RX0 TX0 8, w ∈ wsX2_misses := by decide +kernel
  obtain ⟨hc1, hc2, hc3, hc4, hc5, hc6, hc7⟩ := id hz
  have hk1 := hk (3 * a + st) (by omega)
  have hp1 := hp (3 * M 11 a + st) (by omega)
  refine lv_aload_n hx hb dX2_misses_0 rfl (lv_at hl 1 rfl) ?_
  refine z_get (C := RX0) (T := TX0) (N := 8) (ci := 0) (v := .ref (ad (21 + 2 * a))) F hK hP hi0 rfl (20 + 2 * a) 7 (by have := ha; omega) cX_c (by decide) rfl (by decide +kernel) dX2_misses_1 ?_
  refine lv_iload_n hx hb dX2_misses_4 rfl (lv_at hl 2 rfl) ?_
  refine z_iald (v := nI (M 15 (3 * a + st))) F hK hP (21 + 2 * a) 0 (by have := ha; omega) cX_k rfl (i := nI st) st rfl (by omega) (by decide) (rw0_at (by omega)) dX2_misses_5 ?_
  refine lv_aload_n hx hb dX2_misses_6 rfl (lv_at hl 0 rfl) ?_
  refine lv_aload_n hx hb dX2_misses_7 rfl (lv_at hl 1 rfl) ?_
  refine lv_iload_n hx hb dX2_misses_8 rfl (lv_at hl 2 rfl) ?_
  refine z_cV (qc := (RX2, TX2, 5)) (As := [.ref (ad (20 + 2 * a)), .int (nI st)]) (rest := [.int (nI (M 15 (3 * a + st)))]) (0) F (c_X2_promiseFor l D k ad M O a hz ha st (by omega)) (cwV 2 hts gX2_misses_X2_promiseFor rfl rfl rfl (by decide +kernel) ⟨Nat.le_of_ble_eq_true rfl, Nat.le_of_ble_eq_true rfl⟩) hK hP (by omega) cX_0 rfl rfl hl.1 rfl (Nat.le_of_ble_eq_true rfl) dX2_misses_9 ⟨Nat.le_of_ble_eq_true rfl, Nat.le_of_ble_eq_true rfl⟩ (fun r hr => ?_)
  subst hr
  refine z_icmp_le (tgt := 19) F (by omega) (by omega) dX2_misses_12 (by decide) (fun c1 => ?_) (fun c1 => ?_)
  · refine lv_iconst (v := nI 0) hx hb dX2_misses_19 (by decide) ?_
    exact W.zret (v := nI 0) hx hb hr rfl (fun t ht hW => ⟨nI 0, rfl, (bI_f (Nat.not_lt.mpr c1)).symm, ht⟩) (fun q h => by cases h) dX2_misses_20
  · refine lv_iconst (v := nI 1) hx hb dX2_misses_15 (by decide) ?_
    refine lv_goto (tgt := 20) hx hb dX2_misses_16 (by decide) ?_
    exact W.zret (v := nI 1) hx hb hr rfl (fun t ht hW => ⟨nI 1, rfl, (bI_t c1).symm, ht⟩) (fun q h => by cases h) dX2_misses_20
set_option maxRecDepth 100000 in
set_option maxHeartbeats 4000000 in
theorem lp_countMissed {p : Program} {l : Launch} {e : Env} {s : State} {m : MethodId} {args : Array Value} {below : List Frame} {meth : Method} {c : Code} {H : Heap} {locs : List Loc} {Q : State → Prop} {D : va_G} {k : Nat → ClassId} {ad : Nat → Nat} {M : Nat → Nat → Nat} {O : Nat → Nat → Int32} (F : CallFix p m c cX2_countMissedOfReached 4 s args wsX2_countMissedOfReached RX2) (hK : va_K D vwCl (tyL k) s)
    {a : Nat} (hz : zCa M a) (ha : a < M 0 1) (hp : zPr M) (hk : ∀ x, x < 120 → M 15 x ≤ 24000) (h40 : M 0 1 ≤ 40)
    (hP : va_P D vwCl (zw (20 + 2 * M 0 1) ad (cX k ad M O)) H)
    (k0 : ∀ (ls : Array Slot), lv_has ls 4 [(3, .int (nI 3)), (2, .int (nI (mN M a 3)))] → W p l e (headSpec wsX2_countMissedOfReached ({ frames := 2, cells := 0, slots := 0, locals := 44 })).room s m args below meth c H locs 0 0 Q (F0 m 35 ls [])) :
    ∀ (fu st : Nat), st ≤ 3 → 3 < st + fu → ∀ (ls : Array Slot), lv_has ls 4 [(3, .int (nI st)), (2, .int (nI (mN M a st))), (0, .ref (ad 0)), (1, .ref (ad (20 + 2 * a)))] → W p l e (headSpec wsX2_countMissedOfReached ({ frames := 2, cells := 0, slots := 0, locals := 44 })).room s m args below meth c H locs 0 0 Q (F0 m 4 ls []) := by
  have hx := F.1
  have hb := F.2.1
  have hts := F.2.2.2.2
  have hown := F.2.2.2.1
  intro fu
  induction fu with
  | zero => intro st h1 h2; omega
  | succ fu ih =>
    intro st h1 h2 ls hl
    have hm := mN_le M a st
    refine lv_iload_n hx hb dX2_countMissedOfReached_4 rfl (lv_at hl 0 rfl) ?_
    refine lv_iconst (v := nI 2) hx hb dX2_countMissedOfReached_5 (by decide) ?_
    refine z_icmp_gt (tgt := 35) F (by omega) (by omega) dX2_countMissedOfReached_6 (by decide) (fun c2 => ?_) (fun c2 => ?_)
    · obtain rfl : st = 3 := by omega
      exact k0 ls (lv_sub hl [0, 1] rfl)
    · refine lv_aload_n hx hb dX2_countMissedOfReached_9 rfl (lv_at hl 3 rfl) ?_
      refine lv_iload_n hx hb dX2_countMissedOfReached_10 rfl (lv_at hl 0 rfl) ?_
      refine z_cV (qc := (RX0, TX0, 8)) (As := [.int (nI st)]) (rest := []) (20 + 2 * a) F (c_X0_hasReached l D k ad M O a st hz ha (by omega)) (cwV 1 hts gX2_countMissedOfReached_X0_hasReached rfl rfl rfl (by decide +kernel) ⟨Nat.le_of_ble_eq_true rfl, Nat.le_of_ble_eq_true rfl⟩) hK hP (by have := ha; omega) cX_c rfl rfl hl.1 rfl (Nat.le_of_ble_eq_true rfl) dX2_countMissedOfReached_11 ⟨Nat.le_of_ble_eq_true rfl, Nat.le_of_ble_eq_true rfl⟩ (fun r hr => ?_)
      subst hr
      refine z_ifb_eq (tgt := 29) F dX2_countMissedOfReached_14 (by decide) (fun c3 => ?_) (fun c3 => ?_)
      · refine lv_iinc (v := nI (st + 1)) (lv' := [(3, .int (nI (st + 1))), (2, .int (nI (mN M a st))), (0, .ref (ad 0)), (1, .ref (ad (20 + 2 * a)))]) hx hb dX2_countMissedOfReached_29 hl (k := 0) rfl (nI_1 st) (by decide) rfl (fun ls hl => ?_)
        refine lv_goto (tgt := 4) hx hb dX2_countMissedOfReached_32 (by decide) ?_
        have e1 : mN M a (st + 1) = mN M a st := by show mN M a st + (if st < M 16 a ∧ M 8 (3 * M 11 a + st) < M 15 (3 * a + st) then 1 else 0) = _; rw [if_neg (fun zz1 => c3 zz1.1), Nat.add_zero]
        exact ih (st + 1) (by omega) (by omega) ls (by rw [e1]; exact lv_sub hl [0, 1, 2, 3] rfl)
      · refine lv_aload_n hx hb dX2_countMissedOfReached_17 rfl (lv_at hl 2 rfl) ?_
        refine lv_aload_n hx hb dX2_countMissedOfReached_18 rfl (lv_at hl 3 rfl) ?_
        refine lv_iload_n hx hb dX2_countMissedOfReached_19 rfl (lv_at hl 0 rfl) ?_
        refine z_cV (qc := (RX2, TX2, 5)) (As := [.ref (ad (20 + 2 * a)), .int (nI st)]) (rest := []) (0) F (c_X2_misses l D k ad M O a hz ha hp hk h40 st (by omega)) (cwV 2 hts gX2_countMissedOfReached_X2_misses rfl rfl rfl (by decide +kernel) ⟨Nat.le_of_ble_eq_true rfl, Nat.le_of_ble_eq_true rfl⟩) hK hP (by omega) cX_0 rfl rfl hl.1 rfl (Nat.le_of_ble_eq_true rfl) dX2_countMissedOfReached_20 ⟨Nat.le_of_ble_eq_true rfl, Nat.le_of_ble_eq_true rfl⟩ (fun r hr => ?_)
        subst hr
        refine z_ifb_eq (tgt := 29) F dX2_countMissedOfReached_23 (by decide) (fun c4 => ?_) (fun c4 => ?_)
        · refine lv_iinc (v := nI (st + 1)) (lv' := [(3, .int (nI (st + 1))), (2, .int (nI (mN M a st))), (0, .ref (ad 0)), (1, .ref (ad (20 + 2 * a)))]) hx hb dX2_countMissedOfReached_29 hl (k := 0) rfl (nI_1 st) (by decide) rfl (fun ls hl => ?_)
          refine lv_goto (tgt := 4) hx hb dX2_countMissedOfReached_32 (by decide) ?_
          have e1 : mN M a (st + 1) = mN M a st := by show mN M a st + (if st < M 16 a ∧ M 8 (3 * M 11 a + st) < M 15 (3 * a + st) then 1 else 0) = _; rw [if_neg (fun zz1 => c4 zz1.2), Nat.add_zero]
          exact ih (st + 1) (by omega) (by omega) ls (by rw [e1]; exact lv_sub hl [0, 1, 2, 3] rfl)
        · refine lv_iinc (v := nI ((mN M a st) + 1)) (lv' := [(2, .int (nI ((mN M a st) + 1))), (3, .int (nI st)), (0, .ref (ad 0)), (1, .ref (ad (20 + 2 * a)))]) hx hb dX2_countMissedOfReached_26 hl (k := 1) rfl (nI_1 (mN M a st)) (by decide) rfl (fun ls hl => ?_)
          refine lv_iinc (v := nI (st + 1)) (lv' := [(3, .int (nI (st + 1))), (2, .int (nI ((mN M a st) + 1))), (0, .ref (ad 0)), (1, .ref (ad (20 + 2 * a)))]) hx hb dX2_countMissedOfReached_29 hl (k := 1) rfl (nI_1 st) (by decide) rfl (fun ls hl => ?_)
          refine lv_goto (tgt := 4) hx hb dX2_countMissedOfReached_32 (by decide) ?_
          have e1 : mN M a (st + 1) = mN M a st + 1 := by show mN M a st + (if st < M 16 a ∧ M 8 (3 * M 11 a + st) < M 15 (3 * a + st) then 1 else 0) = _; rw [if_pos ⟨c3, c4⟩]
          exact ih (st + 1) (by omega) (by omega) ls (by rw [e1]; exact lv_sub hl [0, 1, 2, 3] rfl)
set_option maxRecDepth 100000 in
set_option maxHeartbeats 4000000 in
/-- countMissedOfReached -/
theorem c_X2_countMissedOfReached (l : Launch) (D : va_G) (k : Nat → ClassId) (ad : Nat → Nat) (M : Nat → Nat → Nat) (O : Nat → Nat → Int32) (a : Nat) (hz : zCa M a) (ha : a < M 0 1) (hp : zPr M) (hk : ∀ x, x < 120 → M 15 x ≤ 24000) (h40 : M 0 1 ≤ 40) : Met l yX2_countMissedOfReached wsX2_countMissedOfReached ({ frames := 2, cells := 0, slots := 0, locals := 44 }) (va_Pc [.ref (ad 0), .ref (ad (20 + 2 * a))] (zR D k (20 + 2 * M 0 1) ad (cX k ad M O))) (vp_Si (fun r => r = nI (mN M a 3))) 0 0 (fun _ => False) := by
  refine Met.ofW (cc := cX2_countMissedOfReached) (maxL := 4) (ret := (some .int)) (by decide) rfl ?_
  intro p e s m args below meth c s₁ B hml hv
  obtain ⟨rfl, hP, hK⟩ := hv
  have hx := B.exec
  have hb := B.bytes
  have hr := B.returns
  have hts := atoms_spec (ws := wsX2_countMissedOfReached) B.pre
  have hown : s.vm.findClass RX2 = some m.cls := findClass_of_methodNamed B.named
  have hlocks := B.notSynchronized
  have F : CallFix p m c cX2_countMissedOfReached 4 s _ wsX2_countMissedOfReached RX2 := ⟨hx, hb, hml, hown, hts⟩
  have hl := lv_entry ([.ref (ad 0), .ref (ad (20 + 2 * a))]) (n := 4) (Nat.le_of_ble_eq_true rfl)
  rw [lg_entry_eq]
  generalize (lg_sl ([.ref (ad 0), .ref (ad (20 + 2 * a))]) ++ List.replicate (4 - (lg_sl ([.ref (ad 0), .ref (ad (20 + 2 * a))])).length) Slot.unset).toArray = ls at hl ⊢
  have hl : lv_has ls 4 [(0, .ref (ad 0)), (1, .ref (ad (20 + 2 * a)))] := hl
  refine lv_iconst (v := nI 0) hx hb dX2_countMissedOfReached_0 (by decide) ?_
  refine lv_istore_n (lv' := [(2, .int (nI 0)), (0, .ref (ad 0)), (1, .ref (ad (20 + 2 * a)))]) hx hb dX2_countMissedOfReached_1 rfl hl (by decide) rfl (fun ls hl => ?_)
  refine lv_iconst (v := nI 0) hx hb dX2_countMissedOfReached_2 (by decide) ?_
  refine lv_istore_n (lv' := [(3, .int (nI 0)), (2, .int (nI 0)), (0, .ref (ad 0)), (1, .ref (ad (20 + 2 * a)))]) hx hb dX2_countMissedOfReached_3 rfl hl (by decide) rfl (fun ls hl => ?_)
  refine lp_countMissed F hK hz ha hp hk h40 hP (fun ls hl => ?_) 4 0 (by omega) (by omega) ls (lv_sub hl [0, 1, 2, 3] rfl)
  refine lv_iload_n hx hb dX2_countMissedOfReached_35 rfl (lv_at hl 1 rfl) ?_
  exact W.iret (v := nI (mN M a 3)) hx hb hr (fun t ht hW => ⟨nI (mN M a 3), rfl, rfl, ht⟩) (fun q h => by cases h) dX2_countMissedOfReached_36
set_option maxRecDepth 100000 in
set_option maxHeartbeats 4000000 in
/-- stepOfStage -/
theorem c_X2_stepOfStage (l : Launch) (D : va_G) (k : Nat → ClassId) (ad : Nat → Nat) (M : Nat → Nat → Nat) (O : Nat → Nat → Int32) (a : Nat) (hz : zCa M a) (ha : a < M 0 1) (hp : zPr M) (hk : ∀ x, x < 120 → M 15 x ≤ 24000) (h40 : M 0 1 ≤ 40) (st : Nat) (hst : st < 3) : Met l yX2_stepOfStage wsX2_stepOfStage ({ frames := 1, cells := 0, slots := 0, locals := 22 }) (va_Pc [.ref (ad 0), .ref (ad (20 + 2 * a)), .int (nI st)] (zR D k (20 + 2 * M 0 1) ad (cX k ad M O))) (vp_Si (fun r => r = nI (stp M a st))) 0 0 (fun _ => False) := by
  refine Met.ofW (cc := cX2_stepOfStage) (maxL := 5) (ret := (some .int)) (by decide) rfl ?_
  intro p e s m args below meth c s₁ B hml hv
  obtain ⟨rfl, hP, hK⟩ := hv
  have hx := B.exec
  have hb := B.bytes
  have hr := B.returns
  have hts := atoms_spec (ws := wsX2_stepOfStage) B.pre
  have hown : s.vm.findClass RX2 = some m.cls := findClass_of_methodNamed B.named
  have hlocks := B.notSynchronized
  have F : CallFix p m c cX2_stepOfStage 5 s _ wsX2_stepOfStage RX2 := ⟨hx, hb, hml, hown, hts⟩
  have hl := lv_entry ([.ref (ad 0), .ref (ad (20 + 2 * a)), .int (nI st)]) (n := 5) (Nat.le_of_ble_eq_true rfl)
  rw [lg_entry_eq]
  generalize (lg_sl ([.ref (ad 0), .ref (ad (20 + 2 * a)), .int (nI st)]) ++ List.replicate (5 - (lg_sl ([.ref (ad 0), .ref (ad (20 + 2 * a)), .int (nI st)])).length) Slot.unset).toArray = ls at hl ⊢
  have hl : lv_has ls 5 [(0, .ref (ad 0)), (1, .ref (ad (20 + 2 * a))), (2, .int (nI st))] := hl
  have hi0 : ∀ w ∈ u_ws RX0 TX0 8, w ∈ wsX2_stepOfStage := by decide +kernel
  obtain ⟨hc1, hc2, hc3, hc4, hc5, hc6, hc7⟩ := id hz
  have hk1 := hk (3 * a + st) (by omega)
  have hp1 := hp (3 * M 11 a + st) (by omega)
  refine lv_aload_n hx hb dX2_stepOfStage_0 rfl (lv_at hl 1 rfl) ?_
  refine lv_iload_n hx hb dX2_stepOfStage_1 rfl (lv_at hl 2 rfl) ?_
  refine z_cV (qc := (RX0, TX0, 8)) (As := [.int (nI st)]) (rest := []) (20 + 2 * a) F (c_X0_hasReached l D k ad M O a st hz ha (by omega)) (cwV 1 hts gX2_stepOfStage_X0_hasReached rfl rfl rfl (by decide +kernel) ⟨Nat.le_of_ble_eq_true rfl, Nat.le_of_ble_eq_true rfl⟩) hK hP (by have := ha; omega) cX_c rfl rfl hl.1 rfl (Nat.le_of_ble_eq_true rfl) dX2_stepOfStage_2 ⟨Nat.le_of_ble_eq_true rfl, Nat.le_of_ble_eq_true rfl⟩ (fun r hr => ?_)
  subst hr
  refine z_ifb_eq (tgt := 10) F dX2_stepOfStage_5 (by decide) (fun c5 => ?_) (fun c5 => ?_)
  · refine lv_bipush (v := nI 100) hx hb dX2_stepOfStage_10 (by decide) ?_
    refine lv_aload_n hx hb dX2_stepOfStage_12 rfl (lv_at hl 1 rfl) ?_
    refine z_get (C := RX0) (T := TX0) (N := 8) (ci := 0) (v := .ref (ad (21 + 2 * a))) F hK hP hi0 rfl (20 + 2 * a) 7 (by have := ha; omega) cX_c (by decide) rfl (by decide +kernel) dX2_stepOfStage_13 ?_
    refine lv_iload_n hx hb dX2_stepOfStage_16 rfl (lv_at hl 2 rfl) ?_
    refine z_iald (v := nI (M 15 (3 * a + st))) F hK hP (21 + 2 * a) 0 (by have := ha; omega) cX_k rfl (i := nI st) st rfl (by omega) (by decide) (rw0_at (by omega)) dX2_stepOfStage_17 ?_
    refine z_mul F dX2_stepOfStage_18 ?_
    refine lv_istore_n (lv' := [(3, .int (nI (100 * (M 15 (3 * a + st))))), (0, .ref (ad 0)), (1, .ref (ad (20 + 2 * a))), (2, .int (nI st))]) hx hb dX2_stepOfStage_19 rfl hl (by decide) rfl (fun ls hl => ?_)
    refine lv_aload_n hx hb dX2_stepOfStage_20 rfl (lv_at hl 1 rfl) ?_
    refine lv_aload_n hx hb dX2_stepOfStage_21 rfl (lv_at hl 2 rfl) ?_
    refine lv_iload_n hx hb dX2_stepOfStage_22 rfl (lv_at hl 3 rfl) ?_
    refine z_cV (qc := (RX2, TX2, 5)) (As := [.ref (ad (20 + 2 * a)), .int (nI st)]) (rest := []) (0) F (c_X2_promiseFor l D k ad M O a hz ha st (by omega)) (cwV 2 hts gX2_stepOfStage_X2_promiseFor rfl rfl rfl (by decide +kernel) ⟨Nat.le_of_ble_eq_true rfl, Nat.le_of_ble_eq_true rfl⟩) hK hP (by omega) cX_0 rfl rfl hl.1 rfl (Nat.le_of_ble_eq_true rfl) dX2_stepOfStage_23 ⟨Nat.le_of_ble_eq_true rfl, Nat.le_of_ble_eq_true rfl⟩ (fun r hr => ?_)
    subst hr
    refine lv_istore (lv' := [(4, .int (nI (M 8 (3 * M 11 a + st)))), (3, .int (nI (100 * (M 15 (3 * a + st))))), (0, .ref (ad 0)), (1, .ref (ad (20 + 2 * a))), (2, .int (nI st))]) hx hb dX2_stepOfStage_26 hl (by decide) rfl (fun ls hl => ?_)
    refine lv_iload_n hx hb dX2_stepOfStage_28 rfl (lv_at hl 1 rfl) ?_
    refine lv_bipush (v := nI 100) hx hb dX2_stepOfStage_29 (by decide) ?_
    refine lv_iload hx hb dX2_stepOfStage_31 (lv_at hl 0 rfl) ?_
    refine z_mul F dX2_stepOfStage_33 ?_
    refine z_icmp_le (tgt := 39) F (by omega) (by omega) dX2_stepOfStage_34 (by decide) (fun c6 => ?_) (fun c6 => ?_)
    · refine lv_iload_n hx hb dX2_stepOfStage_39 rfl (lv_at hl 1 rfl) ?_
      refine lv_bipush (v := nI 75) hx hb dX2_stepOfStage_40 (by decide) ?_
      refine lv_iload hx hb dX2_stepOfStage_42 (lv_at hl 0 rfl) ?_
      refine z_mul F dX2_stepOfStage_44 ?_
      refine z_icmp_lt (tgt := 50) F (by omega) (by omega) dX2_stepOfStage_45 (by decide) (fun c7 => ?_) (fun c7 => ?_)
      · refine lv_iload_n hx hb dX2_stepOfStage_50 rfl (lv_at hl 1 rfl) ?_
        refine lv_bipush (v := nI 50) hx hb dX2_stepOfStage_51 (by decide) ?_
        refine lv_iload hx hb dX2_stepOfStage_53 (lv_at hl 0 rfl) ?_
        refine z_mul F dX2_stepOfStage_55 ?_
        refine z_icmp_lt (tgt := 63) F (by omega) (by omega) dX2_stepOfStage_56 (by decide) (fun c8 => ?_) (fun c8 => ?_)
        · refine lv_iconst (v := nI 0) hx hb dX2_stepOfStage_63 (by decide) ?_
          exact W.iret (v := nI 0) hx hb hr (fun t ht hW => ⟨nI 0, rfl, (by unfold stp; rw [if_neg c5, if_neg (Nat.not_lt.mpr c6), if_neg (Nat.not_le.mpr c7), if_neg (Nat.not_le.mpr c8)]), ht⟩) (fun q h => by cases h) dX2_stepOfStage_64
        · refine lv_iconst (v := nI 1) hx hb dX2_stepOfStage_59 (by decide) ?_
          refine lv_goto (tgt := 64) hx hb dX2_stepOfStage_60 (by decide) ?_
          exact W.iret (v := nI 1) hx hb hr (fun t ht hW => ⟨nI 1, rfl, (by unfold stp; rw [if_neg c5, if_neg (Nat.not_lt.mpr c6), if_neg (Nat.not_le.mpr c7), if_pos c8]), ht⟩) (fun q h => by cases h) dX2_stepOfStage_64
      · refine lv_iconst (v := nI 2) hx hb dX2_stepOfStage_48 (by decide) ?_
        exact W.iret (v := nI 2) hx hb hr (fun t ht hW => ⟨nI 2, rfl, (by unfold stp; rw [if_neg c5, if_neg (Nat.not_lt.mpr c6), if_pos c7]), ht⟩) (fun q h => by cases h) dX2_stepOfStage_49
    · refine lv_iconst (v := nI 3) hx hb dX2_stepOfStage_37 (by decide) ?_
      exact W.iret (v := nI 3) hx hb hr (fun t ht hW => ⟨nI 3, rfl, (by unfold stp; rw [if_neg c5, if_pos c6]), ht⟩) (fun q h => by cases h) dX2_stepOfStage_38
  · refine lv_iconst (v := nI 0) hx hb dX2_stepOfStage_8 (by decide) ?_
    exact W.iret (v := nI 0) hx hb hr (fun t ht hW => ⟨nI 0, rfl, (by unfold stp; rw [if_pos c5]), ht⟩) (fun q h => by cases h) dX2_stepOfStage_9
set_option maxRecDepth 100000 in
set_option maxHeartbeats 4000000 in
theorem lp_greatestStep {p : Program} {l : Launch} {e : Env} {s : State} {m : MethodId} {args : Array Value} {below : List Frame} {meth : Method} {c : Code} {H : Heap} {locs : List Loc} {Q : State → Prop} {D : va_G} {k : Nat → ClassId} {ad : Nat → Nat} {M : Nat → Nat → Nat} {O : Nat → Nat → Int32} (F : CallFix p m c cX2_greatestStep 4 s args wsX2_greatestStep RX2) (hK : va_K D vwCl (tyL k) s)
    {a : Nat} (hz : zCa M a) (ha : a < M 0 1) (hp : zPr M) (hk : ∀ x, x < 120 → M 15 x ≤ 24000) (h40 : M 0 1 ≤ 40)
    (hP : va_P D vwCl (zw (20 + 2 * M 0 1) ad (cX k ad M O)) H)
    (k0 : ∀ (ls : Array Slot), lv_has ls 4 [(3, .int (nI 3)), (2, .int (nI (gS M a 3)))] → W p l e (headSpec wsX2_greatestStep ({ frames := 2, cells := 0, slots := 0, locals := 46 })).room s m args below meth c H locs 0 0 Q (F0 m 26 ls [])) :
    ∀ (fu st : Nat), st ≤ 3 → 3 < st + fu → ∀ (ls : Array Slot), lv_has ls 4 [(3, .int (nI st)), (2, .int (nI (gS M a st))), (0, .ref (ad 0)), (1, .ref (ad (20 + 2 * a)))] → W p l e (headSpec wsX2_greatestStep ({ frames := 2, cells := 0, slots := 0, locals := 46 })).room s m args below meth c H locs 0 0 Q (F0 m 4 ls []) := by
  have hx := F.1
  have hb := F.2.1
  have hts := F.2.2.2.2
  have hown := F.2.2.2.1
  intro fu
  induction fu with
  | zero => intro st h1 h2; omega
  | succ fu ih =>
    intro st h1 h2 ls hl
    have hm := gS_le M a st
    have hm2 := stp_le M a st
    refine lv_iload_n hx hb dX2_greatestStep_4 rfl (lv_at hl 0 rfl) ?_
    refine lv_iconst (v := nI 2) hx hb dX2_greatestStep_5 (by decide) ?_
    refine z_icmp_gt (tgt := 26) F (by omega) (by omega) dX2_greatestStep_6 (by decide) (fun c9 => ?_) (fun c9 => ?_)
    · obtain rfl : st = 3 := by omega
      exact k0 ls (lv_sub hl [0, 1] rfl)
    · refine lv_iload_n hx hb dX2_greatestStep_9 rfl (lv_at hl 1 rfl) ?_
      refine lv_aload_n hx hb dX2_greatestStep_10 rfl (lv_at hl 2 rfl) ?_
      refine lv_aload_n hx hb dX2_greatestStep_11 rfl (lv_at hl 3 rfl) ?_
      refine lv_iload_n hx hb dX2_greatestStep_12 rfl (lv_at hl 0 rfl) ?_
      refine z_cV (qc := (RX2, TX2, 5)) (As := [.ref (ad (20 + 2 * a)), .int (nI st)]) (rest := [.int (nI (gS M a st))]) (0) F (c_X2_stepOfStage l D k ad M O a hz ha hp hk h40 st (by omega)) (cwV 2 hts gX2_greatestStep_X2_stepOfStage rfl rfl rfl (by decide +kernel) ⟨Nat.le_of_ble_eq_true rfl, Nat.le_of_ble_eq_true rfl⟩) hK hP (by omega) cX_0 rfl rfl hl.1 rfl (Nat.le_of_ble_eq_true rfl) dX2_greatestStep_13 ⟨Nat.le_of_ble_eq_true rfl, Nat.le_of_ble_eq_true rfl⟩ (fun r hr => ?_)
      subst hr
      refine z_mmax F hl.1 (by decide +kernel) (by decide +kernel) (by decide +kernel) (by decide +kernel) ⟨Nat.le_of_ble_eq_true rfl, Nat.le_of_ble_eq_true rfl⟩ ⟨Nat.le_of_ble_eq_true rfl, Nat.le_of_ble_eq_true rfl⟩ (by omega) (by omega) dX2_greatestStep_16 ?_
      refine lv_istore_n (lv' := [(2, .int (nI (max (gS M a st) (stp M a st)))), (3, .int (nI st)), (0, .ref (ad 0)), (1, .ref (ad (20 + 2 * a)))]) hx hb dX2_greatestStep_19 rfl hl (by decide) rfl (fun ls hl => ?_)
      refine lv_iinc (v := nI (st + 1)) (lv' := [(3, .int (nI (st + 1))), (2, .int (nI (max (gS M a st) (stp M a st)))), (0, .ref (ad 0)), (1, .ref (ad (20 + 2 * a)))]) hx hb dX2_greatestStep_20 hl (k := 1) rfl (nI_1 st) (by decide) rfl (fun ls hl => ?_)
      refine lv_goto (tgt := 4) hx hb dX2_greatestStep_23 (by decide) ?_
      exact ih (st + 1) (by omega) (by omega) ls (lv_sub hl [0, 1, 2, 3] rfl)
set_option maxRecDepth 100000 in
set_option maxHeartbeats 4000000 in
/-- greatestStep -/
theorem c_X2_greatestStep (l : Launch) (D : va_G) (k : Nat → ClassId) (ad : Nat → Nat) (M : Nat → Nat → Nat) (O : Nat → Nat → Int32) (a : Nat) (hz : zCa M a) (ha : a < M 0 1) (hp : zPr M) (hk : ∀ x, x < 120 → M 15 x ≤ 24000) (h40 : M 0 1 ≤ 40) : Met l yX2_greatestStep wsX2_greatestStep ({ frames := 2, cells := 0, slots := 0, locals := 46 }) (va_Pc [.ref (ad 0), .ref (ad (20 + 2 * a))] (zR D k (20 + 2 * M 0 1) ad (cX k ad M O))) (vp_Si (fun r => r = nI (gS M a 3))) 0 0 (fun _ => False) := by
  refine Met.ofW (cc := cX2_greatestStep) (maxL := 4) (ret := (some .int)) (by decide) rfl ?_
  intro p e s m args below meth c s₁ B hml hv
  obtain ⟨rfl, hP, hK⟩ := hv
  have hx := B.exec
  have hb := B.bytes
  have hr := B.returns
  have hts := atoms_spec (ws := wsX2_greatestStep) B.pre
  have hown : s.vm.findClass RX2 = some m.cls := findClass_of_methodNamed B.named
  have hlocks := B.notSynchronized
  have F : CallFix p m c cX2_greatestStep 4 s _ wsX2_greatestStep RX2 := ⟨hx, hb, hml, hown, hts⟩
  have hl := lv_entry ([.ref (ad 0), .ref (ad (20 + 2 * a))]) (n := 4) (Nat.le_of_ble_eq_true rfl)
  rw [lg_entry_eq]
  generalize (lg_sl ([.ref (ad 0), .ref (ad (20 + 2 * a))]) ++ List.replicate (4 - (lg_sl ([.ref (ad 0), .ref (ad (20 + 2 * a))])).length) Slot.unset).toArray = ls at hl ⊢
  have hl : lv_has ls 4 [(0, .ref (ad 0)), (1, .ref (ad (20 + 2 * a)))] := hl
  refine lv_iconst (v := nI 0) hx hb dX2_greatestStep_0 (by decide) ?_
  refine lv_istore_n (lv' := [(2, .int (nI 0)), (0, .ref (ad 0)), (1, .ref (ad (20 + 2 * a)))]) hx hb dX2_greatestStep_1 rfl hl (by decide) rfl (fun ls hl => ?_)
  refine lv_iconst (v := nI 0) hx hb dX2_greatestStep_2 (by decide) ?_
  refine lv_istore_n (lv' := [(3, .int (nI 0)), (2, .int (nI 0)), (0, .ref (ad 0)), (1, .ref (ad (20 + 2 * a)))]) hx hb dX2_greatestStep_3 rfl hl (by decide) rfl (fun ls hl => ?_)
  refine lp_greatestStep F hK hz ha hp hk h40 hP (fun ls hl => ?_) 4 0 (by omega) (by omega) ls (lv_sub hl [0, 1, 2, 3] rfl)
  refine lv_iload_n hx hb dX2_greatestStep_26 rfl (lv_at hl 1 rfl) ?_
  exact W.iret (v := nI (gS M a 3)) hx hb hr (fun t ht hW => ⟨nI (gS M a 3), rfl, rfl, ht⟩) (fun q h => by cases h) dX2_greatestStep_27
set_option maxRecDepth 100000 in
set_option maxHeartbeats 4000000 in
/-- isCoveredToday -/
theorem c_X2_isCoveredToday (l : Launch) (D : va_G) (k : Nat → ClassId) (ad : Nat → Nat) (M : Nat → Nat → Nat) (O : Nat → Nat → Int32) (a : Nat) (hz : zCa M a) (ha : a < M 0 1) (hs : zSi M (M 9 a)) (ho : zCo M (M 9 a)) (hnow : M 0 0 ≤ 24000) : Met l yX2_isCoveredToday wsX2_isCoveredToday ({ frames := 1, cells := 0, slots := 0, locals := 23 }) (va_Pc [.ref (ad 0), .ref (ad (20 + 2 * a))] (zR D k (20 + 2 * M 0 1) ad (cX k ad M O))) (vp_Si (fun r => r = bI (cov M (M 9 a) (M 10 a) (M 0 0 / 24)))) 0 0 (fun _ => False) := by
  refine Met.ofW (cc := cX2_isCoveredToday) (maxL := 2) (ret := (some .boolean)) (by decide) rfl ?_
  intro p e s m args below meth c s₁ B hml hv
  obtain ⟨rfl, hP, hK⟩ := hv
  have hx := B.exec
  have hb := B.bytes
  have hr := B.returns
  have hts := atoms_spec (ws := wsX2_isCoveredToday) B.pre
  have hown : s.vm.findClass RX2 = some m.cls := findClass_of_methodNamed B.named
  have hlocks := B.notSynchronized
  have F : CallFix p m c cX2_isCoveredToday 2 s _ wsX2_isCoveredToday RX2 := ⟨hx, hb, hml, hown, hts⟩
  have hl := lv_entry ([.ref (ad 0), .ref (ad (20 + 2 * a))]) (n := 2) (Nat.le_of_ble_eq_true rfl)
  rw [lg_entry_eq]
  generalize (lg_sl ([.ref (ad 0), .ref (ad (20 + 2 * a))]) ++ List.replicate (2 - (lg_sl ([.ref (ad 0), .ref (ad (20 + 2 * a))])).length) Slot.unset).toArray = ls at hl ⊢
  have hl : lv_has ls 2 [(0, .ref (ad 0)), (1, .ref (ad (20 + 2 * a)))] := hl
  have hi2 : ∀ w ∈ u_ws RX2 TX2 5, w ∈ wsX2_isCoveredToday := by decide +kernel
  have hi0 : ∀ w ∈ u_ws RX0 TX0 8, w ∈ wsX2_isCoveredToday := by decide +kernel
  obtain ⟨hc1, hc2, hc3, hc4, hc5, hc6, hc7⟩ := id hz
  refine lv_aload_n hx hb dX2_isCoveredToday_0 rfl (lv_at hl 1 rfl) ?_
  refine z_get (C := RX0) (T := TX0) (N := 8) (ci := 0) (v := .ref (ad (4 + 4 * (M 9 a)))) F hK hP hi0 rfl (20 + 2 * a) 0 (by have := ha; omega) cX_c (by decide) rfl (by decide +kernel) dX2_isCoveredToday_1 ?_
  refine lv_aload_n hx hb dX2_isCoveredToday_4 rfl (lv_at hl 1 rfl) ?_
  refine z_get (C := RX0) (T := TX0) (N := 8) (ci := 0) (v := .int (nI (M 10 a))) F hK hP hi0 rfl (20 + 2 * a) 1 (by have := ha; omega) cX_c (by decide) rfl (by decide +kernel) dX2_isCoveredToday_5 ?_
  refine lv_aload_n hx hb dX2_isCoveredToday_8 rfl (lv_at hl 0 rfl) ?_
  refine z_get (C := RX2) (T := TX2) (N := 5) (ci := 2) (v := .int (nI (M 0 0))) F hK hP hi2 rfl (0) 4 (by omega) cX_0 (by decide) rfl (by decide +kernel) dX2_isCoveredToday_9 ?_
  refine lv_bipush (v := nI 24) hx hb dX2_isCoveredToday_12 (by decide) ?_
  refine z_div F (by omega) (by omega) (by omega) dX2_isCoveredToday_14 ?_
  refine z_cV (qc := (RX1, TX1, 9)) (As := [.int (nI (M 10 a)), .int (nI ((M 0 0) / 24))]) (rest := []) (4 + 4 * (M 9 a)) F (c_X1_covers l D k ad M O (M 9 a) hs ho (M 10 a) (M 0 0 / 24) hc1 hc2 (by omega)) (cwV 2 hts gX2_isCoveredToday_X1_covers rfl rfl rfl (by decide +kernel) ⟨Nat.le_of_ble_eq_true rfl, Nat.le_of_ble_eq_true rfl⟩) hK hP (by have := hc1; omega) (cX_s hc1) rfl rfl hl.1 rfl (Nat.le_of_ble_eq_true rfl) dX2_isCoveredToday_15 ⟨Nat.le_of_ble_eq_true rfl, Nat.le_of_ble_eq_true rfl⟩ (fun r hr => ?_)
  subst hr
  exact W.zret (v := bI (cov M (M 9 a) (M 10 a) (M 0 0 / 24))) hx hb hr bI_n (fun t ht hW => ⟨bI (cov M (M 9 a) (M 10 a) (M 0 0 / 24)), rfl, rfl, ht⟩) (fun q h => by cases h) dX2_isCoveredToday_18
set_option maxRecDepth 100000 in
set_option maxHeartbeats 4000000 in
theorem lp_countJoined {p : Program} {l : Launch} {e : Env} {s : State} {m : MethodId} {args : Array Value} {below : List Frame} {meth : Method} {c : Code} {H : Heap} {locs : List Loc} {Q : State → Prop} {D : va_G} {k : Nat → ClassId} {ad : Nat → Nat} {M : Nat → Nat → Nat} {O : Nat → Nat → Int32} (F : CallFix p m c cX2_countJoinedTo 7 s args wsX2_countJoinedTo RX2) (hK : va_K D vwCl (tyL k) s)
    {h : Nat} (hj : ∀ i j, i < 20 + 2 * M 0 1 → j < 20 + 2 * M 0 1 → ad i = ad j → i = j) (hca : ∀ c, c < M 0 1 → zCa M c) (hh : h < M 0 1) (h40 : M 0 1 ≤ 40)
    (hP : va_P D vwCl (zw (20 + 2 * M 0 1) ad (cX k ad M O)) H)
    (k0 : ∀ (ls : Array Slot), lv_has ls 7 [(5, .int (nI 40)), (2, .int (nI (jN M h (M 0 1))))] → W p l e (headSpec wsX2_countJoinedTo ({ frames := 1, cells := 0, slots := 0, locals := 21 })).room s m args below meth c H locs 0 0 Q (F0 m 50 ls [])) :
    ∀ (fu i : Nat), i ≤ 40 → 40 < i + fu → ∀ (ls : Array Slot), lv_has ls 7 [(5, .int (nI i)), (2, .int (nI (jN M h (min i (M 0 1))))), (0, .ref (ad 0)), (1, .ref (ad (20 + 2 * h))), (3, .ref (ad 3)), (4, .int (nI 40))] → W p l e (headSpec wsX2_countJoinedTo ({ frames := 1, cells := 0, slots := 0, locals := 21 })).room s m args below meth c H locs 0 0 Q (F0 m 14 ls []) := by
  have hx := F.1
  have hb := F.2.1
  have hts := F.2.2.2.2
  have hown := F.2.2.2.1
  intro fu
  induction fu with
  | zero => intro i h1 h2; omega
  | succ fu ih =>
    intro i h1 h2 ls hl
    have hm := jN_le M h (min i (M 0 1))
    refine lv_iload hx hb dX2_countJoinedTo_14 (lv_at hl 0 rfl) ?_
    refine lv_iload hx hb dX2_countJoinedTo_16 (lv_at hl 5 rfl) ?_
    refine z_icmp_ge (tgt := 50) F (by omega) (by omega) dX2_countJoinedTo_18 (by decide) (fun c10 => ?_) (fun c10 => ?_)
    · obtain rfl : i = 40 := by omega
      rw [show min 40 (M 0 1) = M 0 1 by omega] at hl
      exact k0 ls (lv_sub hl [0, 1] rfl)
    · refine lv_aload_n hx hb dX2_countJoinedTo_21 rfl (lv_at hl 4 rfl) ?_
      refine lv_iload hx hb dX2_countJoinedTo_22 (lv_at hl 0 rfl) ?_
      refine z_aldq (v := if i < M 0 1 then some (ad (20 + 2 * i)) else none) F hK hP (3) 3 (by omega) cX_3 rfl (i := nI i) i rfl (by omega) (by decide) rfl dX2_countJoinedTo_24 ?_
      by_cases hin : i < M 0 1
      · rw [if_pos hin]
        refine z_rf ?_
        obtain ⟨hc1, hc2, hc3, hc4, hc5, hc6, hc7⟩ := hca i hin
        refine lv_astore (lv' := [(6, .ref (ad (20 + 2 * i))), (5, .int (nI i)), (2, .int (nI (jN M h (min i (M 0 1))))), (0, .ref (ad 0)), (1, .ref (ad (20 + 2 * h))), (3, .ref (ad 3)), (4, .int (nI 40))]) hx hb dX2_countJoinedTo_25 hl (by decide) rfl (fun ls hl => ?_)
        refine lv_aload hx hb dX2_countJoinedTo_27 (lv_at hl 0 rfl) ?_
        refine lv_ifnull hx hb dX2_countJoinedTo_29 ?_
        refine lv_aload hx hb dX2_countJoinedTo_32 (lv_at hl 0 rfl) ?_
        refine lv_aload_n hx hb dX2_countJoinedTo_34 rfl (lv_at hl 4 rfl) ?_
        refine z_cV (qc := (RX0, TX0, 8)) (As := [.ref (ad (20 + 2 * h))]) (rest := []) (20 + 2 * i) F (c_X0_isJoinedTo l D k ad M O hj i h hc4 hc5 hin hh) (cwV 1 hts gX2_countJoinedTo_X0_isJoinedTo rfl rfl rfl (by decide +kernel) ⟨Nat.le_of_ble_eq_true rfl, Nat.le_of_ble_eq_true rfl⟩) hK hP (by have := hin; omega) cX_c rfl rfl hl.1 rfl (Nat.le_of_ble_eq_true rfl) dX2_countJoinedTo_35 ⟨Nat.le_of_ble_eq_true rfl, Nat.le_of_ble_eq_true rfl⟩ (fun r hr => ?_)
        subst hr
        refine z_ifb_eq (tgt := 44) F dX2_countJoinedTo_38 (by decide) (fun c11 => ?_) (fun c11 => ?_)
        · refine lv_iinc (v := nI (i + 1)) (lv' := [(5, .int (nI (i + 1))), (6, .ref (ad (20 + 2 * i))), (2, .int (nI (jN M h (min i (M 0 1))))), (0, .ref (ad 0)), (1, .ref (ad (20 + 2 * h))), (3, .ref (ad 3)), (4, .int (nI 40))]) hx hb dX2_countJoinedTo_44 hl (k := 1) rfl (nI_1 i) (by decide) rfl (fun ls hl => ?_)
          refine lv_goto (tgt := 14) hx hb dX2_countJoinedTo_47 (by decide) ?_
          have e1 : jN M h (min (i + 1) (M 0 1)) = jN M h (min i (M 0 1)) := by
            rw [show min (i + 1) (M 0 1) = i + 1 by omega, show min i (M 0 1) = i by omega]
            show jN M h i + (if M 12 i = 1 ∧ M 13 i = h + 1 then 1 else 0) = _
            rw [if_neg c11, Nat.add_zero]
          exact ih (i + 1) (by omega) (by omega) ls (by rw [e1]; exact lv_sub hl [0, 2, 3, 4, 5, 6] rfl)
        · refine lv_iinc (v := nI ((jN M h (min i (M 0 1))) + 1)) (lv' := [(2, .int (nI ((jN M h (min i (M 0 1))) + 1))), (6, .ref (ad (20 + 2 * i))), (5, .int (nI i)), (0, .ref (ad 0)), (1, .ref (ad (20 + 2 * h))), (3, .ref (ad 3)), (4, .int (nI 40))]) hx hb dX2_countJoinedTo_41 hl (k := 2) rfl (nI_1 (jN M h (min i (M 0 1)))) (by decide) rfl (fun ls hl => ?_)
          refine lv_iinc (v := nI (i + 1)) (lv' := [(5, .int (nI (i + 1))), (2, .int (nI ((jN M h (min i (M 0 1))) + 1))), (6, .ref (ad (20 + 2 * i))), (0, .ref (ad 0)), (1, .ref (ad (20 + 2 * h))), (3, .ref (ad 3)), (4, .int (nI 40))]) hx hb dX2_countJoinedTo_44 hl (k := 2) rfl (nI_1 i) (by decide) rfl (fun ls hl => ?_)
          refine lv_goto (tgt := 14) hx hb dX2_countJoinedTo_47 (by decide) ?_
          have e1 : jN M h (min (i + 1) (M 0 1)) = (jN M h (min i (M 0 1))) + 1 := by
            rw [show min (i + 1) (M 0 1) = i + 1 by omega, show min i (M 0 1) = i by omega]
            show jN M h i + (if M 12 i = 1 ∧ M 13 i = h + 1 then 1 else 0) = _
            rw [if_pos c11]
          exact ih (i + 1) (by omega) (by omega) ls (by rw [e1]; exact lv_sub hl [0, 1, 3, 4, 5, 6] rfl)
      · rw [if_neg hin]
        refine z_rn ?_
        refine lv_astoreN (lv' := [(6, .null), (5, .int (nI i)), (2, .int (nI (jN M h (min i (M 0 1))))), (0, .ref (ad 0)), (1, .ref (ad (20 + 2 * h))), (3, .ref (ad 3)), (4, .int (nI 40))]) hx hb dX2_countJoinedTo_25 hl (by decide) rfl (fun ls hl => ?_)
        refine lv_aloadN hx hb dX2_countJoinedTo_27 (lv_at hl 0 rfl) ?_
        refine lv_ifnullN (tgt := 44) hx hb dX2_countJoinedTo_29 (by decide) ?_
        refine lv_iinc (v := nI (i + 1)) (lv' := [(5, .int (nI (i + 1))), (6, .null), (2, .int (nI (jN M h (min i (M 0 1))))), (0, .ref (ad 0)), (1, .ref (ad (20 + 2 * h))), (3, .ref (ad 3)), (4, .int (nI 40))]) hx hb dX2_countJoinedTo_44 hl (k := 1) rfl (nI_1 i) (by decide) rfl (fun ls hl => ?_)
        refine lv_goto (tgt := 14) hx hb dX2_countJoinedTo_47 (by decide) ?_
        have e1 : jN M h (min (i + 1) (M 0 1)) = jN M h (min i (M 0 1)) := by rw [show min (i + 1) (M 0 1) = min i (M 0 1) by omega]
        exact ih (i + 1) (by omega) (by omega) ls (by rw [e1]; exact lv_sub hl [0, 2, 3, 4, 5, 6] rfl)
set_option maxRecDepth 100000 in
set_option maxHeartbeats 4000000 in
/-- countJoinedTo -/
theorem c_X2_countJoinedTo (l : Launch) (D : va_G) (k : Nat → ClassId) (ad : Nat → Nat) (M : Nat → Nat → Nat) (O : Nat → Nat → Int32) (hj : ∀ i j, i < 20 + 2 * M 0 1 → j < 20 + 2 * M 0 1 → ad i = ad j → i = j) (hca : ∀ c, c < M 0 1 → zCa M c) (h : Nat) (hh : h < M 0 1) (h40 : M 0 1 ≤ 40) : Met l yX2_countJoinedTo wsX2_countJoinedTo ({ frames := 1, cells := 0, slots := 0, locals := 21 }) (va_Pc [.ref (ad 0), .ref (ad (20 + 2 * h))] (zR D k (20 + 2 * M 0 1) ad (cX k ad M O))) (vp_Si (fun r => r = nI (jN M h (M 0 1)))) 0 0 (fun _ => False) := by
  refine Met.ofW (cc := cX2_countJoinedTo) (maxL := 7) (ret := (some .int)) (by decide) rfl ?_
  intro p e s m args below meth c s₁ B hml hv
  obtain ⟨rfl, hP, hK⟩ := hv
  have hx := B.exec
  have hb := B.bytes
  have hr := B.returns
  have hts := atoms_spec (ws := wsX2_countJoinedTo) B.pre
  have hown : s.vm.findClass RX2 = some m.cls := findClass_of_methodNamed B.named
  have hlocks := B.notSynchronized
  have F : CallFix p m c cX2_countJoinedTo 7 s _ wsX2_countJoinedTo RX2 := ⟨hx, hb, hml, hown, hts⟩
  have hl := lv_entry ([.ref (ad 0), .ref (ad (20 + 2 * h))]) (n := 7) (Nat.le_of_ble_eq_true rfl)
  rw [lg_entry_eq]
  generalize (lg_sl ([.ref (ad 0), .ref (ad (20 + 2 * h))]) ++ List.replicate (7 - (lg_sl ([.ref (ad 0), .ref (ad (20 + 2 * h))])).length) Slot.unset).toArray = ls at hl ⊢
  have hl : lv_has ls 7 [(0, .ref (ad 0)), (1, .ref (ad (20 + 2 * h)))] := hl
  have hi2 : ∀ w ∈ u_ws RX2 TX2 5, w ∈ wsX2_countJoinedTo := by decide +kernel
  refine lv_iconst (v := nI 0) hx hb dX2_countJoinedTo_0 (by decide) ?_
  refine lv_istore_n (lv' := [(2, .int (nI 0)), (0, .ref (ad 0)), (1, .ref (ad (20 + 2 * h)))]) hx hb dX2_countJoinedTo_1 rfl hl (by decide) rfl (fun ls hl => ?_)
  refine lv_aload_n hx hb dX2_countJoinedTo_2 rfl (lv_at hl 1 rfl) ?_
  refine z_get (C := RX2) (T := TX2) (N := 5) (ci := 2) (v := .ref (ad 3)) F hK hP hi2 rfl (0) 2 (by omega) cX_0 (by decide) rfl (by decide +kernel) dX2_countJoinedTo_3 ?_
  refine lv_astore_n (lv' := [(3, .ref (ad 3)), (2, .int (nI 0)), (0, .ref (ad 0)), (1, .ref (ad (20 + 2 * h)))]) hx hb dX2_countJoinedTo_6 rfl hl (by decide) rfl (fun ls hl => ?_)
  refine lv_aload_n hx hb dX2_countJoinedTo_7 rfl (lv_at hl 0 rfl) ?_
  refine z_alen F hK hP (3) 3 (by omega) cX_3 rfl 40 rfl dX2_countJoinedTo_8 ?_
  refine lv_istore (lv' := [(4, .int (nI 40)), (3, .ref (ad 3)), (2, .int (nI 0)), (0, .ref (ad 0)), (1, .ref (ad (20 + 2 * h)))]) hx hb dX2_countJoinedTo_9 hl (by decide) rfl (fun ls hl => ?_)
  refine lv_iconst (v := nI 0) hx hb dX2_countJoinedTo_11 (by decide) ?_
  refine lv_istore (lv' := [(5, .int (nI 0)), (4, .int (nI 40)), (3, .ref (ad 3)), (2, .int (nI 0)), (0, .ref (ad 0)), (1, .ref (ad (20 + 2 * h)))]) hx hb dX2_countJoinedTo_12 hl (by decide) rfl (fun ls hl => ?_)
  refine lp_countJoined F hK hj hca hh h40 hP (fun ls hl => ?_) 41 0 (by omega) (by omega) ls (by rw [Nat.zero_min]; exact lv_sub hl [0, 3, 4, 5, 2, 1] rfl)
  refine lv_iload_n hx hb dX2_countJoinedTo_50 rfl (lv_at hl 1 rfl) ?_
  exact W.iret (v := nI (jN M h (M 0 1))) hx hb hr (fun t ht hW => ⟨nI (jN M h (M 0 1)), rfl, rfl, ht⟩) (fun q h => by cases h) dX2_countJoinedTo_51
