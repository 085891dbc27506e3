set_option maxRecDepth 100000 in
set_option maxHeartbeats 4000000 in
/-- Case.isRunning() -/
theorem c_X0_isRunning (l : Launch) (D : va_G) (k : Nat → ClassId) (ad : Nat → Nat) (M : Nat → Nat → Nat) (O : Nat → Nat → Int32) (a : Nat) (hz : zCa M a) (ha : a < M 0 1) : Met l yX0_isRunning wsX0_isRunning ({ frames := 0, cells := 0, slots := 0, locals := 0 }) (va_Pc [.ref (ad (20 + 2 * a))] (zR D k (20 + 2 * M 0 1) ad (cX k ad M O))) (vp_Si (fun r => r = bI (M 12 a = 0 ∧ M 14 a = 0))) 0 0 (fun _ => False) := by
  refine Met.ofW (cc := cX0_isRunning) (maxL := 1) (ret := (some .boolean)) (by decide) rfl ?_
  intro p e s m args below meth c s₁ B hml hv
  obtain ⟨rfl, hP, hK⟩ := hv
  have hx := B.exec
  have hb := B.bytes
  have hr := B.returns
  have hts := atoms_spec (ws := wsX0_isRunning) B.pre
  have hown : s.vm.findClass RX0 = some m.cls := findClass_of_methodNamed B.named
  have hlocks := B.notSynchronized
  have F : CallFix p m c cX0_isRunning 1 s _ wsX0_isRunning RX0 := ⟨hx, hb, hml, hown, hts⟩
  have hl := lv_entry ([.ref (ad (20 + 2 * a))]) (n := 1) (Nat.le_of_ble_eq_true rfl)
  rw [lg_entry_eq]
  generalize (lg_sl ([.ref (ad (20 + 2 * a))]) ++ List.replicate (1 - (lg_sl ([.ref (ad (20 + 2 * a))])).length) Slot.unset).toArray = ls at hl ⊢
  have hl : lv_has ls 1 [(0, .ref (ad (20 + 2 * a)))] := hl
  have hi0 : ∀ w ∈ u_ws RX0 TX0 8, w ∈ wsX0_isRunning := by decide +kernel
  obtain ⟨hc1, hc2, hc3, hc4, hc5, hc6, hc7⟩ := id hz
  refine lv_aload_n hx hb dX0_isRunning_0 rfl (lv_at hl 0 rfl) ?_
  refine z_get (C := RX0) (T := TX0) (N := 8) (ci := 0) (v := .int (nI (M 12 a))) F hK hP hi0 rfl (20 + 2 * a) 3 (by have := ha; omega) cX_c (by decide) rfl (by decide +kernel) dX0_isRunning_1 ?_
  refine z_ifn_ne (tgt := 18) F (by omega) dX0_isRunning_4 (by decide) (fun c1 => ?_) (fun c1 => ?_)
  · refine lv_iconst (v := nI 0) hx hb dX0_isRunning_18 (by decide) ?_
    exact W.zret (v := nI 0) hx hb hr rfl (fun t ht hW => ⟨nI 0, rfl, (bI_f (fun zz1 => c1 zz1.1)).symm, ht⟩) (fun q h => by cases h) dX0_isRunning_19
  · refine lv_aload_n hx hb dX0_isRunning_7 rfl (lv_at hl 0 rfl) ?_
    refine z_get (C := RX0) (T := TX0) (N := 8) (ci := 0) (v := .int (nI (M 14 a))) F hK hP hi0 rfl (20 + 2 * a) 4 (by have := ha; omega) cX_c (by decide) rfl (by decide +kernel) dX0_isRunning_8 ?_
    refine z_ifn_ne (tgt := 18) F (by omega) dX0_isRunning_11 (by decide) (fun c2 => ?_) (fun c2 => ?_)
    · refine lv_iconst (v := nI 0) hx hb dX0_isRunning_18 (by decide) ?_
      exact W.zret (v := nI 0) hx hb hr rfl (fun t ht hW => ⟨nI 0, rfl, (bI_f (fun zz1 => c2 zz1.2)).symm, ht⟩) (fun q h => by cases h) dX0_isRunning_19
    · refine lv_iconst (v := nI 1) hx hb dX0_isRunning_14 (by decide) ?_
      refine lv_goto (tgt := 19) hx hb dX0_isRunning_15 (by decide) ?_
      exact W.zret (v := nI 1) hx hb hr rfl (fun t ht hW => ⟨nI 1, rfl, (bI_t ⟨c1, c2⟩).symm, ht⟩) (fun q h => by cases h) dX0_isRunning_19
set_option maxRecDepth 100000 in
set_option maxHeartbeats 4000000 in
/-- Case.hasReached(st) -/
theorem c_X0_hasReached (l : Launch) (D : va_G) (k : Nat → ClassId) (ad : Nat → Nat) (M : Nat → Nat → Nat) (O : Nat → Nat → Int32) (a st : Nat) (hz : zCa M a) (ha : a < M 0 1) (hst : st < 2 ^ 31) : Met l yX0_hasReached wsX0_hasReached ({ frames := 0, cells := 0, slots := 0, locals := 0 }) (va_Pc [.ref (ad (20 + 2 * a)), .int (nI st)] (zR D k (20 + 2 * M 0 1) ad (cX k ad M O))) (vp_Si (fun r => r = bI (st < M 16 a))) 0 0 (fun _ => False) := by
  refine Met.ofW (cc := cX0_hasReached) (maxL := 2) (ret := (some .boolean)) (by decide) rfl ?_
  intro p e s m args below meth c s₁ B hml hv
  obtain ⟨rfl, hP, hK⟩ := hv
  have hx := B.exec
  have hb := B.bytes
  have hr := B.returns
  have hts := atoms_spec (ws := wsX0_hasReached) B.pre
  have hown : s.vm.findClass RX0 = some m.cls := findClass_of_methodNamed B.named
  have hlocks := B.notSynchronized
  have F : CallFix p m c cX0_hasReached 2 s _ wsX0_hasReached RX0 := ⟨hx, hb, hml, hown, hts⟩
  have hl := lv_entry ([.ref (ad (20 + 2 * a)), .int (nI st)]) (n := 2) (Nat.le_of_ble_eq_true rfl)
  rw [lg_entry_eq]
  generalize (lg_sl ([.ref (ad (20 + 2 * a)), .int (nI st)]) ++ List.replicate (2 - (lg_sl ([.ref (ad (20 + 2 * a)), .int (nI st)])).length) Slot.unset).toArray = ls at hl ⊢
  have hl : lv_has ls 2 [(0, .ref (ad (20 + 2 * a))), (1, .int (nI st))] := hl
  have hi0 : ∀ w ∈ u_ws RX0 TX0 8, w ∈ wsX0_hasReached := by decide +kernel
  obtain ⟨hc1, hc2, hc3, hc4, hc5, hc6, hc7⟩ := id hz
  refine lv_iload_n hx hb dX0_hasReached_0 rfl (lv_at hl 1 rfl) ?_
  refine lv_aload_n hx hb dX0_hasReached_1 rfl (lv_at hl 0 rfl) ?_
  refine z_get (C := RX0) (T := TX0) (N := 8) (ci := 0) (v := .int (nI (M 16 a))) F hK hP hi0 rfl (20 + 2 * a) 6 (by have := ha; omega) cX_c (by decide) rfl (by decide +kernel) dX0_hasReached_2 ?_
  refine z_icmp_ge (tgt := 12) F (by omega) (by omega) dX0_hasReached_5 (by decide) (fun c3 => ?_) (fun c3 => ?_)
  · refine lv_iconst (v := nI 0) hx hb dX0_hasReached_12 (by decide) ?_
    exact W.zret (v := nI 0) hx hb hr rfl (fun t ht hW => ⟨nI 0, rfl, (bI_f (Nat.not_lt.mpr c3)).symm, ht⟩) (fun q h => by cases h) dX0_hasReached_13
  · refine lv_iconst (v := nI 1) hx hb dX0_hasReached_8 (by decide) ?_
    refine lv_goto (tgt := 13) hx hb dX0_hasReached_9 (by decide) ?_
    exact W.zret (v := nI 1) hx hb hr rfl (fun t ht hW => ⟨nI 1, rfl, (bI_t c3).symm, ht⟩) (fun q h => by cases h) dX0_hasReached_13
theorem hdR_eq {ad : Nat → Nat} {M : Nat → Nat → Nat} {x h : Nat} (hj : ∀ i j, i < 20 + 2 * M 0 1 → j < 20 + 2 * M 0 1 → ad i = ad j → i = j) (hx : x ≤ M 0 1) (hh : h < M 0 1) : hdR ad x = some (ad (20 + 2 * h)) ↔ x = h + 1 := by
  unfold hdR
  by_cases h0 : x = 0
  · rw [if_pos h0]
    exact ⟨fun zz1 => (by cases zz1), fun zz1 => absurd zz1 (by omega)⟩
  · rw [if_neg h0]
    constructor
    · intro zz1
      have zz2 := hj _ _ (by omega) (by omega) (Option.some.inj zz1)
      omega
    · rintro rfl
      rfl
set_option maxRecDepth 100000 in
set_option maxHeartbeats 4000000 in
/-- Case.isJoinedTo(other) -/
theorem c_X0_isJoinedTo (l : Launch) (D : va_G) (k : Nat → ClassId) (ad : Nat → Nat) (M : Nat → Nat → Nat) (O : Nat → Nat → Int32) (hj : ∀ i j, i < 20 + 2 * M 0 1 → j < 20 + 2 * M 0 1 → ad i = ad j → i = j) (a h : Nat) (hc4 : M 12 a < 3) (hc5 : M 13 a ≤ M 0 1) (ha : a < M 0 1) (hh : h < M 0 1) : Met l yX0_isJoinedTo wsX0_isJoinedTo ({ frames := 0, cells := 0, slots := 0, locals := 0 }) (va_Pc [.ref (ad (20 + 2 * a)), .ref (ad (20 + 2 * h))] (zR D k (20 + 2 * M 0 1) ad (cX k ad M O))) (vp_Si (fun r => r = bI (M 12 a = 1 ∧ M 13 a = h + 1))) 0 0 (fun _ => False) := by
  refine Met.ofW (cc := cX0_isJoinedTo) (maxL := 2) (ret := (some .boolean)) (by decide) rfl ?_
  intro p e s m args below meth c s₁ B hml hv
  obtain ⟨rfl, hP, hK⟩ := hv
  have hx := B.exec
  have hb := B.bytes
  have hr := B.returns
  have hts := atoms_spec (ws := wsX0_isJoinedTo) B.pre
  have hown : s.vm.findClass RX0 = some m.cls := findClass_of_methodNamed B.named
  have hlocks := B.notSynchronized
  have F : CallFix p m c cX0_isJoinedTo 2 s _ wsX0_isJoinedTo RX0 := ⟨hx, hb, hml, hown, hts⟩
  have hl := lv_entry ([.ref (ad (20 + 2 * a)), .ref (ad (20 + 2 * h))]) (n := 2) (Nat.le_of_ble_eq_true rfl)
  rw [lg_entry_eq]
  generalize (lg_sl ([.ref (ad (20 + 2 * a)), .ref (ad (20 + 2 * h))]) ++ List.replicate (2 - (lg_sl ([.ref (ad (20 + 2 * a)), .ref (ad (20 + 2 * h))])).length) Slot.unset).toArray = ls at hl ⊢
  have hl : lv_has ls 2 [(0, .ref (ad (20 + 2 * a))), (1, .ref (ad (20 + 2 * h)))] := hl
  have hi0 : ∀ w ∈ u_ws RX0 TX0 8, w ∈ wsX0_isJoinedTo := by decide +kernel
  refine lv_aload_n hx hb dX0_isJoinedTo_0 rfl (lv_at hl 0 rfl) ?_
  refine z_get (C := RX0) (T := TX0) (N := 8) (ci := 0) (v := .int (nI (M 12 a))) F hK hP hi0 rfl (20 + 2 * a) 3 (by have := ha; omega) cX_c (by decide) rfl (by decide +kernel) dX0_isJoinedTo_1 ?_
  refine lv_iconst (v := nI 1) hx hb dX0_isJoinedTo_4 (by decide) ?_
  refine z_icmp_ne (tgt := 20) F (by omega) (by omega) dX0_isJoinedTo_5 (by decide) (fun c4 => ?_) (fun c4 => ?_)
  · refine lv_iconst (v := nI 0) hx hb dX0_isJoinedTo_20 (by decide) ?_
    exact W.zret (v := nI 0) hx hb hr rfl (fun t ht hW => ⟨nI 0, rfl, (bI_f (fun zz1 => c4 zz1.1)).symm, ht⟩) (fun q h => by cases h) dX0_isJoinedTo_21
  · refine lv_aload_n hx hb dX0_isJoinedTo_8 rfl (lv_at hl 0 rfl) ?_
    refine z_get (C := RX0) (T := TX0) (N := 8) (ci := 0) (v := va_rf (hdR ad (M 13 a))) F hK hP hi0 rfl (20 + 2 * a) 5 (by have := ha; omega) cX_c (by decide) rfl (by decide +kernel) dX0_isJoinedTo_9 ?_
    refine lv_aload_n hx hb dX0_isJoinedTo_12 rfl (lv_at hl 1 rfl) ?_
    refine lv_acmp_ne (rx := hdR ad (M 13 a)) (ry := some (ad (20 + 2 * h))) (tgt := 20) hx hb dX0_isJoinedTo_13 (by decide) (fun c5 => ?_) (fun c5 => ?_)
    · refine lv_iconst (v := nI 0) hx hb dX0_isJoinedTo_20 (by decide) ?_
      exact W.zret (v := nI 0) hx hb hr rfl (fun t ht hW => ⟨nI 0, rfl, (bI_f (fun zz1 => c5 ((hdR_eq hj hc5 hh).mpr zz1.2))).symm, ht⟩) (fun q h => by cases h) dX0_isJoinedTo_21
    · refine lv_iconst (v := nI 1) hx hb dX0_isJoinedTo_16 (by decide) ?_
      refine lv_goto (tgt := 21) hx hb dX0_isJoinedTo_17 (by decide) ?_
      exact W.zret (v := nI 1) hx hb hr rfl (fun t ht hW => ⟨nI 1, rfl, (bI_t ⟨c4, (hdR_eq hj hc5 hh).mp c5⟩).symm, ht⟩) (fun q h => by cases h) dX0_isJoinedTo_21
/-- the first st stages of the case a are run -/
def rkS (M : Nat → Nat → Nat) (t0 t1 a st : Nat) : Nat → Nat → Nat := fun r x => if r = 15 ∧ x / 3 = a ∧ x % 3 < st then rkv M t0 t1 a (x % 3) else M r x
theorem rkS_0 (M : Nat → Nat → Nat) (t0 t1 a : Nat) : rkS M t0 t1 a 0 = M := by
  funext r x
  unfold rkS
  rw [if_neg (by omega)]
theorem rkS_3 (M : Nat → Nat → Nat) (t0 t1 a : Nat) : rkS M t0 t1 a 3 = rk1 M t0 t1 a := by
  funext r x
  unfold rkS rk1
  by_cases h : r = 15 ∧ x / 3 = a
  · rw [if_pos ⟨h.1, h.2, by omega⟩, if_pos h]
  · rw [if_neg (fun zz1 => h ⟨zz1.1, zz1.2.1⟩), if_neg h]
theorem rk1_off {M : Nat → Nat → Nat} {t0 t1 a : Nat} (h : ¬ (M 12 a = 0 ∧ M 14 a = 0)) : rk1 M t0 t1 a = M := by
  funext r x
  unfold rk1 rkv
  by_cases h1 : r = 15 ∧ x / 3 = a
  · obtain ⟨rfl, h2⟩ := h1
    rw [if_pos ⟨rfl, h2⟩, if_neg (fun zz1 => h zz1.1), show 3 * a + x % 3 = x by omega]
  · rw [if_neg h1]
theorem rkS_no {M : Nat → Nat → Nat} {t0 t1 a st : Nat} (h : st < M 16 a) : rkS M t0 t1 a (st + 1) = rkS M t0 t1 a st := by
  funext r x
  unfold rkS
  by_cases h1 : r = 15 ∧ x / 3 = a ∧ x % 3 < st
  · rw [if_pos h1, if_pos ⟨h1.1, h1.2.1, by omega⟩]
  · rw [if_neg h1]
    by_cases h2 : r = 15 ∧ x / 3 = a ∧ x % 3 < st + 1
    · obtain ⟨rfl, h3, h4⟩ := h2
      have h5 : x % 3 = st := by omega
      rw [if_pos ⟨rfl, h3, h4⟩, h5]
      unfold rkv
      rw [if_neg (fun zz1 => zz1.2 h), show 3 * a + st = x by omega]
    · rw [if_neg h2]
theorem rkS_yes {M : Nat → Nat → Nat} {t0 t1 a st : Nat} (h0 : M 12 a = 0 ∧ M 14 a = 0) (h : ¬ st < M 16 a) (hs : st < 3) : rkS M t0 t1 a (st + 1) = zu (rkS M t0 t1 a st) 15 (3 * a + st) (rkS M t0 t1 a st 15 (3 * a + st) + (hN M (M 9 a) t1 - hN M (M 9 a) t0)) := by
  funext r x
  have e1 : rkS M t0 t1 a st 15 (3 * a + st) = M 15 (3 * a + st) := by unfold rkS; rw [if_neg (by omega)]
  rw [e1]
  unfold zu
  by_cases h1 : r = 15 ∧ x = 3 * a + st
  · rw [if_pos h1]
    obtain ⟨rfl, rfl⟩ := h1
    unfold rkS
    rw [if_pos ⟨rfl, by omega, by omega⟩, show (3 * a + st) % 3 = st by omega]
    unfold rkv
    rw [if_pos ⟨h0, h⟩]
  · rw [if_neg h1]
    unfold rkS
    by_cases h2 : r = 15 ∧ x / 3 = a ∧ x % 3 < st
    · rw [if_pos h2, if_pos ⟨h2.1, h2.2.1, by omega⟩]
    · rw [if_neg h2, if_neg (by omega)]
set_option maxRecDepth 100000 in
set_option maxHeartbeats 4000000 in
theorem lp_runClocks {p : Program} {l : Launch} {e : Env} {s : State} {m : MethodId} {args : Array Value} {below : List Frame} {meth : Method} {c : Code} {Q : State → Prop} {D : va_G} {k : Nat → ClassId} {ad : Nat → Nat} {M : Nat → Nat → Nat} {O : Nat → Nat → Int32} (F : CallFix p m c cX0_runClocks 5 s args wsX0_runClocks RX0) (hK : va_K D vwCl (tyL k) s)
    {A : Nat → Prop} {a t0 t1 : Nat} (hz : zCa M a) (ha : a < M 0 1) (hrun : M 12 a = 0 ∧ M 14 a = 0)
    (k0 : ∀ (H : Heap) (locs : List Loc), va_P D vwCl (zw (20 + 2 * M 0 1) ad (cX k ad (rk1 M t0 t1 a) O)) H → va_D A (zw (20 + 2 * M 0 1) ad (cX k ad (rk1 M t0 t1 a) O)) → va_S A s.heap H locs → ∀ (ls : Array Slot), W p l e (headSpec wsX0_runClocks ({ frames := 3, cells := 0, slots := 0, locals := 69 })).room s m args below meth c H locs 0 0 Q (F0 m 53 ls [])) :
    ∀ (fu st : Nat) (H : Heap) (locs : List Loc), st ≤ 3 → 3 < st + fu → va_P D vwCl (zw (20 + 2 * M 0 1) ad (cX k ad (rkS M t0 t1 a st) O)) H → va_D A (zw (20 + 2 * M 0 1) ad (cX k ad (rkS M t0 t1 a st) O)) → va_S A s.heap H locs → ∀ (ls : Array Slot), lv_has ls 5 [(4, .int (nI st)), (0, .ref (ad (20 + 2 * a))), (1, .int (nI t0)), (2, .int (nI t1)), (3, .int (nI (hN M (M 9 a) t1 - hN M (M 9 a) t0)))] → W p l e (headSpec wsX0_runClocks ({ frames := 3, cells := 0, slots := 0, locals := 69 })).room s m args below meth c H locs 0 0 Q (F0 m 21 ls []) := by
  have hx := F.1
  have hb := F.2.1
  have hts := F.2.2.2.2
  have hown := F.2.2.2.1
  have hi0 : ∀ w ∈ u_ws RX0 TX0 8, w ∈ wsX0_runClocks := by decide +kernel
  intro fu
  induction fu with
  | zero => intro st H locs h1 h2; omega
  | succ fu ih =>
    intro st H locs h1 h2 hP hD hS ls hl
    have hz1 : zCa (rkS M t0 t1 a st) a := hz
    have ha1 : a < (rkS M t0 t1 a st) 0 1 := ha
    refine lv_iload hx hb dX0_runClocks_21 (lv_at hl 0 rfl) ?_
    refine lv_iconst (v := nI 2) hx hb dX0_runClocks_23 (by decide) ?_
    refine z_icmp_gt (tgt := 53) F (by omega) (by omega) dX0_runClocks_24 (by decide) (fun c6 => ?_) (fun c6 => ?_)
    · obtain rfl : st = 3 := by omega
      rw [rkS_3] at hP hD
      exact k0 H locs hP hD hS ls
    · refine lv_aload_n hx hb dX0_runClocks_27 rfl (lv_at hl 1 rfl) ?_
      refine lv_iload hx hb dX0_runClocks_28 (lv_at hl 0 rfl) ?_
      refine z_cV (qc := (RX0, TX0, 8)) (As := [.int (nI st)]) (rest := []) (20 + 2 * a) F (c_X0_hasReached l D k ad (rkS M t0 t1 a st) O a st hz1 ha1 (by omega)) (cwV 1 hts gX0_runClocks_X0_hasReached rfl rfl rfl (by decide +kernel) ⟨Nat.le_of_ble_eq_true rfl, Nat.le_of_ble_eq_true rfl⟩) hK hP (by have := ha; omega) cX_c rfl rfl hl.1 rfl (Nat.le_of_ble_eq_true rfl) dX0_runClocks_30 ⟨Nat.le_of_ble_eq_true rfl, Nat.le_of_ble_eq_true rfl⟩ (fun r hr => ?_)
      subst hr
      refine z_ifb_ne (tgt := 47) F dX0_runClocks_33 (by decide) (fun c7 => ?_) (fun c7 => ?_)
      · refine lv_iinc (v := nI (st + 1)) (lv' := [(4, .int (nI (st + 1))), (0, .ref (ad (20 + 2 * a))), (1, .int (nI t0)), (2, .int (nI t1)), (3, .int (nI (hN M (M 9 a) t1 - hN M (M 9 a) t0)))]) hx hb dX0_runClocks_47 hl (k := 0) rfl (nI_1 st) (by decide) rfl (fun ls hl => ?_)
        refine lv_goto (tgt := 21) hx hb dX0_runClocks_50 (by decide) ?_
        rw [← rkS_no (M := M) (t0 := t0) (t1 := t1) c7] at hP hD
        exact ih (st + 1) H locs (by omega) (by omega) hP hD hS ls (lv_sub hl [0, 1, 2, 3, 4] rfl)
      · refine lv_aload_n hx hb dX0_runClocks_36 rfl (lv_at hl 1 rfl) ?_
        refine z_get (C := RX0) (T := TX0) (N := 8) (ci := 0) (v := .ref (ad (21 + 2 * a))) F hK hP hi0 rfl (20 + 2 * a) 7 (by have := ha; omega) cX_c (by decide) rfl (by decide +kernel) dX0_runClocks_37 ?_
        refine lv_iload hx hb dX0_runClocks_40 (lv_at hl 0 rfl) ?_
        refine lv_dup2_11 hx hb dX0_runClocks_42 rfl rfl ?_
        refine z_iald (v := nI ((rkS M t0 t1 a st) 15 (3 * a + st))) F hK hP (21 + 2 * a) 0 (by have := ha; omega) cX_k rfl (i := nI st) st rfl (by omega) (by decide) (rw0_at (by omega)) dX0_runClocks_43 ?_
        refine lv_iload_n hx hb dX0_runClocks_44 rfl (lv_at hl 4 rfl) ?_
        refine z_add F dX0_runClocks_45 ?_
        refine z_iast (f' := (cX k ad (zu (rkS M t0 t1 a st) 15 (3 * a + st) (((rkS M t0 t1 a st) 15 (3 * a + st)) + (hN M (M 9 a) t1 - hN M (M 9 a) t0))) O)) F hK hP hD hS (21 + 2 * a) 0 (by have := ha; omega) cX_k rfl (i := nI st) st rfl (by omega) (by decide) (cX_uclk (by omega) _) dX0_runClocks_46 (fun H locs hP hD hS => ?_)
        refine lv_iinc (v := nI (st + 1)) (lv' := [(4, .int (nI (st + 1))), (0, .ref (ad (20 + 2 * a))), (1, .int (nI t0)), (2, .int (nI t1)), (3, .int (nI (hN M (M 9 a) t1 - hN M (M 9 a) t0)))]) hx hb dX0_runClocks_47 hl (k := 0) rfl (nI_1 st) (by decide) rfl (fun ls hl => ?_)
        refine lv_goto (tgt := 21) hx hb dX0_runClocks_50 (by decide) ?_
        rw [← rkS_yes (M := M) (t0 := t0) (t1 := t1) hrun c7 (by omega)] at hP hD
        exact ih (st + 1) H locs (by omega) (by omega) hP hD hS ls (lv_sub hl [0, 1, 2, 3, 4] rfl)
set_option maxRecDepth 100000 in
set_option maxHeartbeats 4000000 in
/-- Case.runClocks(t0, t1) -/
theorem c_X0_runClocks (l : Launch) (D : va_G) (k : Nat → ClassId) (ad : Nat → Nat) (M : Nat → Nat → Nat) (O : Nat → Nat → Int32) (sz : Nat) (a : Nat) (hz : zCa M a) (ha : a < M 0 1) (hs : zSi M (M 9 a)) (t0 t1 : Nat) (hab : t0 ≤ t1) (hb0 : t1 ≤ 24000) : Met l yX0_runClocks wsX0_runClocks ({ frames := 3, cells := 0, slots := 0, locals := 69 }) (va_Pc [.ref (ad (20 + 2 * a)), .int (nI t0), .int (nI t1)] (zG D k (20 + 2 * M 0 1) ad (cX k ad M O) sz)) (zQu D k (20 + 2 * M 0 1) ad (cX k ad (rk1 M t0 t1 a) O) (va_A (zw (20 + 2 * M 0 1) ad (cX k ad M O)) sz)) 0 0 (va_A (zw (20 + 2 * M 0 1) ad (cX k ad M O)) sz) := by
  refine Met.ofW (cc := cX0_runClocks) (maxL := 5) (ret := none) (by decide) rfl ?_
  intro p e s m args below meth c s₁ B hml hv
  obtain ⟨rfl, hsz, ⟨hP, hK⟩, hD0⟩ := hv
  have hx := B.exec
  have hb := B.bytes
  have hr := B.returns
  have hts := atoms_spec (ws := wsX0_runClocks) B.pre
  have hown : s.vm.findClass RX0 = some m.cls := findClass_of_methodNamed B.named
  have hlocks := B.notSynchronized
  have F : CallFix p m c cX0_runClocks 5 s _ wsX0_runClocks RX0 := ⟨hx, hb, hml, hown, hts⟩
  subst hsz
  have hD := hD0.self (sz := s.heap.size)
  generalize hAe : va_A (zw (20 + 2 * M 0 1) ad (cX k ad M O)) s.heap.size = A at hD ⊢
  have hA : ∀ q : Nat, s.heap.size ≤ q → A q := fun q h => by rw [← hAe]; exact Or.inr h
  have hS : va_S A s.heap s.heap [] := va_S.rf
  have hl := lv_entry ([.ref (ad (20 + 2 * a)), .int (nI t0), .int (nI t1)]) (n := 5) (Nat.le_of_ble_eq_true rfl)
  rw [lg_entry_eq]
  generalize (lg_sl ([.ref (ad (20 + 2 * a)), .int (nI t0), .int (nI t1)]) ++ List.replicate (5 - (lg_sl ([.ref (ad (20 + 2 * a)), .int (nI t0), .int (nI t1)])).length) Slot.unset).toArray = ls at hl ⊢
  have hl : lv_has ls 5 [(0, .ref (ad (20 + 2 * a))), (1, .int (nI t0)), (2, .int (nI t1))] := hl
  have hi0 : ∀ w ∈ u_ws RX0 TX0 8, w ∈ wsX0_runClocks := by decide +kernel
  obtain ⟨hc1, hc2, hc3, hc4, hc5, hc6, hc7⟩ := id hz
  refine lv_aload_n hx hb dX0_runClocks_0 rfl (lv_at hl 0 rfl) ?_
  refine z_cV (qc := (RX0, TX0, 8)) (As := []) (rest := []) (20 + 2 * a) F (c_X0_isRunning l D k ad M O a hz ha) (cwV 0 hts gX0_runClocks_X0_isRunning rfl rfl rfl (by decide +kernel) ⟨Nat.le_of_ble_eq_true rfl, Nat.le_of_ble_eq_true rfl⟩) hK hP (by have := ha; omega) cX_c rfl rfl hl.1 rfl (Nat.le_of_ble_eq_true rfl) dX0_runClocks_1 ⟨Nat.le_of_ble_eq_true rfl, Nat.le_of_ble_eq_true rfl⟩ (fun r hr => ?_)
  subst hr
  refine z_ifb_ne (tgt := 8) F dX0_runClocks_4 (by decide) (fun c8 => ?_) (fun c8 => ?_)
  · refine lv_aload_n hx hb dX0_runClocks_8 rfl (lv_at hl 0 rfl) ?_
    refine z_get (C := RX0) (T := TX0) (N := 8) (ci := 0) (v := .ref (ad (4 + 4 * (M 9 a)))) F hK hP hi0 rfl (20 + 2 * a) 0 (by have := ha; omega) cX_c (by decide) rfl (by decide +kernel) dX0_runClocks_9 ?_
    refine lv_iload_n hx hb dX0_runClocks_12 rfl (lv_at hl 1 rfl) ?_
    refine lv_iload_n hx hb dX0_runClocks_13 rfl (lv_at hl 2 rfl) ?_
    refine z_cV (qc := (RX1, TX1, 9)) (As := [.int (nI t0), .int (nI t1)]) (rest := []) (4 + 4 * (M 9 a)) F (c_X1_countHours l D k ad M O (M 9 a) hs t0 t1 hc1 hab hb0) (cwV 2 hts gX0_runClocks_X1_countHours rfl rfl rfl (by decide +kernel) ⟨Nat.le_of_ble_eq_true rfl, Nat.le_of_ble_eq_true rfl⟩) hK hP (by have := hc1; omega) (cX_s hc1) rfl rfl hl.1 rfl (Nat.le_of_ble_eq_true rfl) dX0_runClocks_14 ⟨Nat.le_of_ble_eq_true rfl, Nat.le_of_ble_eq_true rfl⟩ (fun r hr => ?_)
    subst hr
    refine lv_istore_n (lv' := [(3, .int (nI (hN M (M 9 a) t1 - hN M (M 9 a) t0))), (0, .ref (ad (20 + 2 * a))), (1, .int (nI t0)), (2, .int (nI t1))]) hx hb dX0_runClocks_17 rfl hl (by decide) rfl (fun ls hl => ?_)
    refine lv_iconst (v := nI 0) hx hb dX0_runClocks_18 (by decide) ?_
    refine lv_istore (lv' := [(4, .int (nI 0)), (3, .int (nI (hN M (M 9 a) t1 - hN M (M 9 a) t0))), (0, .ref (ad (20 + 2 * a))), (1, .int (nI t0)), (2, .int (nI t1))]) hx hb dX0_runClocks_19 hl (by decide) rfl (fun ls hl => ?_)
    have e0 := rkS_0 M t0 t1 a
    refine lp_runClocks (A := A) (t0 := t0) (t1 := t1) F hK hz ha c8 (fun H locs hP hD hS ls => ?_) 4 0 s.heap [] (by omega) (by omega) (by rw [e0]; exact hP) (by rw [e0]; exact hD) hS ls (lv_sub hl [0, 2, 3, 4, 1] rfl)
    refine W.widen (k := 0) (n := 0) (Nat.le_of_ble_eq_true rfl) (Nat.le_of_ble_eq_true rfl) ?_
    exact W.vret hx hb hr (fun t ht hW => ⟨⟨(), rfl, trivial, ⟨by rw [ht]; exact hP, va_K.moved hW.alike hK⟩, hD⟩, hS.F ht⟩) hS.2.2 dX0_runClocks_53
  · have eW : cX k ad (rk1 M t0 t1 a) O = cX k ad M O := by rw [rk1_off c8]
    rw [← eW] at hP hD
    refine W.widen (k := 0) (n := 0) (Nat.le_of_ble_eq_true rfl) (Nat.le_of_ble_eq_true rfl) ?_
    exact W.vret hx hb hr (fun t ht hW => ⟨⟨(), rfl, trivial, ⟨by rw [ht]; exact hP, va_K.moved hW.alike hK⟩, hD⟩, hS.F ht⟩) hS.2.2 dX0_runClocks_7
