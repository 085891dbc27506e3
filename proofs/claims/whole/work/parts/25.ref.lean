/-! THE REFERENCE: hours, nextGap, mostUrgent. -/
theorem hN_y {M : Nat → Nat → Nat} {i h a : Nat} (ha : hN M i a ≤ hN M i h) (q : hrB M i h = true) : hN M i (h + 1) - hN M i a = (hN M i h - hN M i a) + 1 := by
  show hN M i h + (if _ then 1 else 0) - _ = _
  rw [if_pos q]; omega
theorem hN_n {M : Nat → Nat → Nat} {i h a : Nat} (q : ¬ hrB M i h = true) : hN M i (h + 1) - hN M i a = (hN M i h - hN M i a) + 0 := by
  show hN M i h + (if _ then 1 else 0) - _ = _
  rw [if_neg q]
  rfl
theorem hN_up (M : Nat → Nat → Nat) (i : Nat) {a h : Nat} (q : a ≤ h) : hN M i a ≤ hN M i h := by
  have := (hN_mono M i a (h - a)).1
  rw [show a + (h - a) = h by omega] at this
  exact this
theorem dif_le : ∀ a, a < 16 → ∀ b, b < 16 → ∀ c, c < 16 → ((nI a - nI b - nI c ≤ 0) ↔ a ≤ b + c) := by decide +kernel
set_option maxRecDepth 100000 in
set_option maxHeartbeats 1000000 in
theorem lp_hours {p : Program} {l : Launch} {e : Env} {s : State} {m : MethodId} {args : Array Value} {below : List Frame} {meth : Method} {c : Code} {H : Heap} {locs : List Loc} {Q : State → Prop} {D : va_G} {k : Nat → ClassId} {bd : Nat → Nat} {M : Nat → Nat → Nat} {O : Nat → Nat → Int32} {th : Int32} (F : CallFix p m c cX3_hours 7 s args wsX3_hours RX3) (hK : va_K D vwCl (tyL k) s)
    {i a b : Nat} {Z : Prop} (hZ : Z) (hs : zSi M i) (hi : i < 4) (hb9 : b ≤ 24000)
    (hP : va_P D vwCl (zw 19 bd (cM k bd M O th)) H)
    (k0 : ∀ (ls : Array Slot), lv_has ls 7 [(4, .int (nI (hN M i b - hN M i a)))] → W p l e (headSpec wsX3_hours ({ frames := 2, cells := 0, slots := 0, locals := 44 })).room s m args below meth c H locs (0 + 0) (0 + 0) Q (F0 m 80 ls [])) :
    ∀ (fu h : Nat), a ≤ h → h ≤ b → b < h + fu → ∀ (ls : Array Slot), lv_has ls 7 [(6, .int (nI h)), (4, .int (nI (hN M i h - hN M i a))), (0, .ref (bd 0)), (1, .int (nI i)), (2, .int (nI a)), (3, .int (nI b)), (5, .int (bI Z))] → W p l e (headSpec wsX3_hours ({ frames := 2, cells := 0, slots := 0, locals := 44 })).room s m args below meth c H locs (0 + 0) (0 + 0) Q (F0 m 48 ls []) := by
  have hx := F.1
  have hb := F.2.1
  have hts := F.2.2.2.2
  have hown := F.2.2.2.1
  have hi3 : ∀ w ∈ u_ws RX3 TX3 21, w ∈ wsX3_hours := by decide +kernel
  intro fu
  induction fu with
  | zero => intro h h0 h1 h2; omega
  | succ fu ih =>
    intro h h0 h1 h2 ls hl
    have hmo := hN_up M i h0
    have hle := hN_le M i h
    refine lv_iload hx hb dX3_hours_48 (lv_at hl 0 rfl) ?_
    refine lv_iload_n hx hb dX3_hours_50 rfl (lv_at hl 5 rfl) ?_
    refine z_icmp_ge (tgt := 80) F (by omega) (by omega) dX3_hours_51 (by decide) (fun c1 => ?_) (fun c1 => ?_)
    · obtain rfl : h = b := by omega
      exact k0 ls (lv_sub hl [1] rfl)
    · refine lv_iload hx hb dX3_hours_54 (lv_at hl 1 rfl) ?_
      refine lv_aload_n hx hb dX3_hours_56 rfl (lv_at hl 2 rfl) ?_
      refine lv_iload_n hx hb dX3_hours_57 rfl (lv_at hl 3 rfl) ?_
      refine lv_iload hx hb dX3_hours_58 (lv_at hl 0 rfl) ?_
      refine z_cV (qc := (RX3, TX3, 21)) (As := [.int (nI i), .int (nI h)]) (rest := [.int (nI (hN M i h - hN M i a))]) (0) F (c_X3_counts l D k bd M O th i h hs hi (by omega)) (cwV 2 hts gX3_hours_X3_counts rfl rfl rfl (by decide +kernel) ⟨Nat.le_of_ble_eq_true rfl, Nat.le_of_ble_eq_true rfl⟩) hK hP (by omega) cM_0 rfl rfl hl.1 rfl (Nat.le_of_ble_eq_true rfl) dX3_hours_60 ⟨Nat.le_of_ble_eq_true rfl, Nat.le_of_ble_eq_true rfl⟩ (fun r hr => ?_)
      subst hr
      refine z_ifb_eq (tgt := 70) F dX3_hours_63 (by decide) (fun c2 => ?_) (fun c2 => ?_)
      · refine lv_iconst (v := nI 0) hx hb dX3_hours_70 (by decide) ?_
        refine z_add F dX3_hours_71 ?_
        refine lv_istore (lv' := [(4, .int (nI ((hN M i h - hN M i a) + 0))), (6, .int (nI h)), (0, .ref (bd 0)), (1, .int (nI i)), (2, .int (nI a)), (3, .int (nI b)), (5, .int (bI Z))]) hx hb dX3_hours_72 hl (by decide) rfl (fun ls hl => ?_)
        refine lv_iinc (v := nI (h + 1)) (lv' := [(6, .int (nI (h + 1))), (4, .int (nI ((hN M i h - hN M i a) + 0))), (0, .ref (bd 0)), (1, .int (nI i)), (2, .int (nI a)), (3, .int (nI b)), (5, .int (bI Z))]) hx hb dX3_hours_74 hl (k := 1) rfl (nI_1 h) (by decide) rfl (fun ls hl => ?_)
        refine lv_goto (tgt := 43) hx hb dX3_hours_77 (by decide) ?_
        refine lv_iload hx hb dX3_hours_43 (lv_at hl 6 rfl) ?_
        refine z_ifb_eq (tgt := 80) F dX3_hours_45 (by decide) (fun c3 => ?_) (fun c3 => ?_)
        · exact absurd hZ c3
        · exact ih (h + 1) (by omega) (by omega) (by omega) ls (by rw [hN_n c2]; exact lv_sub hl [0, 1, 2, 3, 4, 5, 6] rfl)
      · refine lv_iconst (v := nI 1) hx hb dX3_hours_66 (by decide) ?_
        refine lv_goto (tgt := 71) hx hb dX3_hours_67 (by decide) ?_
        refine z_add F dX3_hours_71 ?_
        refine lv_istore (lv' := [(4, .int (nI ((hN M i h - hN M i a) + 1))), (6, .int (nI h)), (0, .ref (bd 0)), (1, .int (nI i)), (2, .int (nI a)), (3, .int (nI b)), (5, .int (bI Z))]) hx hb dX3_hours_72 hl (by decide) rfl (fun ls hl => ?_)
        refine lv_iinc (v := nI (h + 1)) (lv' := [(6, .int (nI (h + 1))), (4, .int (nI ((hN M i h - hN M i a) + 1))), (0, .ref (bd 0)), (1, .int (nI i)), (2, .int (nI a)), (3, .int (nI b)), (5, .int (bI Z))]) hx hb dX3_hours_74 hl (k := 1) rfl (nI_1 h) (by decide) rfl (fun ls hl => ?_)
        refine lv_goto (tgt := 43) hx hb dX3_hours_77 (by decide) ?_
        refine lv_iload hx hb dX3_hours_43 (lv_at hl 6 rfl) ?_
        refine z_ifb_eq (tgt := 80) F dX3_hours_45 (by decide) (fun c4 => ?_) (fun c4 => ?_)
        · exact absurd hZ c4
        · exact ih (h + 1) (by omega) (by omega) (by omega) ls (by rw [hN_y hmo c2]; exact lv_sub hl [0, 1, 2, 3, 4, 5, 6] rfl)
set_option maxRecDepth 100000 in
set_option maxHeartbeats 1000000 in
theorem c_X3_hours (l : Launch) (D : va_G) (k : Nat → ClassId) (bd : Nat → Nat) (M : Nat → Nat → Nat) (O : Nat → Nat → Int32) (th : Int32) (sz : Nat) (hI : zInv M) (p0 p1 p2 : Int32) : Met l yX3_hours wsX3_hours ({ frames := 2, cells := 0, slots := 0, locals := 44 }) (va_Pc [.ref (bd 0), .int p0, .int p1, .int p2] (zG D k 19 bd (cM k bd M O th) sz)) (zQw D k 19 bd (cM k bd M O (nI ((x3 (zI 4 p0) ((nI 0 ≤ p1 ∧ p1 ≤ nI 24000) ∧ (p1 ≤ p2 ∧ p2 ≤ nI 24000)) (True))))) (va_A (zw 19 bd (cM k bd M O th)) sz) (fun r => (x3 (zI 4 p0) ((nI 0 ≤ p1 ∧ p1 ≤ nI 24000) ∧ (p1 ≤ p2 ∧ p2 ≤ nI 24000)) (True)) = 0 → r = (nI (hN M (ix p0) (ix p2) - hN M (ix p0) (ix p1))))) 0 0 (va_A (zw 19 bd (cM k bd M O th)) sz) := by
  refine Met.ofW (cc := cX3_hours) (maxL := 7) (ret := (some .int)) (by decide) rfl ?_
  intro p e s m args below meth c s₁ B hml hv
  obtain ⟨rfl, hsz, ⟨hP, hK⟩, hD0⟩ := hv
  have hx := B.exec
  have hb := B.bytes
  have hr := B.returns
  have hts := atoms_spec (ws := wsX3_hours) B.pre
  have hown : s.vm.findClass RX3 = some m.cls := findClass_of_methodNamed B.named
  have hlocks := B.notSynchronized
  have F : CallFix p m c cX3_hours 7 s _ wsX3_hours RX3 := ⟨hx, hb, hml, hown, hts⟩
  subst hsz
  have hD := hD0.self (sz := s.heap.size)
  generalize hAe : va_A (zw 19 bd (cM k bd M O th)) s.heap.size = A at hD ⊢
  have hA : ∀ q : Nat, s.heap.size ≤ q → A q := fun q h => by rw [← hAe]; exact Or.inr h
  have hS : va_S A s.heap s.heap [] := va_S.rf
  have hl := lv_entry ([.ref (bd 0), .int p0, .int p1, .int p2]) (n := 7) (Nat.le_of_ble_eq_true rfl)
  rw [lg_entry_eq]
  generalize (lg_sl ([.ref (bd 0), .int p0, .int p1, .int p2]) ++ List.replicate (7 - (lg_sl ([.ref (bd 0), .int p0, .int p1, .int p2])).length) Slot.unset).toArray = ls at hl ⊢
  have hl : lv_has ls 7 [(0, .ref (bd 0)), (1, .int p0), (2, .int p1), (3, .int p2)] := hl
  have hi3 : ∀ w ∈ u_ws RX3 TX3 21, w ∈ wsX3_hours := by decide +kernel
  obtain ⟨hI1, hI2, hI3, hI4, hI5, hI6, hI7⟩ := id hI
  refine lv_iconst (v := nI 0) hx hb dX3_hours_0 (by decide) ?_
  refine lv_istore (lv' := [(4, .int (nI 0)), (0, .ref (bd 0)), (1, .int p0), (2, .int p1), (3, .int p2)]) hx hb dX3_hours_1 hl (by decide) rfl (fun ls hl => ?_)
  refine lv_aload_n hx hb dX3_hours_3 rfl (lv_at hl 1 rfl) ?_
  refine lv_iload_n hx hb dX3_hours_4 rfl (lv_at hl 2 rfl) ?_
  refine z_cS (As := [.int p0]) (rest := [.ref (bd 0)]) F (c_X3_isSite l p0) (va_cwS 1 hts gX3_hours_X3_isSite rfl rfl rfl (by decide +kernel) ⟨Nat.le_of_ble_eq_true rfl, Nat.le_of_ble_eq_true rfl⟩) rfl hl.1 rfl (Nat.le_of_ble_eq_true rfl) dX3_hours_5 ⟨Nat.le_of_ble_eq_true rfl, Nat.le_of_ble_eq_true rfl⟩ (fun r hr => ?_)
  subst hr
  refine lv_iload_n hx hb dX3_hours_8 rfl (lv_at hl 3 rfl) ?_
  refine lv_iconst (v := nI 0) hx hb dX3_hours_9 (by decide) ?_
  refine lv_sipush (v := nI 24000) hx hb dX3_hours_10 (by decide) ?_
  refine z_cS (As := [.int p1, .int (nI 0), .int (nI 24000)]) (rest := [.int (bI (zI 4 p0)), .ref (bd 0)]) F (c_X3_in l p1 (nI 0) (nI 24000)) (va_cwS 3 hts gX3_hours_X3_in rfl rfl rfl (by decide +kernel) ⟨Nat.le_of_ble_eq_true rfl, Nat.le_of_ble_eq_true rfl⟩) rfl hl.1 rfl (Nat.le_of_ble_eq_true rfl) dX3_hours_13 ⟨Nat.le_of_ble_eq_true rfl, Nat.le_of_ble_eq_true rfl⟩ (fun r hr => ?_)
  subst hr
  refine z_ifb_eq (tgt := 34) F dX3_hours_16 (by decide) (fun c5 => ?_) (fun c5 => ?_)
  · refine lv_iconst (v := nI 0) hx hb dX3_hours_34 (by decide) ?_
    refine z_top (show nI 0 = bI ((nI 0 ≤ p1 ∧ p1 ≤ nI 24000) ∧ (p1 ≤ p2 ∧ p2 ≤ nI 24000)) from (bI_f (fun zz1 => by have zz2 := zz1.1; first | exact c5 zz2 | omega)).symm) ?_
    refine z_mV (qc := (RX3, TX3, 21)) (As := [.int (bI (zI 4 p0)), .int (bI ((nI 0 ≤ p1 ∧ p1 ≤ nI 24000) ∧ (p1 ≤ p2 ∧ p2 ≤ nI 24000)))]) (rest := []) (0) F (c_X3_asked_ l D k bd M O th _ (zI 4 p0) ((nI 0 ≤ p1 ∧ p1 ≤ nI 24000) ∧ (p1 ≤ p2 ∧ p2 ≤ nI 24000))) (cwV 2 hts gX3_hours_X3_asked_ rfl rfl rfl (by decide +kernel) ⟨Nat.le_of_ble_eq_true rfl, Nat.le_of_ble_eq_true rfl⟩) hK hP hD hS hA (by omega) cM_0 rfl rfl hl.1 rfl (Nat.le_of_ble_eq_true rfl) dX3_hours_35 ⟨Nat.le_of_ble_eq_true rfl, Nat.le_of_ble_eq_true rfl⟩ (fun r H locs hr0 hP hD hS => ?_)
    subst hr0
    refine lv_istore (lv' := [(5, .int (bI ((zI 4 p0) ∧ ((nI 0 ≤ p1 ∧ p1 ≤ nI 24000) ∧ (p1 ≤ p2 ∧ p2 ≤ nI 24000))))), (4, .int (nI 0)), (0, .ref (bd 0)), (1, .int p0), (2, .int p1), (3, .int p2)]) hx hb dX3_hours_38 hl (by decide) rfl (fun ls hl => ?_)
    refine lv_iload_n hx hb dX3_hours_40 rfl (lv_at hl 4 rfl) ?_
    refine lv_istore (lv' := [(6, .int p1), (5, .int (bI ((zI 4 p0) ∧ ((nI 0 ≤ p1 ∧ p1 ≤ nI 24000) ∧ (p1 ≤ p2 ∧ p2 ≤ nI 24000))))), (4, .int (nI 0)), (0, .ref (bd 0)), (1, .int p0), (2, .int p1), (3, .int p2)]) hx hb dX3_hours_41 hl (by decide) rfl (fun ls hl => ?_)
    refine lv_iload hx hb dX3_hours_43 (lv_at hl 1 rfl) ?_
    refine z_ifb_eq (tgt := 80) F dX3_hours_45 (by decide) (fun c6 => ?_) (fun c6 => ?_)
    · refine lv_iload hx hb dX3_hours_80 (lv_at hl 2 rfl) ?_
      have hx0 : (x3 (zI 4 p0) ((nI 0 ≤ p1 ∧ p1 ≤ nI 24000) ∧ (p1 ≤ p2 ∧ p2 ≤ nI 24000)) (True)) ≠ 0 := x3_no (fun zz1 => c6 ⟨zz1.1, zz1.2.1⟩)
      have eW : cM k bd M O (nI ((x3 (zI 4 p0) ((nI 0 ≤ p1 ∧ p1 ≤ nI 24000) ∧ (p1 ≤ p2 ∧ p2 ≤ nI 24000)) (True)))) = cM k bd M O (nI (y2 (zI 4 p0) ((nI 0 ≤ p1 ∧ p1 ≤ nI 24000) ∧ (p1 ≤ p2 ∧ p2 ≤ nI 24000)))) := by rw [← y2_ab] <;> rfl
      rw [← eW] at hP hD
      refine W.widen (k := 0) (n := 0) (Nat.le_of_ble_eq_true rfl) (Nat.le_of_ble_eq_true rfl) ?_
      exact W.iret (v := nI 0) hx hb hr (fun t ht hW => ⟨⟨nI 0, (), rfl, fun zz1 => absurd zz1 hx0, ⟨by rw [ht]; exact hP, va_K.moved hW.alike hK⟩, hD⟩, hS.F ht⟩) hS.2.2 dX3_hours_82
    · obtain ⟨i, hi, rfl⟩ := id (c6.1)
      try rw [ix_nI (show i < 2 ^ 31 by omega)]
      obtain ⟨ea, hea0, hea, rfl⟩ := (zB_iff (by omega) (by decide)).mp (c6.2.1)
      try rw [ix_nI (show ea < 2 ^ 31 by omega)]
      obtain ⟨eb, heb0, heb, rfl⟩ := (zB_iff (by omega) (by decide)).mp (c6.2.2)
      try rw [ix_nI (show eb < 2 ^ 31 by omega)]
      obtain ⟨hs, hco⟩ := hI3 i hi
      refine lp_hours F hK c6 hs hi (by omega) hP (fun ls hl => ?_) (eb + 1) ea (Nat.le_refl _) (by omega) (by omega) ls (by rw [Nat.sub_self]; exact lv_sub hl [0, 2, 3, 4, 5, 6, 1] rfl)
      refine lv_iload hx hb dX3_hours_80 (lv_at hl 0 rfl) ?_
      have hx0 : (x3 (zI 4 (nI i)) ((nI 0 ≤ (nI ea) ∧ (nI ea) ≤ nI 24000) ∧ ((nI ea) ≤ (nI eb) ∧ (nI eb) ≤ nI 24000)) (True)) = 0 := x3_0 c6.1 c6.2 trivial
      have eW : cM k bd M O (nI ((x3 (zI 4 (nI i)) ((nI 0 ≤ (nI ea) ∧ (nI ea) ≤ nI 24000) ∧ ((nI ea) ≤ (nI eb) ∧ (nI eb) ≤ nI 24000)) (True)))) = cM k bd M O (nI (y2 (zI 4 (nI i)) ((nI 0 ≤ (nI ea) ∧ (nI ea) ≤ nI 24000) ∧ ((nI ea) ≤ (nI eb) ∧ (nI eb) ≤ nI 24000)))) := by rw [← y2_ab] <;> rfl
      rw [← eW] at hP hD
      refine W.widen (k := 0) (n := 0) (Nat.le_of_ble_eq_true rfl) (Nat.le_of_ble_eq_true rfl) ?_
      exact W.iret (v := nI (hN M i eb - hN M i ea)) hx hb hr (fun t ht hW => ⟨⟨nI (hN M i eb - hN M i ea), (), rfl, fun _ => rfl, ⟨by rw [ht]; exact hP, va_K.moved hW.alike hK⟩, hD⟩, hS.F ht⟩) hS.2.2 dX3_hours_82
  · refine lv_iload_n hx hb dX3_hours_19 rfl (lv_at hl 4 rfl) ?_
    refine lv_iload_n hx hb dX3_hours_20 rfl (lv_at hl 3 rfl) ?_
    refine lv_sipush (v := nI 24000) hx hb dX3_hours_21 (by decide) ?_
    refine z_cS (As := [.int p2, .int p1, .int (nI 24000)]) (rest := [.int (bI (zI 4 p0)), .ref (bd 0)]) F (c_X3_in l p2 p1 (nI 24000)) (va_cwS 3 hts gX3_hours_X3_in rfl rfl rfl (by decide +kernel) ⟨Nat.le_of_ble_eq_true rfl, Nat.le_of_ble_eq_true rfl⟩) rfl hl.1 rfl (Nat.le_of_ble_eq_true rfl) dX3_hours_24 ⟨Nat.le_of_ble_eq_true rfl, Nat.le_of_ble_eq_true rfl⟩ (fun r hr => ?_)
    subst hr
    refine z_ifb_eq (tgt := 34) F dX3_hours_27 (by decide) (fun c7 => ?_) (fun c7 => ?_)
    · refine lv_iconst (v := nI 0) hx hb dX3_hours_34 (by decide) ?_
      refine z_top (show nI 0 = bI ((nI 0 ≤ p1 ∧ p1 ≤ nI 24000) ∧ (p1 ≤ p2 ∧ p2 ≤ nI 24000)) from (bI_f (fun zz1 => by have zz2 := zz1.2; first | exact c7 zz2 | omega)).symm) ?_
      refine z_mV (qc := (RX3, TX3, 21)) (As := [.int (bI (zI 4 p0)), .int (bI ((nI 0 ≤ p1 ∧ p1 ≤ nI 24000) ∧ (p1 ≤ p2 ∧ p2 ≤ nI 24000)))]) (rest := []) (0) F (c_X3_asked_ l D k bd M O th _ (zI 4 p0) ((nI 0 ≤ p1 ∧ p1 ≤ nI 24000) ∧ (p1 ≤ p2 ∧ p2 ≤ nI 24000))) (cwV 2 hts gX3_hours_X3_asked_ rfl rfl rfl (by decide +kernel) ⟨Nat.le_of_ble_eq_true rfl, Nat.le_of_ble_eq_true rfl⟩) hK hP hD hS hA (by omega) cM_0 rfl rfl hl.1 rfl (Nat.le_of_ble_eq_true rfl) dX3_hours_35 ⟨Nat.le_of_ble_eq_true rfl, Nat.le_of_ble_eq_true rfl⟩ (fun r H locs hr0 hP hD hS => ?_)
      subst hr0
      refine lv_istore (lv' := [(5, .int (bI ((zI 4 p0) ∧ ((nI 0 ≤ p1 ∧ p1 ≤ nI 24000) ∧ (p1 ≤ p2 ∧ p2 ≤ nI 24000))))), (4, .int (nI 0)), (0, .ref (bd 0)), (1, .int p0), (2, .int p1), (3, .int p2)]) hx hb dX3_hours_38 hl (by decide) rfl (fun ls hl => ?_)
      refine lv_iload_n hx hb dX3_hours_40 rfl (lv_at hl 4 rfl) ?_
      refine lv_istore (lv' := [(6, .int p1), (5, .int (bI ((zI 4 p0) ∧ ((nI 0 ≤ p1 ∧ p1 ≤ nI 24000) ∧ (p1 ≤ p2 ∧ p2 ≤ nI 24000))))), (4, .int (nI 0)), (0, .ref (bd 0)), (1, .int p0), (2, .int p1), (3, .int p2)]) hx hb dX3_hours_41 hl (by decide) rfl (fun ls hl => ?_)
      refine lv_iload hx hb dX3_hours_43 (lv_at hl 1 rfl) ?_
      refine z_ifb_eq (tgt := 80) F dX3_hours_45 (by decide) (fun c8 => ?_) (fun c8 => ?_)
      · refine lv_iload hx hb dX3_hours_80 (lv_at hl 2 rfl) ?_
        have hx0 : (x3 (zI 4 p0) ((nI 0 ≤ p1 ∧ p1 ≤ nI 24000) ∧ (p1 ≤ p2 ∧ p2 ≤ nI 24000)) (True)) ≠ 0 := x3_no (fun zz1 => c8 ⟨zz1.1, zz1.2.1⟩)
        have eW : cM k bd M O (nI ((x3 (zI 4 p0) ((nI 0 ≤ p1 ∧ p1 ≤ nI 24000) ∧ (p1 ≤ p2 ∧ p2 ≤ nI 24000)) (True)))) = cM k bd M O (nI (y2 (zI 4 p0) ((nI 0 ≤ p1 ∧ p1 ≤ nI 24000) ∧ (p1 ≤ p2 ∧ p2 ≤ nI 24000)))) := by rw [← y2_ab] <;> rfl
        rw [← eW] at hP hD
        refine W.widen (k := 0) (n := 0) (Nat.le_of_ble_eq_true rfl) (Nat.le_of_ble_eq_true rfl) ?_
        exact W.iret (v := nI 0) hx hb hr (fun t ht hW => ⟨⟨nI 0, (), rfl, fun zz1 => absurd zz1 hx0, ⟨by rw [ht]; exact hP, va_K.moved hW.alike hK⟩, hD⟩, hS.F ht⟩) hS.2.2 dX3_hours_82
      · obtain ⟨i, hi, rfl⟩ := id (c8.1)
        try rw [ix_nI (show i < 2 ^ 31 by omega)]
        obtain ⟨ea, hea0, hea, rfl⟩ := (zB_iff (by omega) (by decide)).mp (c8.2.1)
        try rw [ix_nI (show ea < 2 ^ 31 by omega)]
        obtain ⟨eb, heb0, heb, rfl⟩ := (zB_iff (by omega) (by decide)).mp (c8.2.2)
        try rw [ix_nI (show eb < 2 ^ 31 by omega)]
        obtain ⟨hs, hco⟩ := hI3 i hi
        refine lp_hours F hK c8 hs hi (by omega) hP (fun ls hl => ?_) (eb + 1) ea (Nat.le_refl _) (by omega) (by omega) ls (by rw [Nat.sub_self]; exact lv_sub hl [0, 2, 3, 4, 5, 6, 1] rfl)
        refine lv_iload hx hb dX3_hours_80 (lv_at hl 0 rfl) ?_
        have hx0 : (x3 (zI 4 (nI i)) ((nI 0 ≤ (nI ea) ∧ (nI ea) ≤ nI 24000) ∧ ((nI ea) ≤ (nI eb) ∧ (nI eb) ≤ nI 24000)) (True)) = 0 := x3_0 c8.1 c8.2 trivial
        have eW : cM k bd M O (nI ((x3 (zI 4 (nI i)) ((nI 0 ≤ (nI ea) ∧ (nI ea) ≤ nI 24000) ∧ ((nI ea) ≤ (nI eb) ∧ (nI eb) ≤ nI 24000)) (True)))) = cM k bd M O (nI (y2 (zI 4 (nI i)) ((nI 0 ≤ (nI ea) ∧ (nI ea) ≤ nI 24000) ∧ ((nI ea) ≤ (nI eb) ∧ (nI eb) ≤ nI 24000)))) := by rw [← y2_ab] <;> rfl
        rw [← eW] at hP hD
        refine W.widen (k := 0) (n := 0) (Nat.le_of_ble_eq_true rfl) (Nat.le_of_ble_eq_true rfl) ?_
        exact W.iret (v := nI (hN M i eb - hN M i ea)) hx hb hr (fun t ht hW => ⟨⟨nI (hN M i eb - hN M i ea), (), rfl, fun _ => rfl, ⟨by rw [ht]; exact hP, va_K.moved hW.alike hK⟩, hD⟩, hS.F ht⟩) hS.2.2 dX3_hours_82
    · refine lv_iconst (v := nI 1) hx hb dX3_hours_30 (by decide) ?_
      refine lv_goto (tgt := 35) hx hb dX3_hours_31 (by decide) ?_
      refine z_top (show nI 1 = bI ((nI 0 ≤ p1 ∧ p1 ≤ nI 24000) ∧ (p1 ≤ p2 ∧ p2 ≤ nI 24000)) from (bI_t ⟨c5, c7⟩).symm) ?_
      refine z_mV (qc := (RX3, TX3, 21)) (As := [.int (bI (zI 4 p0)), .int (bI ((nI 0 ≤ p1 ∧ p1 ≤ nI 24000) ∧ (p1 ≤ p2 ∧ p2 ≤ nI 24000)))]) (rest := []) (0) F (c_X3_asked_ l D k bd M O th _ (zI 4 p0) ((nI 0 ≤ p1 ∧ p1 ≤ nI 24000) ∧ (p1 ≤ p2 ∧ p2 ≤ nI 24000))) (cwV 2 hts gX3_hours_X3_asked_ rfl rfl rfl (by decide +kernel) ⟨Nat.le_of_ble_eq_true rfl, Nat.le_of_ble_eq_true rfl⟩) hK hP hD hS hA (by omega) cM_0 rfl rfl hl.1 rfl (Nat.le_of_ble_eq_true rfl) dX3_hours_35 ⟨Nat.le_of_ble_eq_true rfl, Nat.le_of_ble_eq_true rfl⟩ (fun r H locs hr0 hP hD hS => ?_)
      subst hr0
      refine lv_istore (lv' := [(5, .int (bI ((zI 4 p0) ∧ ((nI 0 ≤ p1 ∧ p1 ≤ nI 24000) ∧ (p1 ≤ p2 ∧ p2 ≤ nI 24000))))), (4, .int (nI 0)), (0, .ref (bd 0)), (1, .int p0), (2, .int p1), (3, .int p2)]) hx hb dX3_hours_38 hl (by decide) rfl (fun ls hl => ?_)
      refine lv_iload_n hx hb dX3_hours_40 rfl (lv_at hl 4 rfl) ?_
      refine lv_istore (lv' := [(6, .int p1), (5, .int (bI ((zI 4 p0) ∧ ((nI 0 ≤ p1 ∧ p1 ≤ nI 24000) ∧ (p1 ≤ p2 ∧ p2 ≤ nI 24000))))), (4, .int (nI 0)), (0, .ref (bd 0)), (1, .int p0), (2, .int p1), (3, .int p2)]) hx hb dX3_hours_41 hl (by decide) rfl (fun ls hl => ?_)
      refine lv_iload hx hb dX3_hours_43 (lv_at hl 1 rfl) ?_
      refine z_ifb_eq (tgt := 80) F dX3_hours_45 (by decide) (fun c9 => ?_) (fun c9 => ?_)
      · refine lv_iload hx hb dX3_hours_80 (lv_at hl 2 rfl) ?_
        have hx0 : (x3 (zI 4 p0) ((nI 0 ≤ p1 ∧ p1 ≤ nI 24000) ∧ (p1 ≤ p2 ∧ p2 ≤ nI 24000)) (True)) ≠ 0 := x3_no (fun zz1 => c9 ⟨zz1.1, zz1.2.1⟩)
        have eW : cM k bd M O (nI ((x3 (zI 4 p0) ((nI 0 ≤ p1 ∧ p1 ≤ nI 24000) ∧ (p1 ≤ p2 ∧ p2 ≤ nI 24000)) (True)))) = cM k bd M O (nI (y2 (zI 4 p0) ((nI 0 ≤ p1 ∧ p1 ≤ nI 24000) ∧ (p1 ≤ p2 ∧ p2 ≤ nI 24000)))) := by rw [← y2_ab] <;> rfl
        rw [← eW] at hP hD
        refine W.widen (k := 0) (n := 0) (Nat.le_of_ble_eq_true rfl) (Nat.le_of_ble_eq_true rfl) ?_
        exact W.iret (v := nI 0) hx hb hr (fun t ht hW => ⟨⟨nI 0, (), rfl, fun zz1 => absurd zz1 hx0, ⟨by rw [ht]; exact hP, va_K.moved hW.alike hK⟩, hD⟩, hS.F ht⟩) hS.2.2 dX3_hours_82
      · obtain ⟨i, hi, rfl⟩ := id (c9.1)
        try rw [ix_nI (show i < 2 ^ 31 by omega)]
        obtain ⟨ea, hea0, hea, rfl⟩ := (zB_iff (by omega) (by decide)).mp (c9.2.1)
        try rw [ix_nI (show ea < 2 ^ 31 by omega)]
        obtain ⟨eb, heb0, heb, rfl⟩ := (zB_iff (by omega) (by decide)).mp (c9.2.2)
        try rw [ix_nI (show eb < 2 ^ 31 by omega)]
        obtain ⟨hs, hco⟩ := hI3 i hi
        refine lp_hours F hK c9 hs hi (by omega) hP (fun ls hl => ?_) (eb + 1) ea (Nat.le_refl _) (by omega) (by omega) ls (by rw [Nat.sub_self]; exact lv_sub hl [0, 2, 3, 4, 5, 6, 1] rfl)
        refine lv_iload hx hb dX3_hours_80 (lv_at hl 0 rfl) ?_
        have hx0 : (x3 (zI 4 (nI i)) ((nI 0 ≤ (nI ea) ∧ (nI ea) ≤ nI 24000) ∧ ((nI ea) ≤ (nI eb) ∧ (nI eb) ≤ nI 24000)) (True)) = 0 := x3_0 c9.1 c9.2 trivial
        have eW : cM k bd M O (nI ((x3 (zI 4 (nI i)) ((nI 0 ≤ (nI ea) ∧ (nI ea) ≤ nI 24000) ∧ ((nI ea) ≤ (nI eb) ∧ (nI eb) ≤ nI 24000)) (True)))) = cM k bd M O (nI (y2 (zI 4 (nI i)) ((nI 0 ≤ (nI ea) ∧ (nI ea) ≤ nI 24000) ∧ ((nI ea) ≤ (nI eb) ∧ (nI eb) ≤ nI 24000)))) := by rw [← y2_ab] <;> rfl
        rw [← eW] at hP hD
        refine W.widen (k := 0) (n := 0) (Nat.le_of_ble_eq_true rfl) (Nat.le_of_ble_eq_true rfl) ?_
        exact W.iret (v := nI (hN M i eb - hN M i ea)) hx hb hr (fun t ht hW => ⟨⟨nI (hN M i eb - hN M i ea), (), rfl, fun _ => rfl, ⟨by rw [ht]; exact hP, va_K.moved hW.alike hK⟩, hD⟩, hS.F ht⟩) hS.2.2 dX3_hours_82
set_option maxRecDepth 100000 in
set_option maxHeartbeats 1000000 in
theorem c_X3_hoursOneByOne (l : Launch) (D : va_G) (k : Nat → ClassId) (bd : Nat → Nat) (M : Nat → Nat → Nat) (O : Nat → Nat → Int32) (th : Int32) (sz : Nat) (hI : zInv M) (p0 p1 p2 : Int32) : Met l yX3_hoursOneByOne wsX3_hoursOneByOne ({ frames := 3, cells := 0, slots := 0, locals := 70 }) (va_Pc [.ref (bd 0), .int p0, .int p1, .int p2] (zG D k 19 bd (cM k bd M O th) sz)) (zQw D k 19 bd (cM k bd M O (nI ((x3 (zI 4 p0) ((nI 0 ≤ p1 ∧ p1 ≤ nI 24000) ∧ (p1 ≤ p2 ∧ p2 ≤ nI 24000)) (True))))) (va_A (zw 19 bd (cM k bd M O th)) sz) (fun r => (x3 (zI 4 p0) ((nI 0 ≤ p1 ∧ p1 ≤ nI 24000) ∧ (p1 ≤ p2 ∧ p2 ≤ nI 24000)) (True)) = 0 → r = (nI (hN M (ix p0) (ix p2) - hN M (ix p0) (ix p1))))) 0 0 (va_A (zw 19 bd (cM k bd M O th)) sz) := by
  refine Met.ofW (cc := cX3_hoursOneByOne) (maxL := 4) (ret := (some .int)) (by decide) rfl ?_
  intro p e s m args below meth c s₁ B hml hv
  obtain ⟨rfl, hsz, ⟨hP, hK⟩, hD0⟩ := hv
  have hx := B.exec
  have hb := B.bytes
  have hr := B.returns
  have hts := atoms_spec (ws := wsX3_hoursOneByOne) B.pre
  have hown : s.vm.findClass RX3 = some m.cls := findClass_of_methodNamed B.named
  have hlocks := B.notSynchronized
  have F : CallFix p m c cX3_hoursOneByOne 4 s _ wsX3_hoursOneByOne RX3 := ⟨hx, hb, hml, hown, hts⟩
  subst hsz
  have hD := hD0.self (sz := s.heap.size)
  generalize hAe : va_A (zw 19 bd (cM k bd M O th)) s.heap.size = A at hD ⊢
  have hA : ∀ q : Nat, s.heap.size ≤ q → A q := fun q h => by rw [← hAe]; exact Or.inr h
  have hS : va_S A s.heap s.heap [] := va_S.rf
  have hl := lv_entry ([.ref (bd 0), .int p0, .int p1, .int p2]) (n := 4) (Nat.le_of_ble_eq_true rfl)
  rw [lg_entry_eq]
  generalize (lg_sl ([.ref (bd 0), .int p0, .int p1, .int p2]) ++ List.replicate (4 - (lg_sl ([.ref (bd 0), .int p0, .int p1, .int p2])).length) Slot.unset).toArray = ls at hl ⊢
  have hl : lv_has ls 4 [(0, .ref (bd 0)), (1, .int p0), (2, .int p1), (3, .int p2)] := hl
  have hi3 : ∀ w ∈ u_ws RX3 TX3 21, w ∈ wsX3_hoursOneByOne := by decide +kernel
  obtain ⟨hI1, hI2, hI3, hI4, hI5, hI6, hI7⟩ := id hI
  refine lv_aload_n hx hb dX3_hoursOneByOne_0 rfl (lv_at hl 0 rfl) ?_
  refine lv_iload_n hx hb dX3_hoursOneByOne_1 rfl (lv_at hl 1 rfl) ?_
  refine lv_iload_n hx hb dX3_hoursOneByOne_2 rfl (lv_at hl 2 rfl) ?_
  refine lv_iload_n hx hb dX3_hoursOneByOne_3 rfl (lv_at hl 3 rfl) ?_
  refine z_mV (qc := (RX3, TX3, 21)) (As := [.int p0, .int p1, .int p2]) (rest := []) (0) F (c_X3_hours l D k bd M O th _ hI p0 p1 p2) (cwV 3 hts gX3_hoursOneByOne_X3_hours rfl rfl rfl (by decide +kernel) ⟨Nat.le_of_ble_eq_true rfl, Nat.le_of_ble_eq_true rfl⟩) hK hP hD hS hA (by omega) cM_0 rfl rfl hl.1 rfl (Nat.le_of_ble_eq_true rfl) dX3_hoursOneByOne_4 ⟨Nat.le_of_ble_eq_true rfl, Nat.le_of_ble_eq_true rfl⟩ (fun r H locs hr0 hP hD hS => ?_)
  refine W.widen (k := 0) (n := 0) (Nat.le_of_ble_eq_true rfl) (Nat.le_of_ble_eq_true rfl) ?_
  exact W.iret (v := r) hx hb hr (fun t ht hW => ⟨⟨r, (), rfl, hr0, ⟨by rw [ht]; exact hP, va_K.moved hW.alike hK⟩, hD⟩, hS.F ht⟩) hS.2.2 dX3_hoursOneByOne_7
set_option maxRecDepth 100000 in
set_option maxHeartbeats 1000000 in
theorem lp_nextGapR {p : Program} {l : Launch} {e : Env} {s : State} {m : MethodId} {args : Array Value} {below : List Frame} {meth : Method} {c : Code} {H : Heap} {locs : List Loc} {Q : State → Prop} {D : va_G} {k : Nat → ClassId} {bd : Nat → Nat} {M : Nat → Nat → Nat} {O : Nat → Nat → Int32} {th : Int32} (F : CallFix p m c cX3_nextGap 5 s args wsX3_nextGap RX3) (hK : va_K D vwCl (tyL k) s)
    {i kd : Nat} {v0 : Int32} (hs : zSi M i) (ho : zCo M i) (hi : i < 4) (hkd : kd < 4)
    (hP : va_P D vwCl (zw 19 bd (cM k bd M O th)) H)
    (k0 : ∀ g : Nat, nI g = v0 → ∀ (ls : Array Slot), W p l e (headSpec wsX3_nextGap ({ frames := 2, cells := 0, slots := 0, locals := 47 })).room s m args below meth c H locs (0 + 0) (0 + 0) Q (F0 m 60 ls [.int (nI g)]))
    (k1 : (-1 : Int32) = v0 → ∀ (ls : Array Slot), W p l e (headSpec wsX3_nextGap ({ frames := 2, cells := 0, slots := 0, locals := 47 })).room s m args below meth c H locs (0 + 0) (0 + 0) Q (F0 m 67 ls [])) :
    ∀ (fu g : Nat), g ≤ 1001 → 1001 < g + fu → ngF M i kd (1001 - g) g = v0 → ∀ (ls : Array Slot), lv_has ls 5 [(4, .int (nI g)), (0, .ref (bd 0)), (1, .int (nI i)), (2, .int (nI kd))] → W p l e (headSpec wsX3_nextGap ({ frames := 2, cells := 0, slots := 0, locals := 47 })).room s m args below meth c H locs (0 + 0) (0 + 0) Q (F0 m 39 ls []) := by
  have hx := F.1
  have hb := F.2.1
  have hts := F.2.2.2.2
  have hown := F.2.2.2.1
  have hi3 : ∀ w ∈ u_ws RX3 TX3 21, w ∈ wsX3_nextGap := by decide +kernel
  intro fu
  induction fu with
  | zero => intro g h1; omega
  | succ fu ih =>
    intro g h1 h2 hv ls hl
    refine lv_iload hx hb dX3_nextGap_39 (lv_at hl 0 rfl) ?_
    refine lv_sipush (v := nI 1000) hx hb dX3_nextGap_41 (by decide) ?_
    refine z_icmp_gt (tgt := 67) F (by omega) (by omega) dX3_nextGap_44 (by decide) (fun c10 => ?_) (fun c10 => ?_)
    · obtain rfl : g = 1001 := by omega
      exact k1 (by rw [← hv]; rfl) ls
    · refine lv_aload_n hx hb dX3_nextGap_47 rfl (lv_at hl 1 rfl) ?_
      refine lv_iload_n hx hb dX3_nextGap_48 rfl (lv_at hl 2 rfl) ?_
      refine lv_iload_n hx hb dX3_nextGap_49 rfl (lv_at hl 3 rfl) ?_
      refine lv_iload hx hb dX3_nextGap_50 (lv_at hl 0 rfl) ?_
      refine z_cV (qc := (RX3, TX3, 21)) (As := [.int (nI i), .int (nI kd), .int (nI g)]) (rest := []) (0) F (c_X3_covered l D k bd M O th i kd g hs ho hi hkd (by omega)) (cwV 3 hts gX3_nextGap_X3_covered rfl rfl rfl (by decide +kernel) ⟨Nat.le_of_ble_eq_true rfl, Nat.le_of_ble_eq_true rfl⟩) hK hP (by omega) cM_0 rfl rfl hl.1 rfl (Nat.le_of_ble_eq_true rfl) dX3_nextGap_52 ⟨Nat.le_of_ble_eq_true rfl, Nat.le_of_ble_eq_true rfl⟩ (fun r hr => ?_)
      subst hr
      refine z_ifb_ne (tgt := 61) F dX3_nextGap_55 (by decide) (fun c11 => ?_) (fun c11 => ?_)
      · refine lv_iinc (v := nI (g + 1)) (lv' := [(4, .int (nI (g + 1))), (0, .ref (bd 0)), (1, .int (nI i)), (2, .int (nI kd))]) hx hb dX3_nextGap_61 hl (k := 0) rfl (nI_1 g) (by decide) rfl (fun ls hl => ?_)
        refine lv_goto (tgt := 39) hx hb dX3_nextGap_64 (by decide) ?_
        have e1 : ngF M i kd (1001 - g) g = ngF M i kd (1001 - (g + 1)) (g + 1) := by rw [show 1001 - g = (1001 - (g + 1)) + 1 by omega]; exact ngF_t c11
        exact ih (g + 1) (by omega) (by omega) (by rw [← e1]; exact hv) ls (lv_sub hl [0, 1, 2, 3] rfl)
      · refine lv_iload hx hb dX3_nextGap_58 (lv_at hl 0 rfl) ?_
        have e1 : ngF M i kd (1001 - g) g = nI g := by rw [show 1001 - g = (1000 - g) + 1 by omega]; exact ngF_f c11
        exact k0 g (by rw [← hv]; exact e1.symm) ls
set_option maxRecDepth 100000 in
set_option maxHeartbeats 1000000 in
theorem c_X3_nextGap (l : Launch) (D : va_G) (k : Nat → ClassId) (bd : Nat → Nat) (M : Nat → Nat → Nat) (O : Nat → Nat → Int32) (th : Int32) (sz : Nat) (hI : zInv M) (p0 p1 p2 : Int32) : Met l yX3_nextGap wsX3_nextGap ({ frames := 2, cells := 0, slots := 0, locals := 47 }) (va_Pc [.ref (bd 0), .int p0, .int p1, .int p2] (zG D k 19 bd (cM k bd M O th) sz)) (zQw D k 19 bd (cM k bd M O (nI ((x3 (zI 4 p0 ∧ zI 4 p1) (nI 0 ≤ p2 ∧ p2 ≤ nI 1000) (True))))) (va_A (zw 19 bd (cM k bd M O th)) sz) (fun r => (x3 (zI 4 p0 ∧ zI 4 p1) (nI 0 ≤ p2 ∧ p2 ≤ nI 1000) (True)) = 0 → r = (ngF M (ix p0) (ix p1) (1001 - ix p2) (ix p2)))) 0 0 (va_A (zw 19 bd (cM k bd M O th)) sz) := by
  refine Met.ofW (cc := cX3_nextGap) (maxL := 5) (ret := (some .int)) (by decide) rfl ?_
  intro p e s m args below meth c s₁ B hml hv
  obtain ⟨rfl, hsz, ⟨hP, hK⟩, hD0⟩ := hv
  have hx := B.exec
  have hb := B.bytes
  have hr := B.returns
  have hts := atoms_spec (ws := wsX3_nextGap) B.pre
  have hown : s.vm.findClass RX3 = some m.cls := findClass_of_methodNamed B.named
  have hlocks := B.notSynchronized
  have F : CallFix p m c cX3_nextGap 5 s _ wsX3_nextGap RX3 := ⟨hx, hb, hml, hown, hts⟩
  subst hsz
  have hD := hD0.self (sz := s.heap.size)
  generalize hAe : va_A (zw 19 bd (cM k bd M O th)) s.heap.size = A at hD ⊢
  have hA : ∀ q : Nat, s.heap.size ≤ q → A q := fun q h => by rw [← hAe]; exact Or.inr h
  have hS : va_S A s.heap s.heap [] := va_S.rf
  have hl := lv_entry ([.ref (bd 0), .int p0, .int p1, .int p2]) (n := 5) (Nat.le_of_ble_eq_true rfl)
  rw [lg_entry_eq]
  generalize (lg_sl ([.ref (bd 0), .int p0, .int p1, .int p2]) ++ List.replicate (5 - (lg_sl ([.ref (bd 0), .int p0, .int p1, .int p2])).length) Slot.unset).toArray = ls at hl ⊢
  have hl : lv_has ls 5 [(0, .ref (bd 0)), (1, .int p0), (2, .int p1), (3, .int p2)] := hl
  have hi3 : ∀ w ∈ u_ws RX3 TX3 21, w ∈ wsX3_nextGap := by decide +kernel
  obtain ⟨hI1, hI2, hI3, hI4, hI5, hI6, hI7⟩ := id hI
  refine lv_aload_n hx hb dX3_nextGap_0 rfl (lv_at hl 0 rfl) ?_
  refine lv_iload_n hx hb dX3_nextGap_1 rfl (lv_at hl 1 rfl) ?_
  refine z_cS (As := [.int p0]) (rest := [.ref (bd 0)]) F (c_X3_isSite l p0) (va_cwS 1 hts gX3_nextGap_X3_isSite rfl rfl rfl (by decide +kernel) ⟨Nat.le_of_ble_eq_true rfl, Nat.le_of_ble_eq_true rfl⟩) rfl hl.1 rfl (Nat.le_of_ble_eq_true rfl) dX3_nextGap_2 ⟨Nat.le_of_ble_eq_true rfl, Nat.le_of_ble_eq_true rfl⟩ (fun r hr => ?_)
  subst hr
  refine z_ifb_eq (tgt := 19) F dX3_nextGap_5 (by decide) (fun c12 => ?_) (fun c12 => ?_)
  · refine lv_iconst (v := nI 0) hx hb dX3_nextGap_19 (by decide) ?_
    refine z_top (show nI 0 = bI (zI 4 p0 ∧ zI 4 p1) from (bI_f (fun zz1 => by have zz2 := zz1.1; first | exact c12 zz2 | omega)).symm) ?_
    refine lv_iload_n hx hb dX3_nextGap_20 rfl (lv_at hl 3 rfl) ?_
    refine lv_iconst (v := nI 0) hx hb dX3_nextGap_21 (by decide) ?_
    refine lv_sipush (v := nI 1000) hx hb dX3_nextGap_22 (by decide) ?_
    refine z_cS (As := [.int p2, .int (nI 0), .int (nI 1000)]) (rest := [.int (bI (zI 4 p0 ∧ zI 4 p1)), .ref (bd 0)]) F (c_X3_in l p2 (nI 0) (nI 1000)) (va_cwS 3 hts gX3_nextGap_X3_in rfl rfl rfl (by decide +kernel) ⟨Nat.le_of_ble_eq_true rfl, Nat.le_of_ble_eq_true rfl⟩) rfl hl.1 rfl (Nat.le_of_ble_eq_true rfl) dX3_nextGap_25 ⟨Nat.le_of_ble_eq_true rfl, Nat.le_of_ble_eq_true rfl⟩ (fun r hr => ?_)
    subst hr
    refine z_mV (qc := (RX3, TX3, 21)) (As := [.int (bI (zI 4 p0 ∧ zI 4 p1)), .int (bI (nI 0 ≤ p2 ∧ p2 ≤ nI 1000))]) (rest := []) (0) F (c_X3_asked_ l D k bd M O th _ (zI 4 p0 ∧ zI 4 p1) (nI 0 ≤ p2 ∧ p2 ≤ nI 1000)) (cwV 2 hts gX3_nextGap_X3_asked_ rfl rfl rfl (by decide +kernel) ⟨Nat.le_of_ble_eq_true rfl, Nat.le_of_ble_eq_true rfl⟩) hK hP hD hS hA (by omega) cM_0 rfl rfl hl.1 rfl (Nat.le_of_ble_eq_true rfl) dX3_nextGap_28 ⟨Nat.le_of_ble_eq_true rfl, Nat.le_of_ble_eq_true rfl⟩ (fun r H locs hr0 hP hD hS => ?_)
    subst hr0
    refine z_ifb_ne (tgt := 36) F dX3_nextGap_31 (by decide) (fun c13 => ?_) (fun c13 => ?_)
    · obtain ⟨i, hi, rfl⟩ := id (c13.1.1)
      try rw [ix_nI (show i < 2 ^ 31 by omega)]
      obtain ⟨kd, hkd, rfl⟩ := id (c13.1.2)
      try rw [ix_nI (show kd < 2 ^ 31 by omega)]
      obtain ⟨b2, hb20, hb2, rfl⟩ := (zB_iff (by omega) (by decide)).mp (c13.2)
      try rw [ix_nI (show b2 < 2 ^ 31 by omega)]
      obtain ⟨hs, hco⟩ := hI3 i hi
      refine lv_iload_n hx hb dX3_nextGap_36 rfl (lv_at hl 3 rfl) ?_
      refine lv_istore (lv' := [(4, .int (nI b2)), (0, .ref (bd 0)), (1, .int (nI i)), (2, .int (nI kd)), (3, .int (nI b2))]) hx hb dX3_nextGap_37 hl (by decide) rfl (fun ls hl => ?_)
      refine lp_nextGapR (v0 := ngF M i kd (1001 - b2) b2) F hK hs hco hi hkd hP (fun g hv ls => ?_) (fun hv ls => ?_) 1002 b2 (by omega) (by omega) rfl ls (lv_sub hl [0, 1, 2, 3] rfl)
      · have hx0 : (x3 (zI 4 (nI i) ∧ zI 4 (nI kd)) (nI 0 ≤ (nI b2) ∧ (nI b2) ≤ nI 1000) (True)) = 0 := x3_0 c13.1 c13.2 trivial
        have eW : cM k bd M O (nI ((x3 (zI 4 (nI i) ∧ zI 4 (nI kd)) (nI 0 ≤ (nI b2) ∧ (nI b2) ≤ nI 1000) (True)))) = cM k bd M O (nI (y2 (zI 4 (nI i) ∧ zI 4 (nI kd)) (nI 0 ≤ (nI b2) ∧ (nI b2) ≤ nI 1000))) := by rw [← y2_ab] <;> rfl
        rw [← eW] at hP hD
        refine W.widen (k := 0) (n := 0) (Nat.le_of_ble_eq_true rfl) (Nat.le_of_ble_eq_true rfl) ?_
        exact W.iret (v := nI g) hx hb hr (fun t ht hW => ⟨⟨nI g, (), rfl, fun _ => hv, ⟨by rw [ht]; exact hP, va_K.moved hW.alike hK⟩, hD⟩, hS.F ht⟩) hS.2.2 dX3_nextGap_60
      · refine lv_iconst (v := (-1)) hx hb dX3_nextGap_67 (by decide) ?_
        have hx0 : (x3 (zI 4 (nI i) ∧ zI 4 (nI kd)) (nI 0 ≤ (nI b2) ∧ (nI b2) ≤ nI 1000) (True)) = 0 := x3_0 c13.1 c13.2 trivial
        have eW : cM k bd M O (nI ((x3 (zI 4 (nI i) ∧ zI 4 (nI kd)) (nI 0 ≤ (nI b2) ∧ (nI b2) ≤ nI 1000) (True)))) = cM k bd M O (nI (y2 (zI 4 (nI i) ∧ zI 4 (nI kd)) (nI 0 ≤ (nI b2) ∧ (nI b2) ≤ nI 1000))) := by rw [← y2_ab] <;> rfl
        rw [← eW] at hP hD
        refine W.widen (k := 0) (n := 0) (Nat.le_of_ble_eq_true rfl) (Nat.le_of_ble_eq_true rfl) ?_
        exact W.iret (v := (-1)) hx hb hr (fun t ht hW => ⟨⟨(-1), (), rfl, fun _ => hv, ⟨by rw [ht]; exact hP, va_K.moved hW.alike hK⟩, hD⟩, hS.F ht⟩) hS.2.2 dX3_nextGap_68
    · refine lv_iconst (v := nI 0) hx hb dX3_nextGap_34 (by decide) ?_
      have hx0 : (x3 (zI 4 p0 ∧ zI 4 p1) (nI 0 ≤ p2 ∧ p2 ≤ nI 1000) (True)) ≠ 0 := x3_no (fun zz1 => c13 ⟨zz1.1, zz1.2.1⟩)
      have eW : cM k bd M O (nI ((x3 (zI 4 p0 ∧ zI 4 p1) (nI 0 ≤ p2 ∧ p2 ≤ nI 1000) (True)))) = cM k bd M O (nI (y2 (zI 4 p0 ∧ zI 4 p1) (nI 0 ≤ p2 ∧ p2 ≤ nI 1000))) := by rw [← y2_ab] <;> rfl
      rw [← eW] at hP hD
      refine W.widen (k := 0) (n := 0) (Nat.le_of_ble_eq_true rfl) (Nat.le_of_ble_eq_true rfl) ?_
      exact W.iret (v := nI 0) hx hb hr (fun t ht hW => ⟨⟨nI 0, (), rfl, fun zz1 => absurd zz1 hx0, ⟨by rw [ht]; exact hP, va_K.moved hW.alike hK⟩, hD⟩, hS.F ht⟩) hS.2.2 dX3_nextGap_35
  · refine lv_iload_n hx hb dX3_nextGap_8 rfl (lv_at hl 2 rfl) ?_
    refine z_cS (As := [.int p1]) (rest := [.ref (bd 0)]) F (c_X3_isKind l p1) (va_cwS 1 hts gX3_nextGap_X3_isKind rfl rfl rfl (by decide +kernel) ⟨Nat.le_of_ble_eq_true rfl, Nat.le_of_ble_eq_true rfl⟩) rfl hl.1 rfl (Nat.le_of_ble_eq_true rfl) dX3_nextGap_9 ⟨Nat.le_of_ble_eq_true rfl, Nat.le_of_ble_eq_true rfl⟩ (fun r hr => ?_)
    subst hr
    refine z_ifb_eq (tgt := 19) F dX3_nextGap_12 (by decide) (fun c14 => ?_) (fun c14 => ?_)
    · refine lv_iconst (v := nI 0) hx hb dX3_nextGap_19 (by decide) ?_
      refine z_top (show nI 0 = bI (zI 4 p0 ∧ zI 4 p1) from (bI_f (fun zz1 => by have zz2 := zz1.2; first | exact c14 zz2 | omega)).symm) ?_
      refine lv_iload_n hx hb dX3_nextGap_20 rfl (lv_at hl 3 rfl) ?_
      refine lv_iconst (v := nI 0) hx hb dX3_nextGap_21 (by decide) ?_
      refine lv_sipush (v := nI 1000) hx hb dX3_nextGap_22 (by decide) ?_
      refine z_cS (As := [.int p2, .int (nI 0), .int (nI 1000)]) (rest := [.int (bI (zI 4 p0 ∧ zI 4 p1)), .ref (bd 0)]) F (c_X3_in l p2 (nI 0) (nI 1000)) (va_cwS 3 hts gX3_nextGap_X3_in rfl rfl rfl (by decide +kernel) ⟨Nat.le_of_ble_eq_true rfl, Nat.le_of_ble_eq_true rfl⟩) rfl hl.1 rfl (Nat.le_of_ble_eq_true rfl) dX3_nextGap_25 ⟨Nat.le_of_ble_eq_true rfl, Nat.le_of_ble_eq_true rfl⟩ (fun r hr => ?_)
      subst hr
      refine z_mV (qc := (RX3, TX3, 21)) (As := [.int (bI (zI 4 p0 ∧ zI 4 p1)), .int (bI (nI 0 ≤ p2 ∧ p2 ≤ nI 1000))]) (rest := []) (0) F (c_X3_asked_ l D k bd M O th _ (zI 4 p0 ∧ zI 4 p1) (nI 0 ≤ p2 ∧ p2 ≤ nI 1000)) (cwV 2 hts gX3_nextGap_X3_asked_ rfl rfl rfl (by decide +kernel) ⟨Nat.le_of_ble_eq_true rfl, Nat.le_of_ble_eq_true rfl⟩) hK hP hD hS hA (by omega) cM_0 rfl rfl hl.1 rfl (Nat.le_of_ble_eq_true rfl) dX3_nextGap_28 ⟨Nat.le_of_ble_eq_true rfl, Nat.le_of_ble_eq_true rfl⟩ (fun r H locs hr0 hP hD hS => ?_)
      subst hr0
      refine z_ifb_ne (tgt := 36) F dX3_nextGap_31 (by decide) (fun c15 => ?_) (fun c15 => ?_)
      · obtain ⟨i, hi, rfl⟩ := id (c15.1.1)
        try rw [ix_nI (show i < 2 ^ 31 by omega)]
        obtain ⟨kd, hkd, rfl⟩ := id (c15.1.2)
        try rw [ix_nI (show kd < 2 ^ 31 by omega)]
        obtain ⟨b2, hb20, hb2, rfl⟩ := (zB_iff (by omega) (by decide)).mp (c15.2)
        try rw [ix_nI (show b2 < 2 ^ 31 by omega)]
        obtain ⟨hs, hco⟩ := hI3 i hi
        refine lv_iload_n hx hb dX3_nextGap_36 rfl (lv_at hl 3 rfl) ?_
        refine lv_istore (lv' := [(4, .int (nI b2)), (0, .ref (bd 0)), (1, .int (nI i)), (2, .int (nI kd)), (3, .int (nI b2))]) hx hb dX3_nextGap_37 hl (by decide) rfl (fun ls hl => ?_)
        refine lp_nextGapR (v0 := ngF M i kd (1001 - b2) b2) F hK hs hco hi hkd hP (fun g hv ls => ?_) (fun hv ls => ?_) 1002 b2 (by omega) (by omega) rfl ls (lv_sub hl [0, 1, 2, 3] rfl)
        · have hx0 : (x3 (zI 4 (nI i) ∧ zI 4 (nI kd)) (nI 0 ≤ (nI b2) ∧ (nI b2) ≤ nI 1000) (True)) = 0 := x3_0 c15.1 c15.2 trivial
          have eW : cM k bd M O (nI ((x3 (zI 4 (nI i) ∧ zI 4 (nI kd)) (nI 0 ≤ (nI b2) ∧ (nI b2) ≤ nI 1000) (True)))) = cM k bd M O (nI (y2 (zI 4 (nI i) ∧ zI 4 (nI kd)) (nI 0 ≤ (nI b2) ∧ (nI b2) ≤ nI 1000))) := by rw [← y2_ab] <;> rfl
          rw [← eW] at hP hD
          refine W.widen (k := 0) (n := 0) (Nat.le_of_ble_eq_true rfl) (Nat.le_of_ble_eq_true rfl) ?_
          exact W.iret (v := nI g) hx hb hr (fun t ht hW => ⟨⟨nI g, (), rfl, fun _ => hv, ⟨by rw [ht]; exact hP, va_K.moved hW.alike hK⟩, hD⟩, hS.F ht⟩) hS.2.2 dX3_nextGap_60
        · refine lv_iconst (v := (-1)) hx hb dX3_nextGap_67 (by decide) ?_
          have hx0 : (x3 (zI 4 (nI i) ∧ zI 4 (nI kd)) (nI 0 ≤ (nI b2) ∧ (nI b2) ≤ nI 1000) (True)) = 0 := x3_0 c15.1 c15.2 trivial
          have eW : cM k bd M O (nI ((x3 (zI 4 (nI i) ∧ zI 4 (nI kd)) (nI 0 ≤ (nI b2) ∧ (nI b2) ≤ nI 1000) (True)))) = cM k bd M O (nI (y2 (zI 4 (nI i) ∧ zI 4 (nI kd)) (nI 0 ≤ (nI b2) ∧ (nI b2) ≤ nI 1000))) := by rw [← y2_ab] <;> rfl
          rw [← eW] at hP hD
          refine W.widen (k := 0) (n := 0) (Nat.le_of_ble_eq_true rfl) (Nat.le_of_ble_eq_true rfl) ?_
          exact W.iret (v := (-1)) hx hb hr (fun t ht hW => ⟨⟨(-1), (), rfl, fun _ => hv, ⟨by rw [ht]; exact hP, va_K.moved hW.alike hK⟩, hD⟩, hS.F ht⟩) hS.2.2 dX3_nextGap_68
      · refine lv_iconst (v := nI 0) hx hb dX3_nextGap_34 (by decide) ?_
        have hx0 : (x3 (zI 4 p0 ∧ zI 4 p1) (nI 0 ≤ p2 ∧ p2 ≤ nI 1000) (True)) ≠ 0 := x3_no (fun zz1 => c15 ⟨zz1.1, zz1.2.1⟩)
        have eW : cM k bd M O (nI ((x3 (zI 4 p0 ∧ zI 4 p1) (nI 0 ≤ p2 ∧ p2 ≤ nI 1000) (True)))) = cM k bd M O (nI (y2 (zI 4 p0 ∧ zI 4 p1) (nI 0 ≤ p2 ∧ p2 ≤ nI 1000))) := by rw [← y2_ab] <;> rfl
        rw [← eW] at hP hD
        refine W.widen (k := 0) (n := 0) (Nat.le_of_ble_eq_true rfl) (Nat.le_of_ble_eq_true rfl) ?_
        exact W.iret (v := nI 0) hx hb hr (fun t ht hW => ⟨⟨nI 0, (), rfl, fun zz1 => absurd zz1 hx0, ⟨by rw [ht]; exact hP, va_K.moved hW.alike hK⟩, hD⟩, hS.F ht⟩) hS.2.2 dX3_nextGap_35
    · refine lv_iconst (v := nI 1) hx hb dX3_nextGap_15 (by decide) ?_
      refine lv_goto (tgt := 20) hx hb dX3_nextGap_16 (by decide) ?_
      refine z_top (show nI 1 = bI (zI 4 p0 ∧ zI 4 p1) from (bI_t ⟨c12, c14⟩).symm) ?_
      refine lv_iload_n hx hb dX3_nextGap_20 rfl (lv_at hl 3 rfl) ?_
      refine lv_iconst (v := nI 0) hx hb dX3_nextGap_21 (by decide) ?_
      refine lv_sipush (v := nI 1000) hx hb dX3_nextGap_22 (by decide) ?_
      refine z_cS (As := [.int p2, .int (nI 0), .int (nI 1000)]) (rest := [.int (bI (zI 4 p0 ∧ zI 4 p1)), .ref (bd 0)]) F (c_X3_in l p2 (nI 0) (nI 1000)) (va_cwS 3 hts gX3_nextGap_X3_in rfl rfl rfl (by decide +kernel) ⟨Nat.le_of_ble_eq_true rfl, Nat.le_of_ble_eq_true rfl⟩) rfl hl.1 rfl (Nat.le_of_ble_eq_true rfl) dX3_nextGap_25 ⟨Nat.le_of_ble_eq_true rfl, Nat.le_of_ble_eq_true rfl⟩ (fun r hr => ?_)
      subst hr
      refine z_mV (qc := (RX3, TX3, 21)) (As := [.int (bI (zI 4 p0 ∧ zI 4 p1)), .int (bI (nI 0 ≤ p2 ∧ p2 ≤ nI 1000))]) (rest := []) (0) F (c_X3_asked_ l D k bd M O th _ (zI 4 p0 ∧ zI 4 p1) (nI 0 ≤ p2 ∧ p2 ≤ nI 1000)) (cwV 2 hts gX3_nextGap_X3_asked_ rfl rfl rfl (by decide +kernel) ⟨Nat.le_of_ble_eq_true rfl, Nat.le_of_ble_eq_true rfl⟩) hK hP hD hS hA (by omega) cM_0 rfl rfl hl.1 rfl (Nat.le_of_ble_eq_true rfl) dX3_nextGap_28 ⟨Nat.le_of_ble_eq_true rfl, Nat.le_of_ble_eq_true rfl⟩ (fun r H locs hr0 hP hD hS => ?_)
      subst hr0
      refine z_ifb_ne (tgt := 36) F dX3_nextGap_31 (by decide) (fun c16 => ?_) (fun c16 => ?_)
      · obtain ⟨i, hi, rfl⟩ := id (c16.1.1)
        try rw [ix_nI (show i < 2 ^ 31 by omega)]
        obtain ⟨kd, hkd, rfl⟩ := id (c16.1.2)
        try rw [ix_nI (show kd < 2 ^ 31 by omega)]
        obtain ⟨b2, hb20, hb2, rfl⟩ := (zB_iff (by omega) (by decide)).mp (c16.2)
        try rw [ix_nI (show b2 < 2 ^ 31 by omega)]
        obtain ⟨hs, hco⟩ := hI3 i hi
        refine lv_iload_n hx hb dX3_nextGap_36 rfl (lv_at hl 3 rfl) ?_
        refine lv_istore (lv' := [(4, .int (nI b2)), (0, .ref (bd 0)), (1, .int (nI i)), (2, .int (nI kd)), (3, .int (nI b2))]) hx hb dX3_nextGap_37 hl (by decide) rfl (fun ls hl => ?_)
        refine lp_nextGapR (v0 := ngF M i kd (1001 - b2) b2) F hK hs hco hi hkd hP (fun g hv ls => ?_) (fun hv ls => ?_) 1002 b2 (by omega) (by omega) rfl ls (lv_sub hl [0, 1, 2, 3] rfl)
        · have hx0 : (x3 (zI 4 (nI i) ∧ zI 4 (nI kd)) (nI 0 ≤ (nI b2) ∧ (nI b2) ≤ nI 1000) (True)) = 0 := x3_0 c16.1 c16.2 trivial
          have eW : cM k bd M O (nI ((x3 (zI 4 (nI i) ∧ zI 4 (nI kd)) (nI 0 ≤ (nI b2) ∧ (nI b2) ≤ nI 1000) (True)))) = cM k bd M O (nI (y2 (zI 4 (nI i) ∧ zI 4 (nI kd)) (nI 0 ≤ (nI b2) ∧ (nI b2) ≤ nI 1000))) := by rw [← y2_ab] <;> rfl
          rw [← eW] at hP hD
          refine W.widen (k := 0) (n := 0) (Nat.le_of_ble_eq_true rfl) (Nat.le_of_ble_eq_true rfl) ?_
          exact W.iret (v := nI g) hx hb hr (fun t ht hW => ⟨⟨nI g, (), rfl, fun _ => hv, ⟨by rw [ht]; exact hP, va_K.moved hW.alike hK⟩, hD⟩, hS.F ht⟩) hS.2.2 dX3_nextGap_60
        · refine lv_iconst (v := (-1)) hx hb dX3_nextGap_67 (by decide) ?_
          have hx0 : (x3 (zI 4 (nI i) ∧ zI 4 (nI kd)) (nI 0 ≤ (nI b2) ∧ (nI b2) ≤ nI 1000) (True)) = 0 := x3_0 c16.1 c16.2 trivial
          have eW : cM k bd M O (nI ((x3 (zI 4 (nI i) ∧ zI 4 (nI kd)) (nI 0 ≤ (nI b2) ∧ (nI b2) ≤ nI 1000) (True)))) = cM k bd M O (nI (y2 (zI 4 (nI i) ∧ zI 4 (nI kd)) (nI 0 ≤ (nI b2) ∧ (nI b2) ≤ nI 1000))) := by rw [← y2_ab] <;> rfl
          rw [← eW] at hP hD
          refine W.widen (k := 0) (n := 0) (Nat.le_of_ble_eq_true rfl) (Nat.le_of_ble_eq_true rfl) ?_
          exact W.iret (v := (-1)) hx hb hr (fun t ht hW => ⟨⟨(-1), (), rfl, fun _ => hv, ⟨by rw [ht]; exact hP, va_K.moved hW.alike hK⟩, hD⟩, hS.F ht⟩) hS.2.2 dX3_nextGap_68
      · refine lv_iconst (v := nI 0) hx hb dX3_nextGap_34 (by decide) ?_
        have hx0 : (x3 (zI 4 p0 ∧ zI 4 p1) (nI 0 ≤ p2 ∧ p2 ≤ nI 1000) (True)) ≠ 0 := x3_no (fun zz1 => c16 ⟨zz1.1, zz1.2.1⟩)
        have eW : cM k bd M O (nI ((x3 (zI 4 p0 ∧ zI 4 p1) (nI 0 ≤ p2 ∧ p2 ≤ nI 1000) (True)))) = cM k bd M O (nI (y2 (zI 4 p0 ∧ zI 4 p1) (nI 0 ≤ p2 ∧ p2 ≤ nI 1000))) := by rw [← y2_ab] <;> rfl
        rw [← eW] at hP hD
        refine W.widen (k := 0) (n := 0) (Nat.le_of_ble_eq_true rfl) (Nat.le_of_ble_eq_true rfl) ?_
        exact W.iret (v := nI 0) hx hb hr (fun t ht hW => ⟨⟨nI 0, (), rfl, fun zz1 => absurd zz1 hx0, ⟨by rw [ht]; exact hP, va_K.moved hW.alike hK⟩, hD⟩, hS.F ht⟩) hS.2.2 dX3_nextGap_35
