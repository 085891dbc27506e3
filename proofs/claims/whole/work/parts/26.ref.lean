/-! THE REFERENCE: mostUrgent. -/
set_option maxRecDepth 100000 in
set_option maxHeartbeats 1000000 in
theorem lp_mostUrgentR {p : Program} {l : Launch} {e : Env} {s : State} {m : MethodId} {args : Array Value} {below : List Frame} {meth : Method} {c : Code} {H : Heap} {locs : List Loc} {Q : State → Prop} {D : va_G} {k : Nat → ClassId} {bd : Nat → Nat} {M : Nat → Nat → Nat} {O : Nat → Nat → Int32} {th : Int32} (F : CallFix p m c cX3_mostUrgent 4 s args wsX3_mostUrgent RX3) (hK : va_K D vwCl (tyL k) s)
    (hca : ∀ c, c < M 0 1 → zCa M c) (hp : zPr M) (hk9 : ∀ x, x < 120 → M 15 x ≤ 24000) (h40 : M 0 1 ≤ 40)
    (hP : va_P D vwCl (zw 19 bd (cM k bd M O th)) H)
    (k0 : ∀ (ls : Array Slot), lv_has ls 4 [(1, .int (hdI (uB M (M 0 1)))), (0, .ref (bd 0))] → W p l e (headSpec wsX3_mostUrgent ({ frames := 1, cells := 0, slots := 0, locals := 26 })).room s m args below meth c H locs 0 0 Q (F0 m 85 ls [])) :
    ∀ (fu j : Nat), j ≤ M 0 1 → M 0 1 < j + fu → ∀ (ls : Array Slot), lv_has ls 4 [(2, .int (nI j)), (1, .int (hdI (uB M j))), (0, .ref (bd 0))] → W p l e (headSpec wsX3_mostUrgent ({ frames := 1, cells := 0, slots := 0, locals := 26 })).room s m args below meth c H locs 0 0 Q (F0 m 4 ls []) := by
  have hx := F.1
  have hb := F.2.1
  have hts := F.2.2.2.2
  have hown := F.2.2.2.1
  have hi3 : ∀ w ∈ u_ws RX3 TX3 21, w ∈ wsX3_mostUrgent := by decide +kernel
  intro fu
  induction fu with
  | zero => intro j h1 h2; omega
  | succ fu ih =>
    intro j h1 h2 ls hl
    have hu := uB_le M j
    refine lv_iload_n hx hb dX3_mostUrgent_4 rfl (lv_at hl 0 rfl) ?_
    refine lv_aload_n hx hb dX3_mostUrgent_5 rfl (lv_at hl 2 rfl) ?_
    refine z_get (C := RX3) (T := TX3) (N := 21) (ci := 3) (fs := mObj bd M th) (v := .int (nI (M 0 1))) F hK hP hi3 rfl (0) 17 (by omega) cM_0 (by decide) rfl (by decide +kernel) dX3_mostUrgent_6 ?_
    refine z_icmp_ge (tgt := 85) F (by omega) (by omega) dX3_mostUrgent_9 (by decide) (fun c1 => ?_) (fun c1 => ?_)
    · obtain rfl : j = M 0 1 := by omega
      exact k0 ls (lv_sub hl [1, 2] rfl)
    · have hz := hca j (by omega)
      obtain ⟨hc1, hc2, hc3, hc4, hc5, hc6, hc7⟩ := id hz
      have hg := gS_le M j 3
      refine lv_aload_n hx hb dX3_mostUrgent_12 rfl (lv_at hl 2 rfl) ?_
      refine z_get (C := RX3) (T := TX3) (N := 21) (ci := 3) (fs := mObj bd M th) (v := .ref (bd 12)) F hK hP hi3 rfl (0) 12 (by omega) cM_0 (by decide) rfl (by decide +kernel) dX3_mostUrgent_13 ?_
      refine lv_iload_n hx hb dX3_mostUrgent_16 rfl (lv_at hl 0 rfl) ?_
      refine z_iald (v := nI (M 12 j)) (cA := k 0) (len := 40) (g := mA M O 12) F hK hP (12) 0 (by omega) rfl rfl (i := nI j) j rfl (by omega) (by decide) rfl dX3_mostUrgent_17 ?_
      refine z_ifn_ne (tgt := 79) F (by omega) dX3_mostUrgent_18 (by decide) (fun c2 => ?_) (fun c2 => ?_)
      · refine lv_iinc (v := nI (j + 1)) (lv' := [(2, .int (nI (j + 1))), (1, .int (hdI (uB M j))), (0, .ref (bd 0))]) hx hb dX3_mostUrgent_79 hl (k := 0) rfl (nI_1 j) (by decide) rfl (fun ls hl => ?_)
        refine lv_goto (tgt := 4) hx hb dX3_mostUrgent_82 (by decide) ?_
        have e1 : uB M (j + 1) = uB M j := uB_stay (fun zz1 => c2 zz1.1)
        have e2 : hdI (uB M (j + 1)) = hdI (uB M j) := by rw [e1]
        exact ih (j + 1) (by omega) (by omega) ls (by rw [e2]; exact lv_sub hl [0, 1, 2] rfl)
      · refine lv_aload_n hx hb dX3_mostUrgent_21 rfl (lv_at hl 2 rfl) ?_
        refine z_get (C := RX3) (T := TX3) (N := 21) (ci := 3) (fs := mObj bd M th) (v := .ref (bd 14)) F hK hP hi3 rfl (0) 14 (by omega) cM_0 (by decide) rfl (by decide +kernel) dX3_mostUrgent_22 ?_
        refine lv_iload_n hx hb dX3_mostUrgent_25 rfl (lv_at hl 0 rfl) ?_
        refine z_zald (v := nI (M 14 j)) (cA := k 1) (len := 40) (g := mA M O 14) F hK hP (14) 1 (by omega) rfl rfl (i := nI j) j rfl (by omega) (by decide) rfl dX3_mostUrgent_26 ?_
        refine z_ifn_ne (tgt := 79) F (by omega) dX3_mostUrgent_27 (by decide) (fun c3 => ?_) (fun c3 => ?_)
        · refine lv_iinc (v := nI (j + 1)) (lv' := [(2, .int (nI (j + 1))), (1, .int (hdI (uB M j))), (0, .ref (bd 0))]) hx hb dX3_mostUrgent_79 hl (k := 0) rfl (nI_1 j) (by decide) rfl (fun ls hl => ?_)
          refine lv_goto (tgt := 4) hx hb dX3_mostUrgent_82 (by decide) ?_
          have e1 : uB M (j + 1) = uB M j := uB_stay (fun zz1 => c3 zz1.2)
          have e2 : hdI (uB M (j + 1)) = hdI (uB M j) := by rw [e1]
          exact ih (j + 1) (by omega) (by omega) ls (by rw [e2]; exact lv_sub hl [0, 1, 2] rfl)
        · refine lv_iload_n hx hb dX3_mostUrgent_30 rfl (lv_at hl 1 rfl) ?_
          refine lv_iconst (v := (-1)) hx hb dX3_mostUrgent_31 (by decide) ?_
          refine lv_icmp_ne (tgt := 39) hx hb dX3_mostUrgent_32 (by decide) (fun c4 => ?_) (fun c4 => ?_)
          · have hn0 : uB M j ≠ 0 := fun zz1 => c4 ((hdI_0 (by omega)).mpr zz1)
            obtain ⟨bb, hbb⟩ : ∃ zb : Nat, uB M j = zb + 1 := ⟨uB M j - 1, by omega⟩
            have e5 : hdI (uB M j) = nI bb := by rw [hbb, hdI_s]
            have hz2 := hca bb (by omega)
            have hg2 := gS_le M bb 3
            have hm2 := hz2.2.2.1
            have eS : uS M (uB M j) = gS M bb 3 := by rw [hbb, uS_s]
            have eG : uG M (uB M j) = M 11 bb := by rw [hbb, uG_s]
            rw [e5] at hl
            refine lv_iconst (v := nI 3) hx hb dX3_mostUrgent_39 (by decide) ?_
            refine lv_aload_n hx hb dX3_mostUrgent_40 rfl (lv_at hl 2 rfl) ?_
            refine lv_iload_n hx hb dX3_mostUrgent_41 rfl (lv_at hl 0 rfl) ?_
            refine z_cV (qc := (RX3, TX3, 21)) (As := [.int (nI j)]) (rest := [.int (nI 3)]) (0) F (c_X3_stepOf l D k bd M O th j hz (by omega) hp hk9) (cwV 1 hts gX3_mostUrgent_X3_stepOf rfl rfl rfl (by decide +kernel) ⟨Nat.le_of_ble_eq_true rfl, Nat.le_of_ble_eq_true rfl⟩) hK hP (by omega) cM_0 rfl rfl hl.1 rfl (Nat.le_of_ble_eq_true rfl) dX3_mostUrgent_42 ⟨Nat.le_of_ble_eq_true rfl, Nat.le_of_ble_eq_true rfl⟩ (fun r hr => ?_)
            subst hr
            refine z_mul F dX3_mostUrgent_45 ?_
            refine lv_aload_n hx hb dX3_mostUrgent_46 rfl (lv_at hl 2 rfl) ?_
            refine z_get (C := RX3) (T := TX3) (N := 21) (ci := 3) (fs := mObj bd M th) (v := .ref (bd 11)) F hK hP hi3 rfl (0) 11 (by omega) cM_0 (by decide) rfl (by decide +kernel) dX3_mostUrgent_47 ?_
            refine lv_iload_n hx hb dX3_mostUrgent_50 rfl (lv_at hl 0 rfl) ?_
            refine z_iald (v := nI (M 11 j)) (cA := k 0) (len := 40) (g := mA M O 11) F hK hP (11) 0 (by omega) rfl rfl (i := nI j) j rfl (by omega) (by decide) rfl dX3_mostUrgent_51 ?_
            refine z_add F dX3_mostUrgent_52 ?_
            refine lv_iconst (v := nI 3) hx hb dX3_mostUrgent_53 (by decide) ?_
            refine lv_aload_n hx hb dX3_mostUrgent_54 rfl (lv_at hl 2 rfl) ?_
            refine lv_iload_n hx hb dX3_mostUrgent_55 rfl (lv_at hl 1 rfl) ?_
            refine z_cV (qc := (RX3, TX3, 21)) (As := [.int (nI bb)]) (rest := [.int (nI 3), .int (nI ((3 * (gS M j 3)) + (M 11 j)))]) (0) F (c_X3_stepOf l D k bd M O th bb hz2 (by omega) hp hk9) (cwV 1 hts gX3_mostUrgent_X3_stepOf rfl rfl rfl (by decide +kernel) ⟨Nat.le_of_ble_eq_true rfl, Nat.le_of_ble_eq_true rfl⟩) hK hP (by omega) cM_0 rfl rfl hl.1 rfl (Nat.le_of_ble_eq_true rfl) dX3_mostUrgent_56 ⟨Nat.le_of_ble_eq_true rfl, Nat.le_of_ble_eq_true rfl⟩ (fun r hr => ?_)
            subst hr
            refine z_mul F dX3_mostUrgent_59 ?_
            refine lv_isub hx hb dX3_mostUrgent_60 ?_
            refine lv_aload_n hx hb dX3_mostUrgent_61 rfl (lv_at hl 2 rfl) ?_
            refine z_get (C := RX3) (T := TX3) (N := 21) (ci := 3) (fs := mObj bd M th) (v := .ref (bd 11)) F hK hP hi3 rfl (0) 11 (by omega) cM_0 (by decide) rfl (by decide +kernel) dX3_mostUrgent_62 ?_
            refine lv_iload_n hx hb dX3_mostUrgent_65 rfl (lv_at hl 1 rfl) ?_
            refine z_iald (v := nI (M 11 bb)) (cA := k 0) (len := 40) (g := mA M O 11) F hK hP (11) 0 (by omega) rfl rfl (i := nI bb) bb rfl (by omega) (by decide) rfl dX3_mostUrgent_66 ?_
            refine lv_isub hx hb dX3_mostUrgent_67 ?_
            refine lv_istore_n (lv' := [(3, .int (((nI ((3 * (gS M j 3)) + (M 11 j))) - (nI (3 * (gS M bb 3)))) - (nI (M 11 bb)))), (2, .int (nI j)), (1, .int (nI bb)), (0, .ref (bd 0))]) hx hb dX3_mostUrgent_68 rfl hl (by decide) rfl (fun ls hl => ?_)
            refine lv_iload_n hx hb dX3_mostUrgent_69 rfl (lv_at hl 0 rfl) ?_
            refine lv_if_le (tgt := 77) hx hb dX3_mostUrgent_70 (by decide) (fun c5 => ?_) (fun c5 => ?_)
            · refine lv_iload_n hx hb dX3_mostUrgent_77 rfl (lv_at hl 2 rfl) ?_
              refine lv_istore_n (lv' := [(1, .int (nI bb)), (3, .int (((nI ((3 * (gS M j 3)) + (M 11 j))) - (nI (3 * (gS M bb 3)))) - (nI (M 11 bb)))), (2, .int (nI j)), (0, .ref (bd 0))]) hx hb dX3_mostUrgent_78 rfl hl (by decide) rfl (fun ls hl => ?_)
              refine lv_iinc (v := nI (j + 1)) (lv' := [(2, .int (nI (j + 1))), (1, .int (nI bb)), (3, .int (((nI ((3 * (gS M j 3)) + (M 11 j))) - (nI (3 * (gS M bb 3)))) - (nI (M 11 bb)))), (0, .ref (bd 0))]) hx hb dX3_mostUrgent_79 hl (k := 2) rfl (nI_1 j) (by decide) rfl (fun ls hl => ?_)
              refine lv_goto (tgt := 4) hx hb dX3_mostUrgent_82 (by decide) ?_
              have e7 := dif_le (3 * gS M j 3 + M 11 j) (by omega) (3 * gS M bb 3) (by omega) (M 11 bb) (by omega)
              have e6 : 3 * gS M j 3 + M 11 j ≤ 3 * gS M bb 3 + M 11 bb := e7.mp c5
              have e1 : uB M (j + 1) = uB M j := uB_less hn0 (by rw [eS]; omega) (by rw [eS, eG]; omega)
              have e2 : hdI (uB M (j + 1)) = nI bb := by rw [e1, e5]
              exact ih (j + 1) (by omega) (by omega) ls (by rw [e2]; exact lv_sub hl [0, 1, 3] rfl)
            · refine lv_iload_n hx hb dX3_mostUrgent_73 rfl (lv_at hl 1 rfl) ?_
              refine lv_goto (tgt := 78) hx hb dX3_mostUrgent_74 (by decide) ?_
              refine lv_istore_n (lv' := [(1, .int (nI j)), (3, .int (((nI ((3 * (gS M j 3)) + (M 11 j))) - (nI (3 * (gS M bb 3)))) - (nI (M 11 bb)))), (2, .int (nI j)), (0, .ref (bd 0))]) hx hb dX3_mostUrgent_78 rfl hl (by decide) rfl (fun ls hl => ?_)
              refine lv_iinc (v := nI (j + 1)) (lv' := [(2, .int (nI (j + 1))), (1, .int (nI j)), (3, .int (((nI ((3 * (gS M j 3)) + (M 11 j))) - (nI (3 * (gS M bb 3)))) - (nI (M 11 bb)))), (0, .ref (bd 0))]) hx hb dX3_mostUrgent_79 hl (k := 2) rfl (nI_1 j) (by decide) rfl (fun ls hl => ?_)
              refine lv_goto (tgt := 4) hx hb dX3_mostUrgent_82 (by decide) ?_
              have e7 := dif_le (3 * gS M j 3 + M 11 j) (by omega) (3 * gS M bb 3) (by omega) (M 11 bb) (by omega)
              have e6 : ¬ (3 * gS M j 3 + M 11 j ≤ 3 * gS M bb 3 + M 11 bb) := fun zz1 => c5 (e7.mpr zz1)
              have e1 : uB M (j + 1) = j + 1 := uB_run ⟨c2, c3⟩ (Or.inr (by rw [eS, eG]; omega))
              have e2 : hdI (uB M (j + 1)) = nI j := by rw [e1, hdI_s]
              exact ih (j + 1) (by omega) (by omega) ls (by rw [e2]; exact lv_sub hl [0, 1, 3] rfl)
          · refine lv_iconst (v := nI 1) hx hb dX3_mostUrgent_35 (by decide) ?_
            refine lv_goto (tgt := 68) hx hb dX3_mostUrgent_36 (by decide) ?_
            refine lv_istore_n (lv' := [(3, .int (nI 1)), (2, .int (nI j)), (1, .int (hdI (uB M j))), (0, .ref (bd 0))]) hx hb dX3_mostUrgent_68 rfl hl (by decide) rfl (fun ls hl => ?_)
            refine lv_iload_n hx hb dX3_mostUrgent_69 rfl (lv_at hl 0 rfl) ?_
            refine lv_if_le (tgt := 77) hx hb dX3_mostUrgent_70 (by decide) (fun c6 => ?_) (fun c6 => ?_)
            · exact absurd c6 (by decide)
            · refine lv_iload_n hx hb dX3_mostUrgent_73 rfl (lv_at hl 1 rfl) ?_
              refine lv_goto (tgt := 78) hx hb dX3_mostUrgent_74 (by decide) ?_
              refine lv_istore_n (lv' := [(1, .int (nI j)), (3, .int (nI 1)), (2, .int (nI j)), (0, .ref (bd 0))]) hx hb dX3_mostUrgent_78 rfl hl (by decide) rfl (fun ls hl => ?_)
              refine lv_iinc (v := nI (j + 1)) (lv' := [(2, .int (nI (j + 1))), (1, .int (nI j)), (3, .int (nI 1)), (0, .ref (bd 0))]) hx hb dX3_mostUrgent_79 hl (k := 2) rfl (nI_1 j) (by decide) rfl (fun ls hl => ?_)
              refine lv_goto (tgt := 4) hx hb dX3_mostUrgent_82 (by decide) ?_
              have e1 : uB M (j + 1) = j + 1 := uB_run ⟨c2, c3⟩ (Or.inl ((hdI_0 (by omega)).mp c4))
              have e2 : hdI (uB M (j + 1)) = nI j := by rw [e1, hdI_s]
              exact ih (j + 1) (by omega) (by omega) ls (by rw [e2]; exact lv_sub hl [0, 1, 3] rfl)
set_option maxRecDepth 100000 in
set_option maxHeartbeats 1000000 in
theorem c_X3_mostUrgent (l : Launch) (D : va_G) (k : Nat → ClassId) (bd : Nat → Nat) (M : Nat → Nat → Nat) (O : Nat → Nat → Int32) (th : Int32) (sz : Nat) (hI : zInv M)  : Met l yX3_mostUrgent wsX3_mostUrgent ({ frames := 1, cells := 0, slots := 0, locals := 26 }) (va_Pc [.ref (bd 0)] (zG D k 19 bd (cM k bd M O th) sz)) (zQw D k 19 bd (cM k bd M O (nI ((x3 (True) (True) (True))))) (va_A (zw 19 bd (cM k bd M O th)) sz) (fun r => (x3 (True) (True) (True)) = 0 → r = (hdI (uB M (M 0 1))))) 0 0 (va_A (zw 19 bd (cM k bd M O th)) sz) := by
  refine Met.ofW (cc := cX3_mostUrgent) (maxL := 4) (ret := (some .int)) (by decide) rfl ?_
  intro p e s m args below meth c s₁ B hml hv
  obtain ⟨rfl, hsz, ⟨hP, hK⟩, hD0⟩ := hv
  have hx := B.exec
  have hb := B.bytes
  have hr := B.returns
  have hts := atoms_spec (ws := wsX3_mostUrgent) B.pre
  have hown : s.vm.findClass RX3 = some m.cls := findClass_of_methodNamed B.named
  have hlocks := B.notSynchronized
  have F : CallFix p m c cX3_mostUrgent 4 s _ wsX3_mostUrgent RX3 := ⟨hx, hb, hml, hown, hts⟩
  subst hsz
  have hD := hD0.self (sz := s.heap.size)
  generalize hAe : va_A (zw 19 bd (cM k bd M O th)) s.heap.size = A at hD ⊢
  have hA : ∀ q : Nat, s.heap.size ≤ q → A q := fun q h => by rw [← hAe]; exact Or.inr h
  have hS : va_S A s.heap s.heap [] := va_S.rf
  have hl := lv_entry ([.ref (bd 0)]) (n := 4) (Nat.le_of_ble_eq_true rfl)
  rw [lg_entry_eq]
  generalize (lg_sl ([.ref (bd 0)]) ++ List.replicate (4 - (lg_sl ([.ref (bd 0)])).length) Slot.unset).toArray = ls at hl ⊢
  have hl : lv_has ls 4 [(0, .ref (bd 0))] := hl
  have hi3 : ∀ w ∈ u_ws RX3 TX3 21, w ∈ wsX3_mostUrgent := by decide +kernel
  obtain ⟨hI1, hI2, hI3, hI4, hI5, hI6, hI7⟩ := id hI
  have hk9 : ∀ x, x < 120 → M 15 x ≤ 24000 := fun x h => Nat.le_trans (hI6 x h) hI1
  refine lv_iconst (v := (-1)) hx hb dX3_mostUrgent_0 (by decide) ?_
  refine lv_istore_n (lv' := [(1, .int (-1)), (0, .ref (bd 0))]) hx hb dX3_mostUrgent_1 rfl hl (by decide) rfl (fun ls hl => ?_)
  refine lv_iconst (v := nI 0) hx hb dX3_mostUrgent_2 (by decide) ?_
  refine lv_istore_n (lv' := [(2, .int (nI 0)), (1, .int (-1)), (0, .ref (bd 0))]) hx hb dX3_mostUrgent_3 rfl hl (by decide) rfl (fun ls hl => ?_)
  refine lp_mostUrgentR F hK hI5 hI4 hk9 hI2 hP (fun ls hl => ?_) (M 0 1 + 1) 0 (Nat.zero_le _) (by omega) ls (lv_sub hl [0, 1, 2] rfl)
  refine lv_aload_n hx hb dX3_mostUrgent_85 rfl (lv_at hl 1 rfl) ?_
  refine lv_iload_n hx hb dX3_mostUrgent_86 rfl (lv_at hl 0 rfl) ?_
  refine z_mV (qc := (RX3, TX3, 21)) (As := [.int (hdI (uB M (M 0 1)))]) (rest := []) (0) F (c_X3_told l D k bd M O th _ (hdI (uB M (M 0 1)))) (cwV 1 hts gX3_mostUrgent_X3_told rfl rfl rfl (by decide +kernel) ⟨Nat.le_of_ble_eq_true rfl, Nat.le_of_ble_eq_true rfl⟩) hK hP hD hS hA (by omega) cM_0 rfl rfl hl.1 rfl (Nat.le_of_ble_eq_true rfl) dX3_mostUrgent_87 ⟨Nat.le_of_ble_eq_true rfl, Nat.le_of_ble_eq_true rfl⟩ (fun r H locs hr0 hP hD hS => ?_)
  subst hr0
  have hx0 : (x3 (True) (True) (True)) = 0 := x3_0 trivial trivial trivial
  have eW : cM k bd M O (nI ((x3 (True) (True) (True)))) = cM k bd M O (nI 0) := by rw [x3_0 trivial trivial trivial] <;> rfl
  rw [← eW] at hP hD
  refine W.widen (k := 0) (n := 0) (Nat.le_of_ble_eq_true rfl) (Nat.le_of_ble_eq_true rfl) ?_
  exact W.iret (v := hdI (uB M (M 0 1))) hx hb hr (fun t ht hW => ⟨⟨hdI (uB M (M 0 1)), (), rfl, fun _ => rfl, ⟨by rw [ht]; exact hP, va_K.moved hW.alike hK⟩, hD⟩, hS.F ht⟩) hS.2.2 dX3_mostUrgent_90
