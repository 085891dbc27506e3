/-! THE REFERENCE: what it reads. -/
/-- one of the first n contracts covers -/
def covN (M : Nat → Nat → Nat) (i kd d n : Nat) : Prop := ∃ j, j < n ∧ (M 4 (8 * i + j)).testBit kd = true ∧ M 5 (8 * i + j) ≤ d ∧ d ≤ M 6 (8 * i + j)
theorem covN_y {M : Nat → Nat → Nat} {i kd d n : Nat} (h : (M 4 (8 * i + n)).testBit kd = true ∧ M 5 (8 * i + n) ≤ d ∧ d ≤ M 6 (8 * i + n)) : covN M i kd d (n + 1) := ⟨n, Nat.lt_succ_self n, h⟩
theorem covN_m {M : Nat → Nat → Nat} {i kd d n : Nat} (h : covN M i kd d n) : covN M i kd d (n + 1) := by
  obtain ⟨j, h1, h2⟩ := h
  exact ⟨j, by omega, h2⟩
theorem covN_n {M : Nat → Nat → Nat} {i kd d n : Nat} (h : ¬ covN M i kd d n) (h2 : ¬ ((M 4 (8 * i + n)).testBit kd = true ∧ M 5 (8 * i + n) ≤ d ∧ d ≤ M 6 (8 * i + n))) : ¬ covN M i kd d (n + 1) := by
  rintro ⟨j, h1, h3⟩
  by_cases q : j < n
  · exact h ⟨j, q, h3⟩
  · obtain rfl : j = n := by omega
    exact h2 h3
theorem covN_0 {M : Nat → Nat → Nat} {i kd d : Nat} : ¬ covN M i kd d 0 := by
  rintro ⟨j, h1, -⟩; omega
theorem tb_1 {b : Bool} : b.toNat = 1 ↔ b = true := by cases b <;> simp
theorem nIle {a b : Nat} (ha : a < 2 ^ 31) (hb : b < 2 ^ 31) : (nI a ≤ nI b) ↔ a ≤ b := nI_leI ha hb
set_option maxRecDepth 100000 in
set_option maxHeartbeats 1000000 in
theorem lp_covered {p : Program} {l : Launch} {e : Env} {s : State} {m : MethodId} {args : Array Value} {below : List Frame} {meth : Method} {c : Code} {H : Heap} {locs : List Loc} {Q : State → Prop} {D : va_G} {k : Nat → ClassId} {bd : Nat → Nat} {M : Nat → Nat → Nat} {O : Nat → Nat → Int32} {th : Int32} (F : CallFix p m c cX3_covered 6 s args wsX3_covered RX3) (hK : va_K D vwCl (tyL k) s)
    {i kd d : Nat} (hs : zSi M i) (hco : zCo M i) (hi : i < 4) (hkd : kd < 4) (hd : d < 2 ^ 31)
    (hP : va_P D vwCl (zw 19 bd (cM k bd M O th)) H)
    (k0 : ∀ (ls : Array Slot), lv_has ls 6 [(4, .int (bI (covN M i kd d (M 7 i))))] → W p l e (headSpec wsX3_covered ({ frames := 1, cells := 0, slots := 0, locals := 22 })).room s m args below meth c H locs 0 0 Q (F0 m 79 ls [])) :
    ∀ (fu j : Nat), j ≤ M 7 i → M 7 i < j + fu → ∀ (ls : Array Slot), lv_has ls 6 [(5, .int (nI (8 * i + j))), (4, .int (bI (covN M i kd d j))), (0, .ref (bd 0)), (1, .int (nI i)), (2, .int (nI kd)), (3, .int (nI d))] → W p l e (headSpec wsX3_covered ({ frames := 1, cells := 0, slots := 0, locals := 22 })).room s m args below meth c H locs 0 0 Q (F0 m 9 ls []) := by
  have hx := F.1
  have hb := F.2.1
  have hts := F.2.2.2.2
  have hown := F.2.2.2.1
  have hi3 : ∀ w ∈ u_ws RX3 TX3 21, w ∈ wsX3_covered := by decide +kernel
  obtain ⟨hd1, hd2, hd3, hd4⟩ := id hs
  intro fu
  induction fu with
  | zero => intro j h1 h2; omega
  | succ fu ih =>
    intro j h1 h2 ls hl
    have hj9 : 8 * i + j < 32 ∨ j = M 7 i := by omega
    refine lv_iload hx hb dX3_covered_9 (lv_at hl 0 rfl) ?_
    refine lv_bipush (v := nI 8) hx hb dX3_covered_11 (by decide) ?_
    refine lv_iload_n hx hb dX3_covered_13 rfl (lv_at hl 3 rfl) ?_
    refine z_mul F dX3_covered_14 ?_
    refine lv_aload_n hx hb dX3_covered_15 rfl (lv_at hl 2 rfl) ?_
    refine z_get (C := RX3) (T := TX3) (N := 21) (ci := 3) (fs := mObj bd M th) (v := .ref (bd 7)) F hK hP hi3 rfl (0) 7 (by omega) cM_0 (by decide) rfl (by decide +kernel) dX3_covered_16 ?_
    refine lv_iload_n hx hb dX3_covered_19 rfl (lv_at hl 3 rfl) ?_
    refine z_iald (v := nI (M 7 i)) (cA := k 0) (len := 4) (g := mA M O 7) F hK hP (7) 0 (by omega) rfl rfl (i := nI i) i rfl (by omega) (by decide) rfl dX3_covered_20 ?_
    refine z_add F dX3_covered_21 ?_
    refine z_icmp_ge (tgt := 79) F (by omega) (by omega) dX3_covered_22 (by decide) (fun c1 => ?_) (fun c1 => ?_)
    · obtain rfl : j = M 7 i := by omega
      exact k0 ls (lv_sub hl [1] rfl)
    · refine lv_iload hx hb dX3_covered_25 (lv_at hl 1 rfl) ?_
      refine z_ifb_ne (tgt := 66) F dX3_covered_27 (by decide) (fun c2 => ?_) (fun c2 => ?_)
      · refine lv_iconst (v := nI 1) hx hb dX3_covered_66 (by decide) ?_
        refine lv_goto (tgt := 71) hx hb dX3_covered_67 (by decide) ?_
        refine z_top (show nI 1 = bI (covN M i kd d (j + 1)) from (bI_t (covN_m c2)).symm) ?_
        refine lv_istore (lv' := [(4, .int (bI (covN M i kd d (j + 1)))), (5, .int (nI (8 * i + j))), (0, .ref (bd 0)), (1, .int (nI i)), (2, .int (nI kd)), (3, .int (nI d))]) hx hb dX3_covered_71 hl (by decide) rfl (fun ls hl => ?_)
        refine lv_iinc (v := nI ((8 * i + j) + 1)) (lv' := [(5, .int (nI ((8 * i + j) + 1))), (4, .int (bI (covN M i kd d (j + 1)))), (0, .ref (bd 0)), (1, .int (nI i)), (2, .int (nI kd)), (3, .int (nI d))]) hx hb dX3_covered_73 hl (k := 1) rfl (nI_1 (8 * i + j)) (by decide) rfl (fun ls hl => ?_)
        refine lv_goto (tgt := 9) hx hb dX3_covered_76 (by decide) ?_
        exact ih (j + 1) (by omega) (by omega) ls (lv_sub hl [0, 1, 2, 3, 4, 5] rfl)
      · have hcj := hco j (by omega)
        refine lv_aload_n hx hb dX3_covered_30 rfl (lv_at hl 2 rfl) ?_
        refine z_get (C := RX3) (T := TX3) (N := 21) (ci := 3) (fs := mObj bd M th) (v := .ref (bd 4)) F hK hP hi3 rfl (0) 4 (by omega) cM_0 (by decide) rfl (by decide +kernel) dX3_covered_31 ?_
        refine lv_iload hx hb dX3_covered_34 (lv_at hl 0 rfl) ?_
        refine z_iald (v := nI (M 4 (8 * i + j))) (cA := k 0) (len := 32) (g := mA M O 4) F hK hP (4) 0 (by omega) rfl rfl (i := nI (8 * i + j)) (8 * i + j) rfl (by omega) (by decide) rfl dX3_covered_36 ?_
        refine lv_iload_n hx hb dX3_covered_37 rfl (lv_at hl 4 rfl) ?_
        refine lv_ishr hx hb dX3_covered_38 ?_
        refine lv_iconst (v := nI 1) hx hb dX3_covered_39 (by decide) ?_
        refine lv_iand hx hb dX3_covered_40 ?_
        refine z_top (show (nI (M 4 (8 * i + j)) >>> (nI kd &&& 31)) &&& nI 1 = nI (((M 4 (8 * i + j)).testBit kd).toNat) from bit_shr _ (by omega) _ (by omega)) ?_
        have hbt := Bool.toNat_le ((M 4 (8 * i + j)).testBit kd)
        refine lv_iconst (v := nI 1) hx hb dX3_covered_41 (by decide) ?_
        refine z_icmp_ne (tgt := 70) F (by omega) (by omega) dX3_covered_42 (by decide) (fun c3 => ?_) (fun c3 => ?_)
        · refine lv_iconst (v := nI 0) hx hb dX3_covered_70 (by decide) ?_
          refine z_top (show nI 0 = bI (covN M i kd d (j + 1)) from (bI_f (covN_n c2 (fun zz1 => c3 (tb_1.mpr zz1.1)))).symm) ?_
          refine lv_istore (lv' := [(4, .int (bI (covN M i kd d (j + 1)))), (5, .int (nI (8 * i + j))), (0, .ref (bd 0)), (1, .int (nI i)), (2, .int (nI kd)), (3, .int (nI d))]) hx hb dX3_covered_71 hl (by decide) rfl (fun ls hl => ?_)
          refine lv_iinc (v := nI ((8 * i + j) + 1)) (lv' := [(5, .int (nI ((8 * i + j) + 1))), (4, .int (bI (covN M i kd d (j + 1)))), (0, .ref (bd 0)), (1, .int (nI i)), (2, .int (nI kd)), (3, .int (nI d))]) hx hb dX3_covered_73 hl (k := 1) rfl (nI_1 (8 * i + j)) (by decide) rfl (fun ls hl => ?_)
          refine lv_goto (tgt := 9) hx hb dX3_covered_76 (by decide) ?_
          exact ih (j + 1) (by omega) (by omega) ls (lv_sub hl [0, 1, 2, 3, 4, 5] rfl)
        · refine lv_iload_n hx hb dX3_covered_45 rfl (lv_at hl 5 rfl) ?_
          refine lv_aload_n hx hb dX3_covered_46 rfl (lv_at hl 2 rfl) ?_
          refine z_get (C := RX3) (T := TX3) (N := 21) (ci := 3) (fs := mObj bd M th) (v := .ref (bd 5)) F hK hP hi3 rfl (0) 5 (by omega) cM_0 (by decide) rfl (by decide +kernel) dX3_covered_47 ?_
          refine lv_iload hx hb dX3_covered_50 (lv_at hl 0 rfl) ?_
          refine z_iald (v := nI (M 5 (8 * i + j))) (cA := k 0) (len := 32) (g := mA M O 5) F hK hP (5) 0 (by omega) rfl rfl (i := nI (8 * i + j)) (8 * i + j) rfl (by omega) (by decide) rfl dX3_covered_52 ?_
          refine lv_aload_n hx hb dX3_covered_53 rfl (lv_at hl 2 rfl) ?_
          refine z_get (C := RX3) (T := TX3) (N := 21) (ci := 3) (fs := mObj bd M th) (v := .ref (bd 6)) F hK hP hi3 rfl (0) 6 (by omega) cM_0 (by decide) rfl (by decide +kernel) dX3_covered_54 ?_
          refine lv_iload hx hb dX3_covered_57 (lv_at hl 0 rfl) ?_
          refine z_iald (v := nI (M 6 (8 * i + j))) (cA := k 0) (len := 32) (g := mA M O 6) F hK hP (6) 0 (by omega) rfl rfl (i := nI (8 * i + j)) (8 * i + j) rfl (by omega) (by decide) rfl dX3_covered_59 ?_
          refine z_cS (As := [.int (nI d), .int (nI (M 5 (8 * i + j))), .int (nI (M 6 (8 * i + j)))]) (rest := []) F (c_X3_in l (nI d) (nI (M 5 (8 * i + j))) (nI (M 6 (8 * i + j)))) (va_cwS 3 hts gX3_covered_X3_in rfl rfl rfl (by decide +kernel) ⟨Nat.le_of_ble_eq_true rfl, Nat.le_of_ble_eq_true rfl⟩) rfl hl.1 rfl (Nat.le_of_ble_eq_true rfl) dX3_covered_60 ⟨Nat.le_of_ble_eq_true rfl, Nat.le_of_ble_eq_true rfl⟩ (fun r hr => ?_)
          subst hr
          refine z_ifb_eq (tgt := 70) F dX3_covered_63 (by decide) (fun c4 => ?_) (fun c4 => ?_)
          · refine lv_iconst (v := nI 0) hx hb dX3_covered_70 (by decide) ?_
            refine z_top (show nI 0 = bI (covN M i kd d (j + 1)) from (bI_f (covN_n c2 (fun zz1 => c4 ⟨(nIle (by omega) (by omega)).mpr zz1.2.1, (nIle (by omega) (by omega)).mpr zz1.2.2⟩))).symm) ?_
            refine lv_istore (lv' := [(4, .int (bI (covN M i kd d (j + 1)))), (5, .int (nI (8 * i + j))), (0, .ref (bd 0)), (1, .int (nI i)), (2, .int (nI kd)), (3, .int (nI d))]) hx hb dX3_covered_71 hl (by decide) rfl (fun ls hl => ?_)
            refine lv_iinc (v := nI ((8 * i + j) + 1)) (lv' := [(5, .int (nI ((8 * i + j) + 1))), (4, .int (bI (covN M i kd d (j + 1)))), (0, .ref (bd 0)), (1, .int (nI i)), (2, .int (nI kd)), (3, .int (nI d))]) hx hb dX3_covered_73 hl (k := 1) rfl (nI_1 (8 * i + j)) (by decide) rfl (fun ls hl => ?_)
            refine lv_goto (tgt := 9) hx hb dX3_covered_76 (by decide) ?_
            exact ih (j + 1) (by omega) (by omega) ls (lv_sub hl [0, 1, 2, 3, 4, 5] rfl)
          · refine lv_iconst (v := nI 1) hx hb dX3_covered_66 (by decide) ?_
            refine lv_goto (tgt := 71) hx hb dX3_covered_67 (by decide) ?_
            refine z_top (show nI 1 = bI (covN M i kd d (j + 1)) from (bI_t (covN_y ⟨tb_1.mp c3, (nIle (by omega) (by omega)).mp c4.1, (nIle (by omega) (by omega)).mp c4.2⟩)).symm) ?_
            refine lv_istore (lv' := [(4, .int (bI (covN M i kd d (j + 1)))), (5, .int (nI (8 * i + j))), (0, .ref (bd 0)), (1, .int (nI i)), (2, .int (nI kd)), (3, .int (nI d))]) hx hb dX3_covered_71 hl (by decide) rfl (fun ls hl => ?_)
            refine lv_iinc (v := nI ((8 * i + j) + 1)) (lv' := [(5, .int (nI ((8 * i + j) + 1))), (4, .int (bI (covN M i kd d (j + 1)))), (0, .ref (bd 0)), (1, .int (nI i)), (2, .int (nI kd)), (3, .int (nI d))]) hx hb dX3_covered_73 hl (k := 1) rfl (nI_1 (8 * i + j)) (by decide) rfl (fun ls hl => ?_)
            refine lv_goto (tgt := 9) hx hb dX3_covered_76 (by decide) ?_
            exact ih (j + 1) (by omega) (by omega) ls (lv_sub hl [0, 1, 2, 3, 4, 5] rfl)
set_option maxRecDepth 100000 in
set_option maxHeartbeats 1000000 in
theorem c_X3_covered (l : Launch) (D : va_G) (k : Nat → ClassId) (bd : Nat → Nat) (M : Nat → Nat → Nat) (O : Nat → Nat → Int32) (th : Int32) (i kd d : Nat) (hs : zSi M i) (hco : zCo M i) (hi : i < 4) (hkd : kd < 4) (hd : d < 2 ^ 31) : Met l yX3_covered wsX3_covered ({ frames := 1, cells := 0, slots := 0, locals := 22 }) (va_Pc [.ref (bd 0), .int (nI i), .int (nI kd), .int (nI d)] (zR D k 19 bd (cM k bd M O th))) (vp_Si (fun r => r = bI (cov M i kd d))) 0 0 (fun _ => False) := by
  refine Met.ofW (cc := cX3_covered) (maxL := 6) (ret := (some .boolean)) (by decide) rfl ?_
  intro p e s m args below meth c s₁ B hml hv
  obtain ⟨rfl, hP, hK⟩ := hv
  have hx := B.exec
  have hb := B.bytes
  have hr := B.returns
  have hts := atoms_spec (ws := wsX3_covered) B.pre
  have hown : s.vm.findClass RX3 = some m.cls := findClass_of_methodNamed B.named
  have hlocks := B.notSynchronized
  have F : CallFix p m c cX3_covered 6 s _ wsX3_covered RX3 := ⟨hx, hb, hml, hown, hts⟩
  have hl := lv_entry ([.ref (bd 0), .int (nI i), .int (nI kd), .int (nI d)]) (n := 6) (Nat.le_of_ble_eq_true rfl)
  rw [lg_entry_eq]
  generalize (lg_sl ([.ref (bd 0), .int (nI i), .int (nI kd), .int (nI d)]) ++ List.replicate (6 - (lg_sl ([.ref (bd 0), .int (nI i), .int (nI kd), .int (nI d)])).length) Slot.unset).toArray = ls at hl ⊢
  have hl : lv_has ls 6 [(0, .ref (bd 0)), (1, .int (nI i)), (2, .int (nI kd)), (3, .int (nI d))] := hl
  have hi3 : ∀ w ∈ u_ws RX3 TX3 21, w ∈ wsX3_covered := by decide +kernel
  refine lv_iconst (v := nI 0) hx hb dX3_covered_0 (by decide) ?_
  refine z_top (show nI 0 = bI (covN M i kd d 0) from (bI_f covN_0).symm) ?_
  refine lv_istore (lv' := [(4, .int (bI (covN M i kd d 0))), (0, .ref (bd 0)), (1, .int (nI i)), (2, .int (nI kd)), (3, .int (nI d))]) hx hb dX3_covered_1 hl (by decide) rfl (fun ls hl => ?_)
  refine lv_bipush (v := nI 8) hx hb dX3_covered_3 (by decide) ?_
  refine lv_iload_n hx hb dX3_covered_5 rfl (lv_at hl 2 rfl) ?_
  refine z_mul F dX3_covered_6 ?_
  refine lv_istore (lv' := [(5, .int (nI (8 * i))), (4, .int (bI (covN M i kd d 0))), (0, .ref (bd 0)), (1, .int (nI i)), (2, .int (nI kd)), (3, .int (nI d))]) hx hb dX3_covered_7 hl (by decide) rfl (fun ls hl => ?_)
  refine lp_covered F hK hs hco hi hkd hd hP (fun ls hl => ?_) (M 7 i + 1) 0 (Nat.zero_le _) (by omega) ls (lv_sub hl [0, 1, 2, 3, 4, 5] rfl)
  refine lv_iload hx hb dX3_covered_79 (lv_at hl 0 rfl) ?_
  exact W.zret (v := bI (covN M i kd d (M 7 i))) hx hb hr bI_n (fun t ht hW => ⟨bI (covN M i kd d (M 7 i)), rfl, rfl, ht⟩) (fun q h => by cases h) dX3_covered_81
set_option maxRecDepth 100000 in
set_option maxHeartbeats 1000000 in
theorem c_X3_counts (l : Launch) (D : va_G) (k : Nat → ClassId) (bd : Nat → Nat) (M : Nat → Nat → Nat) (O : Nat → Nat → Int32) (th : Int32) (i h : Nat) (hs : zSi M i) (hi : i < 4) (hh : h < 2 ^ 31) : Met l yX3_counts wsX3_counts ({ frames := 1, cells := 0, slots := 0, locals := 22 }) (va_Pc [.ref (bd 0), .int (nI i), .int (nI h)] (zR D k 19 bd (cM k bd M O th))) (vp_Si (fun r => r = bI (hrB M i h = true))) 0 0 (fun _ => False) := by
  refine Met.ofW (cc := cX3_counts) (maxL := 3) (ret := (some .boolean)) (by decide) rfl ?_
  intro p e s m args below meth c s₁ B hml hv
  obtain ⟨rfl, hP, hK⟩ := hv
  have hx := B.exec
  have hb := B.bytes
  have hr := B.returns
  have hts := atoms_spec (ws := wsX3_counts) B.pre
  have hown : s.vm.findClass RX3 = some m.cls := findClass_of_methodNamed B.named
  have hlocks := B.notSynchronized
  have F : CallFix p m c cX3_counts 3 s _ wsX3_counts RX3 := ⟨hx, hb, hml, hown, hts⟩
  have hl := lv_entry ([.ref (bd 0), .int (nI i), .int (nI h)]) (n := 3) (Nat.le_of_ble_eq_true rfl)
  rw [lg_entry_eq]
  generalize (lg_sl ([.ref (bd 0), .int (nI i), .int (nI h)]) ++ List.replicate (3 - (lg_sl ([.ref (bd 0), .int (nI i), .int (nI h)])).length) Slot.unset).toArray = ls at hl ⊢
  have hl : lv_has ls 3 [(0, .ref (bd 0)), (1, .int (nI i)), (2, .int (nI h))] := hl
  have hi3 : ∀ w ∈ u_ws RX3 TX3 21, w ∈ wsX3_counts := by decide +kernel
  obtain ⟨hd1, hd2, hd3, hd4⟩ := id hs
  refine lv_aload_n hx hb dX3_counts_0 rfl (lv_at hl 0 rfl) ?_
  refine z_get (C := RX3) (T := TX3) (N := 21) (ci := 3) (fs := mObj bd M th) (v := .ref (bd 1)) F hK hP hi3 rfl (0) 1 (by omega) cM_0 (by decide) rfl (by decide +kernel) dX3_counts_1 ?_
  refine lv_iload_n hx hb dX3_counts_4 rfl (lv_at hl 1 rfl) ?_
  refine z_iald (v := nI (M 1 i)) (cA := k 0) (len := 4) (g := mA M O 1) F hK hP (1) 0 (by omega) rfl rfl (i := nI i) i rfl (by omega) (by decide) rfl dX3_counts_5 ?_
  refine lv_iload_n hx hb dX3_counts_6 rfl (lv_at hl 2 rfl) ?_
  refine lv_bipush (v := nI 24) hx hb dX3_counts_7 (by decide) ?_
  refine z_div F (by omega) (by omega) (by omega) dX3_counts_9 ?_
  refine lv_bipush (v := nI 7) hx hb dX3_counts_10 (by decide) ?_
  refine z_rem F (by omega) (by omega) (by omega) dX3_counts_12 ?_
  refine lv_ishr hx hb dX3_counts_13 ?_
  refine lv_iconst (v := nI 1) hx hb dX3_counts_14 (by decide) ?_
  refine lv_iand hx hb dX3_counts_15 ?_
  refine z_top (show (nI (M 1 i) >>> (nI (h / 24 % 7) &&& 31)) &&& nI 1 = nI (((M 1 i).testBit (h / 24 % 7)).toNat) from bit_shr _ hd1 _ (Nat.mod_lt _ (by decide))) ?_
  have hbt := Bool.toNat_le ((M 1 i).testBit (h / 24 % 7))
  refine lv_iconst (v := nI 1) hx hb dX3_counts_16 (by decide) ?_
  refine z_icmp_ne (tgt := 46) F (by omega) (by omega) dX3_counts_17 (by decide) (fun c5 => ?_) (fun c5 => ?_)
  · refine lv_iconst (v := nI 0) hx hb dX3_counts_46 (by decide) ?_
    exact W.zret (v := nI 0) hx hb hr rfl (fun t ht hW => ⟨nI 0, rfl, (bI_f (fun zz1 => c5 (tb_1.mpr (by unfold hrB at zz1; simp only [Bool.and_eq_true] at zz1; exact zz1.1)))).symm, ht⟩) (fun q h => by cases h) dX3_counts_47
  · refine lv_iload_n hx hb dX3_counts_20 rfl (lv_at hl 2 rfl) ?_
    refine lv_bipush (v := nI 24) hx hb dX3_counts_21 (by decide) ?_
    refine z_rem F (by omega) (by omega) (by omega) dX3_counts_23 ?_
    refine lv_aload_n hx hb dX3_counts_24 rfl (lv_at hl 0 rfl) ?_
    refine z_get (C := RX3) (T := TX3) (N := 21) (ci := 3) (fs := mObj bd M th) (v := .ref (bd 2)) F hK hP hi3 rfl (0) 2 (by omega) cM_0 (by decide) rfl (by decide +kernel) dX3_counts_25 ?_
    refine lv_iload_n hx hb dX3_counts_28 rfl (lv_at hl 1 rfl) ?_
    refine z_iald (v := nI (M 2 i)) (cA := k 0) (len := 4) (g := mA M O 2) F hK hP (2) 0 (by omega) rfl rfl (i := nI i) i rfl (by omega) (by decide) rfl dX3_counts_29 ?_
    refine lv_aload_n hx hb dX3_counts_30 rfl (lv_at hl 0 rfl) ?_
    refine z_get (C := RX3) (T := TX3) (N := 21) (ci := 3) (fs := mObj bd M th) (v := .ref (bd 3)) F hK hP hi3 rfl (0) 3 (by omega) cM_0 (by decide) rfl (by decide +kernel) dX3_counts_31 ?_
    refine lv_iload_n hx hb dX3_counts_34 rfl (lv_at hl 1 rfl) ?_
    refine z_iald (v := nI (M 3 i)) (cA := k 0) (len := 4) (g := mA M O 3) F hK hP (3) 0 (by omega) rfl rfl (i := nI i) i rfl (by omega) (by decide) rfl dX3_counts_35 ?_
    refine z_cS (As := [.int (nI (h % 24)), .int (nI (M 2 i)), .int (nI (M 3 i))]) (rest := []) F (c_X3_in l (nI (h % 24)) (nI (M 2 i)) (nI (M 3 i))) (va_cwS 3 hts gX3_counts_X3_in rfl rfl rfl (by decide +kernel) ⟨Nat.le_of_ble_eq_true rfl, Nat.le_of_ble_eq_true rfl⟩) rfl hl.1 rfl (Nat.le_of_ble_eq_true rfl) dX3_counts_36 ⟨Nat.le_of_ble_eq_true rfl, Nat.le_of_ble_eq_true rfl⟩ (fun r hr => ?_)
    subst hr
    refine z_ifb_eq (tgt := 46) F dX3_counts_39 (by decide) (fun c6 => ?_) (fun c6 => ?_)
    · refine lv_iconst (v := nI 0) hx hb dX3_counts_46 (by decide) ?_
      exact W.zret (v := nI 0) hx hb hr rfl (fun t ht hW => ⟨nI 0, rfl, (bI_f (fun zz1 => c6 (by unfold hrB at zz1; simp only [Bool.and_eq_true, decide_eq_true_eq] at zz1; exact ⟨(nIle (by omega) (by omega)).mpr zz1.2.1, (nIle (by omega) (by omega)).mpr zz1.2.2⟩))).symm, ht⟩) (fun q h => by cases h) dX3_counts_47
    · refine lv_iconst (v := nI 1) hx hb dX3_counts_42 (by decide) ?_
      refine lv_goto (tgt := 47) hx hb dX3_counts_43 (by decide) ?_
      exact W.zret (v := nI 1) hx hb hr rfl (fun t ht hW => ⟨nI 1, rfl, (bI_t (by unfold hrB; rw [tb_1.mp c5, decide_eq_true ((nIle (by omega) (by omega)).mp c6.1), decide_eq_true ((nIle (by omega) (by omega)).mp c6.2)]; rfl)).symm, ht⟩) (fun q h => by cases h) dX3_counts_47
set_option maxRecDepth 100000 in
set_option maxHeartbeats 1000000 in
theorem c_X3_missed (l : Launch) (D : va_G) (k : Nat → ClassId) (bd : Nat → Nat) (M : Nat → Nat → Nat) (O : Nat → Nat → Int32) (th : Int32) (c0 : Nat) (hca : zCa M c0) (hc : c0 < 40) (st : Nat) (hst : st < 3) (hp : zPr M) (hk9 : ∀ x, x < 120 → M 15 x ≤ 24000) : Met l yX3_missed wsX3_missed ({ frames := 0, cells := 0, slots := 0, locals := 0 }) (va_Pc [.ref (bd 0), .int (nI c0), .int (nI st)] (zR D k 19 bd (cM k bd M O th))) (vp_Si (fun r => r = bI (M 8 (3 * M 11 c0 + st) < M 15 (3 * c0 + st)))) 0 0 (fun _ => False) := by
  refine Met.ofW (cc := cX3_missed) (maxL := 3) (ret := (some .boolean)) (by decide) rfl ?_
  intro p e s m args below meth c s₁ B hml hv
  obtain ⟨rfl, hP, hK⟩ := hv
  have hx := B.exec
  have hb := B.bytes
  have hr := B.returns
  have hts := atoms_spec (ws := wsX3_missed) B.pre
  have hown : s.vm.findClass RX3 = some m.cls := findClass_of_methodNamed B.named
  have hlocks := B.notSynchronized
  have F : CallFix p m c cX3_missed 3 s _ wsX3_missed RX3 := ⟨hx, hb, hml, hown, hts⟩
  have hl := lv_entry ([.ref (bd 0), .int (nI c0), .int (nI st)]) (n := 3) (Nat.le_of_ble_eq_true rfl)
  rw [lg_entry_eq]
  generalize (lg_sl ([.ref (bd 0), .int (nI c0), .int (nI st)]) ++ List.replicate (3 - (lg_sl ([.ref (bd 0), .int (nI c0), .int (nI st)])).length) Slot.unset).toArray = ls at hl ⊢
  have hl : lv_has ls 3 [(0, .ref (bd 0)), (1, .int (nI c0)), (2, .int (nI st))] := hl
  have hi3 : ∀ w ∈ u_ws RX3 TX3 21, w ∈ wsX3_missed := by decide +kernel
  obtain ⟨hc1, hc2, hc3, hc4, hc5, hc6, hc7⟩ := id hca
  refine lv_aload_n hx hb dX3_missed_0 rfl (lv_at hl 0 rfl) ?_
  refine z_get (C := RX3) (T := TX3) (N := 21) (ci := 3) (fs := mObj bd M th) (v := .ref (bd 15)) F hK hP hi3 rfl (0) 15 (by omega) cM_0 (by decide) rfl (by decide +kernel) dX3_missed_1 ?_
  refine lv_iconst (v := nI 3) hx hb dX3_missed_4 (by decide) ?_
  refine lv_iload_n hx hb dX3_missed_5 rfl (lv_at hl 1 rfl) ?_
  refine z_mul F dX3_missed_6 ?_
  refine lv_iload_n hx hb dX3_missed_7 rfl (lv_at hl 2 rfl) ?_
  refine z_add F dX3_missed_8 ?_
  refine z_iald (v := nI (M 15 ((3 * c0) + st))) (cA := k 0) (len := 120) (g := mA M O 15) F hK hP (15) 0 (by omega) rfl rfl (i := nI ((3 * c0) + st)) ((3 * c0) + st) rfl (by omega) (by decide) rfl dX3_missed_9 ?_
  refine lv_aload_n hx hb dX3_missed_10 rfl (lv_at hl 0 rfl) ?_
  refine z_get (C := RX3) (T := TX3) (N := 21) (ci := 3) (fs := mObj bd M th) (v := .ref (bd 8)) F hK hP hi3 rfl (0) 8 (by omega) cM_0 (by decide) rfl (by decide +kernel) dX3_missed_11 ?_
  refine lv_iconst (v := nI 3) hx hb dX3_missed_14 (by decide) ?_
  refine lv_aload_n hx hb dX3_missed_15 rfl (lv_at hl 0 rfl) ?_
  refine z_get (C := RX3) (T := TX3) (N := 21) (ci := 3) (fs := mObj bd M th) (v := .ref (bd 11)) F hK hP hi3 rfl (0) 11 (by omega) cM_0 (by decide) rfl (by decide +kernel) dX3_missed_16 ?_
  refine lv_iload_n hx hb dX3_missed_19 rfl (lv_at hl 1 rfl) ?_
  refine z_iald (v := nI (M 11 c0)) (cA := k 0) (len := 40) (g := mA M O 11) F hK hP (11) 0 (by omega) rfl rfl (i := nI c0) c0 rfl hc (by decide) rfl dX3_missed_20 ?_
  refine z_mul F dX3_missed_21 ?_
  refine lv_iload_n hx hb dX3_missed_22 rfl (lv_at hl 2 rfl) ?_
  refine z_add F dX3_missed_23 ?_
  refine z_iald (v := nI (M 8 ((3 * (M 11 c0)) + st))) (cA := k 0) (len := 9) (g := mA M O 8) F hK hP (8) 0 (by omega) rfl rfl (i := nI ((3 * (M 11 c0)) + st)) ((3 * (M 11 c0)) + st) rfl (by omega) (by decide) rfl dX3_missed_24 ?_
  have hp9 := hp (3 * M 11 c0 + st) (by omega)
  have hk8 := hk9 (3 * c0 + st) (by omega)
  refine z_icmp_le (tgt := 32) F (by omega) (by omega) dX3_missed_25 (by decide) (fun c7 => ?_) (fun c7 => ?_)
  · refine lv_iconst (v := nI 0) hx hb dX3_missed_32 (by decide) ?_
    exact W.zret (v := nI 0) hx hb hr rfl (fun t ht hW => ⟨nI 0, rfl, (bI_f (by omega)).symm, ht⟩) (fun q h => by cases h) dX3_missed_33
  · refine lv_iconst (v := nI 1) hx hb dX3_missed_28 (by decide) ?_
    refine lv_goto (tgt := 33) hx hb dX3_missed_29 (by decide) ?_
    exact W.zret (v := nI 1) hx hb hr rfl (fun t ht hW => ⟨nI 1, rfl, (bI_t (by omega)).symm, ht⟩) (fun q h => by cases h) dX3_missed_33
theorem mN_y {M : Nat → Nat → Nat} {c s : Nat} (h : s < M 16 c ∧ M 8 (3 * M 11 c + s) < M 15 (3 * c + s)) : mN M c (s + 1) = mN M c s + 1 := by
  show mN M c s + (if _ then 1 else 0) = _
  rw [if_pos h]
theorem mN_n {M : Nat → Nat → Nat} {c s : Nat} (h : ¬ (s < M 16 c ∧ M 8 (3 * M 11 c + s) < M 15 (3 * c + s))) : mN M c (s + 1) = mN M c s + 0 := by
  show mN M c s + (if _ then 1 else 0) = _
  rw [if_neg h]
set_option maxRecDepth 100000 in
set_option maxHeartbeats 1000000 in
theorem lp_missedOf {p : Program} {l : Launch} {e : Env} {s : State} {m : MethodId} {args : Array Value} {below : List Frame} {meth : Method} {c : Code} {H : Heap} {locs : List Loc} {Q : State → Prop} {D : va_G} {k : Nat → ClassId} {bd : Nat → Nat} {M : Nat → Nat → Nat} {O : Nat → Nat → Int32} {th : Int32} (F : CallFix p m c cX3_missedOf 4 s args wsX3_missedOf RX3) (hK : va_K D vwCl (tyL k) s)
    {c0 : Nat} (hca : zCa M c0) (hc : c0 < 40) (hp : zPr M) (hk9 : ∀ x, x < 120 → M 15 x ≤ 24000)
    (hP : va_P D vwCl (zw 19 bd (cM k bd M O th)) H)
    (k0 : ∀ (ls : Array Slot), lv_has ls 4 [(2, .int (nI (mN M c0 3)))] → W p l e (headSpec wsX3_missedOf ({ frames := 1, cells := 0, slots := 0, locals := 22 })).room s m args below meth c H locs 0 0 Q (F0 m 45 ls [])) :
    ∀ (fu j : Nat), j ≤ 3 → 3 < j + fu → ∀ (ls : Array Slot), lv_has ls 4 [(3, .int (nI j)), (2, .int (nI (mN M c0 j))), (0, .ref (bd 0)), (1, .int (nI c0))] → W p l e (headSpec wsX3_missedOf ({ frames := 1, cells := 0, slots := 0, locals := 22 })).room s m args below meth c H locs 0 0 Q (F0 m 4 ls []) := by
  have hx := F.1
  have hb := F.2.1
  have hts := F.2.2.2.2
  have hown := F.2.2.2.1
  have hi3 : ∀ w ∈ u_ws RX3 TX3 21, w ∈ wsX3_missedOf := by decide +kernel
  obtain ⟨hc1, hc2, hc3, hc4, hc5, hc6, hc7⟩ := id hca
  intro fu
  induction fu with
  | zero => intro j h1 h2; omega
  | succ fu ih =>
    intro j h1 h2 ls hl
    have hmn := mN_le M c0 j
    refine lv_iload_n hx hb dX3_missedOf_4 rfl (lv_at hl 0 rfl) ?_
    refine lv_iconst (v := nI 2) hx hb dX3_missedOf_5 (by decide) ?_
    refine z_icmp_gt (tgt := 45) F (by omega) (by omega) dX3_missedOf_6 (by decide) (fun c8 => ?_) (fun c8 => ?_)
    · obtain rfl : j = 3 := by omega
      exact k0 ls (lv_sub hl [1] rfl)
    · refine lv_iload_n hx hb dX3_missedOf_9 rfl (lv_at hl 1 rfl) ?_
      refine lv_aload_n hx hb dX3_missedOf_10 rfl (lv_at hl 2 rfl) ?_
      refine z_get (C := RX3) (T := TX3) (N := 21) (ci := 3) (fs := mObj bd M th) (v := .ref (bd 16)) F hK hP hi3 rfl (0) 16 (by omega) cM_0 (by decide) rfl (by decide +kernel) dX3_missedOf_11 ?_
      refine lv_iconst (v := nI 3) hx hb dX3_missedOf_14 (by decide) ?_
      refine lv_iload_n hx hb dX3_missedOf_15 rfl (lv_at hl 3 rfl) ?_
      refine z_mul F dX3_missedOf_16 ?_
      refine lv_iload_n hx hb dX3_missedOf_17 rfl (lv_at hl 0 rfl) ?_
      refine z_add F dX3_missedOf_18 ?_
      refine z_zald (v := bI (j < M 16 c0)) (cA := k 1) (len := 120) (g := mA M O 16) F hK hP (16) 1 (by omega) rfl rfl (i := nI ((3 * c0) + j)) ((3 * c0) + j) rfl (by omega) (by decide) (mA_16 (by omega)) dX3_missedOf_19 ?_
      refine z_ifb_eq (tgt := 36) F dX3_missedOf_20 (by decide) (fun c9 => ?_) (fun c9 => ?_)
      · refine lv_iconst (v := nI 0) hx hb dX3_missedOf_36 (by decide) ?_
        refine z_add F dX3_missedOf_37 ?_
        refine lv_istore_n (lv' := [(2, .int (nI ((mN M c0 j) + 0))), (3, .int (nI j)), (0, .ref (bd 0)), (1, .int (nI c0))]) hx hb dX3_missedOf_38 rfl hl (by decide) rfl (fun ls hl => ?_)
        refine lv_iinc (v := nI (j + 1)) (lv' := [(3, .int (nI (j + 1))), (2, .int (nI ((mN M c0 j) + 0))), (0, .ref (bd 0)), (1, .int (nI c0))]) hx hb dX3_missedOf_39 hl (k := 1) rfl (nI_1 j) (by decide) rfl (fun ls hl => ?_)
        refine lv_goto (tgt := 4) hx hb dX3_missedOf_42 (by decide) ?_
        exact ih (j + 1) (by omega) (by omega) ls (by rw [mN_n (fun zz1 => c9 zz1.1)]; exact lv_sub hl [0, 1, 2, 3] rfl)
      · refine lv_aload_n hx hb dX3_missedOf_23 rfl (lv_at hl 2 rfl) ?_
        refine lv_iload_n hx hb dX3_missedOf_24 rfl (lv_at hl 3 rfl) ?_
        refine lv_iload_n hx hb dX3_missedOf_25 rfl (lv_at hl 0 rfl) ?_
        refine z_cV (qc := (RX3, TX3, 21)) (As := [.int (nI c0), .int (nI j)]) (rest := [.int (nI (mN M c0 j))]) (0) F (c_X3_missed l D k bd M O th c0 hca hc j (by omega) hp hk9) (cwV 2 hts gX3_missedOf_X3_missed rfl rfl rfl (by decide +kernel) ⟨Nat.le_of_ble_eq_true rfl, Nat.le_of_ble_eq_true rfl⟩) hK hP (by omega) cM_0 rfl rfl hl.1 rfl (Nat.le_of_ble_eq_true rfl) dX3_missedOf_26 ⟨Nat.le_of_ble_eq_true rfl, Nat.le_of_ble_eq_true rfl⟩ (fun r hr => ?_)
        subst hr
        refine z_ifb_eq (tgt := 36) F dX3_missedOf_29 (by decide) (fun c10 => ?_) (fun c10 => ?_)
        · refine lv_iconst (v := nI 0) hx hb dX3_missedOf_36 (by decide) ?_
          refine z_add F dX3_missedOf_37 ?_
          refine lv_istore_n (lv' := [(2, .int (nI ((mN M c0 j) + 0))), (3, .int (nI j)), (0, .ref (bd 0)), (1, .int (nI c0))]) hx hb dX3_missedOf_38 rfl hl (by decide) rfl (fun ls hl => ?_)
          refine lv_iinc (v := nI (j + 1)) (lv' := [(3, .int (nI (j + 1))), (2, .int (nI ((mN M c0 j) + 0))), (0, .ref (bd 0)), (1, .int (nI c0))]) hx hb dX3_missedOf_39 hl (k := 1) rfl (nI_1 j) (by decide) rfl (fun ls hl => ?_)
          refine lv_goto (tgt := 4) hx hb dX3_missedOf_42 (by decide) ?_
          exact ih (j + 1) (by omega) (by omega) ls (by rw [mN_n (fun zz1 => c10 zz1.2)]; exact lv_sub hl [0, 1, 2, 3] rfl)
        · refine lv_iconst (v := nI 1) hx hb dX3_missedOf_32 (by decide) ?_
          refine lv_goto (tgt := 37) hx hb dX3_missedOf_33 (by decide) ?_
          refine z_add F dX3_missedOf_37 ?_
          refine lv_istore_n (lv' := [(2, .int (nI ((mN M c0 j) + 1))), (3, .int (nI j)), (0, .ref (bd 0)), (1, .int (nI c0))]) hx hb dX3_missedOf_38 rfl hl (by decide) rfl (fun ls hl => ?_)
          refine lv_iinc (v := nI (j + 1)) (lv' := [(3, .int (nI (j + 1))), (2, .int (nI ((mN M c0 j) + 1))), (0, .ref (bd 0)), (1, .int (nI c0))]) hx hb dX3_missedOf_39 hl (k := 1) rfl (nI_1 j) (by decide) rfl (fun ls hl => ?_)
          refine lv_goto (tgt := 4) hx hb dX3_missedOf_42 (by decide) ?_
          exact ih (j + 1) (by omega) (by omega) ls (by rw [mN_y (⟨c9, c10⟩)]; exact lv_sub hl [0, 1, 2, 3] rfl)
set_option maxRecDepth 100000 in
set_option maxHeartbeats 1000000 in
theorem c_X3_missedOf (l : Launch) (D : va_G) (k : Nat → ClassId) (bd : Nat → Nat) (M : Nat → Nat → Nat) (O : Nat → Nat → Int32) (th : Int32) (c0 : Nat) (hca : zCa M c0) (hc : c0 < 40) (hp : zPr M) (hk9 : ∀ x, x < 120 → M 15 x ≤ 24000) : Met l yX3_missedOf wsX3_missedOf ({ frames := 1, cells := 0, slots := 0, locals := 22 }) (va_Pc [.ref (bd 0), .int (nI c0)] (zR D k 19 bd (cM k bd M O th))) (vp_Si (fun r => r = nI (mN M c0 3))) 0 0 (fun _ => False) := by
  refine Met.ofW (cc := cX3_missedOf) (maxL := 4) (ret := (some .int)) (by decide) rfl ?_
  intro p e s m args below meth c s₁ B hml hv
  obtain ⟨rfl, hP, hK⟩ := hv
  have hx := B.exec
  have hb := B.bytes
  have hr := B.returns
  have hts := atoms_spec (ws := wsX3_missedOf) B.pre
  have hown : s.vm.findClass RX3 = some m.cls := findClass_of_methodNamed B.named
  have hlocks := B.notSynchronized
  have F : CallFix p m c cX3_missedOf 4 s _ wsX3_missedOf RX3 := ⟨hx, hb, hml, hown, hts⟩
  have hl := lv_entry ([.ref (bd 0), .int (nI c0)]) (n := 4) (Nat.le_of_ble_eq_true rfl)
  rw [lg_entry_eq]
  generalize (lg_sl ([.ref (bd 0), .int (nI c0)]) ++ List.replicate (4 - (lg_sl ([.ref (bd 0), .int (nI c0)])).length) Slot.unset).toArray = ls at hl ⊢
  have hl : lv_has ls 4 [(0, .ref (bd 0)), (1, .int (nI c0))] := hl
  have hi3 : ∀ w ∈ u_ws RX3 TX3 21, w ∈ wsX3_missedOf := by decide +kernel
  obtain ⟨hc1, hc2, hc3, hc4, hc5, hc6, hc7⟩ := id hca
  refine lv_iconst (v := nI 0) hx hb dX3_missedOf_0 (by decide) ?_
  refine lv_istore_n (lv' := [(2, .int (nI 0)), (0, .ref (bd 0)), (1, .int (nI c0))]) hx hb dX3_missedOf_1 rfl hl (by decide) rfl (fun ls hl => ?_)
  refine lv_iconst (v := nI 0) hx hb dX3_missedOf_2 (by decide) ?_
  refine lv_istore_n (lv' := [(3, .int (nI 0)), (2, .int (nI 0)), (0, .ref (bd 0)), (1, .int (nI c0))]) hx hb dX3_missedOf_3 rfl hl (by decide) rfl (fun ls hl => ?_)
  refine lp_missedOf F hK hca hc hp hk9 hP (fun ls hl => ?_) 4 0 (by omega) (by omega) ls (lv_sub hl [0, 1, 2, 3] rfl)
  refine lv_iload_n hx hb dX3_missedOf_45 rfl (lv_at hl 0 rfl) ?_
  exact W.iret (v := nI (mN M c0 3)) hx hb hr (fun t ht hW => ⟨nI (mN M c0 3), rfl, rfl, ht⟩) (fun q h => by cases h) dX3_missedOf_46
theorem jN_y {M : Nat → Nat → Nat} {h c : Nat} (q : M 12 c = 1 ∧ M 13 c = h + 1) : jN M h (c + 1) = jN M h c + 1 := by
  show jN M h c + (if _ then 1 else 0) = _
  rw [if_pos q]
theorem jN_n {M : Nat → Nat → Nat} {h c : Nat} (q : ¬ (M 12 c = 1 ∧ M 13 c = h + 1)) : jN M h (c + 1) = jN M h c + 0 := by
  show jN M h c + (if _ then 1 else 0) = _
  rw [if_neg q]
theorem hdI_eq {x h : Nat} (hx : x ≤ 40) (hh : h < 40) : hdI x = nI h ↔ x = h + 1 := by
  unfold hdI
  by_cases h0 : x = 0
  · rw [if_pos h0]
    constructor
    · intro zz1
      have e1 := nI_toInt (show h < 2 ^ 31 by omega)
      rw [← zz1] at e1
      have e2 : (-1 : Int32).toInt = -1 := by decide
      omega
    · intro zz1; omega
  · rw [if_neg h0, nI_eq (by omega) (by omega)]
    omega
set_option maxRecDepth 100000 in
set_option maxHeartbeats 1000000 in
theorem lp_joinedTo {p : Program} {l : Launch} {e : Env} {s : State} {m : MethodId} {args : Array Value} {below : List Frame} {meth : Method} {c : Code} {H : Heap} {locs : List Loc} {Q : State → Prop} {D : va_G} {k : Nat → ClassId} {bd : Nat → Nat} {M : Nat → Nat → Nat} {O : Nat → Nat → Int32} {th : Int32} (F : CallFix p m c cX3_joinedTo 4 s args wsX3_joinedTo RX3) (hK : va_K D vwCl (tyL k) s)
    {h0 : Nat} (hca : ∀ c, c < M 0 1 → zCa M c) (h40 : M 0 1 ≤ 40) (hh : h0 < 40)
    (hP : va_P D vwCl (zw 19 bd (cM k bd M O th)) H)
    (k0 : ∀ (ls : Array Slot), lv_has ls 4 [(2, .int (nI (jN M h0 (M 0 1))))] → W p l e (headSpec wsX3_joinedTo ({ frames := 0, cells := 0, slots := 0, locals := 0 })).room s m args below meth c H locs 0 0 Q (F0 m 46 ls [])) :
    ∀ (fu j : Nat), j ≤ M 0 1 → M 0 1 < j + fu → ∀ (ls : Array Slot), lv_has ls 4 [(3, .int (nI j)), (2, .int (nI (jN M h0 j))), (0, .ref (bd 0)), (1, .int (nI h0))] → W p l e (headSpec wsX3_joinedTo ({ frames := 0, cells := 0, slots := 0, locals := 0 })).room s m args below meth c H locs 0 0 Q (F0 m 4 ls []) := by
  have hx := F.1
  have hb := F.2.1
  have hts := F.2.2.2.2
  have hown := F.2.2.2.1
  have hi3 : ∀ w ∈ u_ws RX3 TX3 21, w ∈ wsX3_joinedTo := by decide +kernel
  intro fu
  induction fu with
  | zero => intro j h1 h2; omega
  | succ fu ih =>
    intro j h1 h2 ls hl
    have hjl := jN_le M h0 j
    refine lv_iload_n hx hb dX3_joinedTo_4 rfl (lv_at hl 0 rfl) ?_
    refine lv_aload_n hx hb dX3_joinedTo_5 rfl (lv_at hl 2 rfl) ?_
    refine z_get (C := RX3) (T := TX3) (N := 21) (ci := 3) (fs := mObj bd M th) (v := .int (nI (M 0 1))) F hK hP hi3 rfl (0) 17 (by omega) cM_0 (by decide) rfl (by decide +kernel) dX3_joinedTo_6 ?_
    refine z_icmp_ge (tgt := 46) F (by omega) (by omega) dX3_joinedTo_9 (by decide) (fun c11 => ?_) (fun c11 => ?_)
    · obtain rfl : j = M 0 1 := by omega
      exact k0 ls (lv_sub hl [1] rfl)
    · obtain ⟨hc1, hc2, hc3, hc4, hc5, hc6, hc7⟩ := hca j (by omega)
      refine lv_iload_n hx hb dX3_joinedTo_12 rfl (lv_at hl 1 rfl) ?_
      refine lv_aload_n hx hb dX3_joinedTo_13 rfl (lv_at hl 2 rfl) ?_
      refine z_get (C := RX3) (T := TX3) (N := 21) (ci := 3) (fs := mObj bd M th) (v := .ref (bd 12)) F hK hP hi3 rfl (0) 12 (by omega) cM_0 (by decide) rfl (by decide +kernel) dX3_joinedTo_14 ?_
      refine lv_iload_n hx hb dX3_joinedTo_17 rfl (lv_at hl 0 rfl) ?_
      refine z_iald (v := nI (M 12 j)) (cA := k 0) (len := 40) (g := mA M O 12) F hK hP (12) 0 (by omega) rfl rfl (i := nI j) j rfl (by omega) (by decide) rfl dX3_joinedTo_18 ?_
      refine lv_iconst (v := nI 1) hx hb dX3_joinedTo_19 (by decide) ?_
      refine z_icmp_ne (tgt := 37) F (by omega) (by omega) dX3_joinedTo_20 (by decide) (fun c12 => ?_) (fun c12 => ?_)
      · refine lv_iconst (v := nI 0) hx hb dX3_joinedTo_37 (by decide) ?_
        refine z_add F dX3_joinedTo_38 ?_
        refine lv_istore_n (lv' := [(2, .int (nI ((jN M h0 j) + 0))), (3, .int (nI j)), (0, .ref (bd 0)), (1, .int (nI h0))]) hx hb dX3_joinedTo_39 rfl hl (by decide) rfl (fun ls hl => ?_)
        refine lv_iinc (v := nI (j + 1)) (lv' := [(3, .int (nI (j + 1))), (2, .int (nI ((jN M h0 j) + 0))), (0, .ref (bd 0)), (1, .int (nI h0))]) hx hb dX3_joinedTo_40 hl (k := 1) rfl (nI_1 j) (by decide) rfl (fun ls hl => ?_)
        refine lv_goto (tgt := 4) hx hb dX3_joinedTo_43 (by decide) ?_
        exact ih (j + 1) (by omega) (by omega) ls (by rw [jN_n (fun zz1 => c12 zz1.1)]; exact lv_sub hl [0, 1, 2, 3] rfl)
      · refine lv_aload_n hx hb dX3_joinedTo_23 rfl (lv_at hl 2 rfl) ?_
        refine z_get (C := RX3) (T := TX3) (N := 21) (ci := 3) (fs := mObj bd M th) (v := .ref (bd 13)) F hK hP hi3 rfl (0) 13 (by omega) cM_0 (by decide) rfl (by decide +kernel) dX3_joinedTo_24 ?_
        refine lv_iload_n hx hb dX3_joinedTo_27 rfl (lv_at hl 0 rfl) ?_
        refine z_iald (v := hdI (M 13 j)) (cA := k 0) (len := 40) (g := mA M O 13) F hK hP (13) 0 (by omega) rfl rfl (i := nI j) j rfl (by omega) (by decide) rfl dX3_joinedTo_28 ?_
        refine lv_iload_n hx hb dX3_joinedTo_29 rfl (lv_at hl 3 rfl) ?_
        refine lv_icmp_ne (tgt := 37) hx hb dX3_joinedTo_30 (by decide) (fun c13 => ?_) (fun c13 => ?_)
        · refine lv_iconst (v := nI 0) hx hb dX3_joinedTo_37 (by decide) ?_
          refine z_add F dX3_joinedTo_38 ?_
          refine lv_istore_n (lv' := [(2, .int (nI ((jN M h0 j) + 0))), (3, .int (nI j)), (0, .ref (bd 0)), (1, .int (nI h0))]) hx hb dX3_joinedTo_39 rfl hl (by decide) rfl (fun ls hl => ?_)
          refine lv_iinc (v := nI (j + 1)) (lv' := [(3, .int (nI (j + 1))), (2, .int (nI ((jN M h0 j) + 0))), (0, .ref (bd 0)), (1, .int (nI h0))]) hx hb dX3_joinedTo_40 hl (k := 1) rfl (nI_1 j) (by decide) rfl (fun ls hl => ?_)
          refine lv_goto (tgt := 4) hx hb dX3_joinedTo_43 (by decide) ?_
          exact ih (j + 1) (by omega) (by omega) ls (by rw [jN_n (fun zz1 => c13 ((hdI_eq (by omega) hh).mpr zz1.2))]; exact lv_sub hl [0, 1, 2, 3] rfl)
        · refine lv_iconst (v := nI 1) hx hb dX3_joinedTo_33 (by decide) ?_
          refine lv_goto (tgt := 38) hx hb dX3_joinedTo_34 (by decide) ?_
          refine z_add F dX3_joinedTo_38 ?_
          refine lv_istore_n (lv' := [(2, .int (nI ((jN M h0 j) + 1))), (3, .int (nI j)), (0, .ref (bd 0)), (1, .int (nI h0))]) hx hb dX3_joinedTo_39 rfl hl (by decide) rfl (fun ls hl => ?_)
          refine lv_iinc (v := nI (j + 1)) (lv' := [(3, .int (nI (j + 1))), (2, .int (nI ((jN M h0 j) + 1))), (0, .ref (bd 0)), (1, .int (nI h0))]) hx hb dX3_joinedTo_40 hl (k := 1) rfl (nI_1 j) (by decide) rfl (fun ls hl => ?_)
          refine lv_goto (tgt := 4) hx hb dX3_joinedTo_43 (by decide) ?_
          exact ih (j + 1) (by omega) (by omega) ls (by rw [jN_y ⟨c12, (hdI_eq (by omega) hh).mp c13⟩]; exact lv_sub hl [0, 1, 2, 3] rfl)
set_option maxRecDepth 100000 in
set_option maxHeartbeats 1000000 in
theorem c_X3_joinedTo (l : Launch) (D : va_G) (k : Nat → ClassId) (bd : Nat → Nat) (M : Nat → Nat → Nat) (O : Nat → Nat → Int32) (th : Int32) (h0 : Nat) (hca : ∀ c, c < M 0 1 → zCa M c) (h40 : M 0 1 ≤ 40) (hh : h0 < 40) : Met l yX3_joinedTo wsX3_joinedTo ({ frames := 0, cells := 0, slots := 0, locals := 0 }) (va_Pc [.ref (bd 0), .int (nI h0)] (zR D k 19 bd (cM k bd M O th))) (vp_Si (fun r => r = nI (jN M h0 (M 0 1)))) 0 0 (fun _ => False) := by
  refine Met.ofW (cc := cX3_joinedTo) (maxL := 4) (ret := (some .int)) (by decide) rfl ?_
  intro p e s m args below meth c s₁ B hml hv
  obtain ⟨rfl, hP, hK⟩ := hv
  have hx := B.exec
  have hb := B.bytes
  have hr := B.returns
  have hts := atoms_spec (ws := wsX3_joinedTo) B.pre
  have hown : s.vm.findClass RX3 = some m.cls := findClass_of_methodNamed B.named
  have hlocks := B.notSynchronized
  have F : CallFix p m c cX3_joinedTo 4 s _ wsX3_joinedTo RX3 := ⟨hx, hb, hml, hown, hts⟩
  have hl := lv_entry ([.ref (bd 0), .int (nI h0)]) (n := 4) (Nat.le_of_ble_eq_true rfl)
  rw [lg_entry_eq]
  generalize (lg_sl ([.ref (bd 0), .int (nI h0)]) ++ List.replicate (4 - (lg_sl ([.ref (bd 0), .int (nI h0)])).length) Slot.unset).toArray = ls at hl ⊢
  have hl : lv_has ls 4 [(0, .ref (bd 0)), (1, .int (nI h0))] := hl
  have hi3 : ∀ w ∈ u_ws RX3 TX3 21, w ∈ wsX3_joinedTo := by decide +kernel
  refine lv_iconst (v := nI 0) hx hb dX3_joinedTo_0 (by decide) ?_
  refine lv_istore_n (lv' := [(2, .int (nI 0)), (0, .ref (bd 0)), (1, .int (nI h0))]) hx hb dX3_joinedTo_1 rfl hl (by decide) rfl (fun ls hl => ?_)
  refine lv_iconst (v := nI 0) hx hb dX3_joinedTo_2 (by decide) ?_
  refine lv_istore_n (lv' := [(3, .int (nI 0)), (2, .int (nI 0)), (0, .ref (bd 0)), (1, .int (nI h0))]) hx hb dX3_joinedTo_3 rfl hl (by decide) rfl (fun ls hl => ?_)
  refine lp_joinedTo F hK hca h40 hh hP (fun ls hl => ?_) (M 0 1 + 1) 0 (by omega) (by omega) ls (lv_sub hl [0, 1, 2, 3] rfl)
  refine lv_iload_n hx hb dX3_joinedTo_46 rfl (lv_at hl 0 rfl) ?_
  exact W.iret (v := nI (jN M h0 (M 0 1))) hx hb hr (fun t ht hW => ⟨nI (jN M h0 (M 0 1)), rfl, rfl, ht⟩) (fun q h => by cases h) dX3_joinedTo_47
set_option maxRecDepth 100000 in
set_option maxHeartbeats 1000000 in
theorem lp_stepOf {p : Program} {l : Launch} {e : Env} {s : State} {m : MethodId} {args : Array Value} {below : List Frame} {meth : Method} {c : Code} {H : Heap} {locs : List Loc} {Q : State → Prop} {D : va_G} {k : Nat → ClassId} {bd : Nat → Nat} {M : Nat → Nat → Nat} {O : Nat → Nat → Int32} {th : Int32} (F : CallFix p m c cX3_stepOf 7 s args wsX3_stepOf RX3) (hK : va_K D vwCl (tyL k) s)
    {c0 : Nat} (hca : zCa M c0) (hc : c0 < 40) (hp : zPr M) (hk9 : ∀ x, x < 120 → M 15 x ≤ 24000)
    (hP : va_P D vwCl (zw 19 bd (cM k bd M O th)) H)
    (k0 : ∀ (ls : Array Slot), lv_has ls 7 [(2, .int (nI (gS M c0 3)))] → W p l e (headSpec wsX3_stepOf ({ frames := 0, cells := 0, slots := 0, locals := 0 })).room s m args below meth c H locs 0 0 Q (F0 m 118 ls [])) :
    ∀ (fu j : Nat), j ≤ 3 → 3 < j + fu → ∀ (ls : Array Slot), lv_has ls 7 [(3, .int (nI j)), (2, .int (nI (gS M c0 j))), (0, .ref (bd 0)), (1, .int (nI c0))] → W p l e (headSpec wsX3_stepOf ({ frames := 0, cells := 0, slots := 0, locals := 0 })).room s m args below meth c H locs 0 0 Q (F0 m 4 ls []) := by
  have hx := F.1
  have hb := F.2.1
  have hts := F.2.2.2.2
  have hown := F.2.2.2.1
  have hi3 : ∀ w ∈ u_ws RX3 TX3 21, w ∈ wsX3_stepOf := by decide +kernel
  obtain ⟨hc1, hc2, hc3, hc4, hc5, hc6, hc7⟩ := id hca
  intro fu
  induction fu with
  | zero => intro j h1 h2; omega
  | succ fu ih =>
    intro j h1 h2 ls hl
    have hgl := gS_le M c0 j
    refine lv_iload_n hx hb dX3_stepOf_4 rfl (lv_at hl 0 rfl) ?_
    refine lv_iconst (v := nI 2) hx hb dX3_stepOf_5 (by decide) ?_
    refine z_icmp_gt (tgt := 118) F (by omega) (by omega) dX3_stepOf_6 (by decide) (fun c14 => ?_) (fun c14 => ?_)
    · obtain rfl : j = 3 := by omega
      exact k0 ls (lv_sub hl [1] rfl)
    · have hp9 := hp (3 * M 11 c0 + j) (by omega)
      have hk8 := hk9 (3 * c0 + j) (by omega)
      have hsl := stp_le M c0 j
      refine lv_bipush (v := nI 100) hx hb dX3_stepOf_9 (by decide) ?_
      refine lv_aload_n hx hb dX3_stepOf_11 rfl (lv_at hl 2 rfl) ?_
      refine z_get (C := RX3) (T := TX3) (N := 21) (ci := 3) (fs := mObj bd M th) (v := .ref (bd 15)) F hK hP hi3 rfl (0) 15 (by omega) cM_0 (by decide) rfl (by decide +kernel) dX3_stepOf_12 ?_
      refine lv_iconst (v := nI 3) hx hb dX3_stepOf_15 (by decide) ?_
      refine lv_iload_n hx hb dX3_stepOf_16 rfl (lv_at hl 3 rfl) ?_
      refine z_mul F dX3_stepOf_17 ?_
      refine lv_iload_n hx hb dX3_stepOf_18 rfl (lv_at hl 0 rfl) ?_
      refine z_add F dX3_stepOf_19 ?_
      refine z_iald (v := nI (M 15 ((3 * c0) + j))) (cA := k 0) (len := 120) (g := mA M O 15) F hK hP (15) 0 (by omega) rfl rfl (i := nI ((3 * c0) + j)) ((3 * c0) + j) rfl (by omega) (by decide) rfl dX3_stepOf_20 ?_
      refine z_mul F dX3_stepOf_21 ?_
      refine lv_istore (lv' := [(4, .int (nI (100 * (M 15 ((3 * c0) + j))))), (3, .int (nI j)), (2, .int (nI (gS M c0 j))), (0, .ref (bd 0)), (1, .int (nI c0))]) hx hb dX3_stepOf_22 hl (by decide) rfl (fun ls hl => ?_)
      refine lv_aload_n hx hb dX3_stepOf_24 rfl (lv_at hl 3 rfl) ?_
      refine z_get (C := RX3) (T := TX3) (N := 21) (ci := 3) (fs := mObj bd M th) (v := .ref (bd 8)) F hK hP hi3 rfl (0) 8 (by omega) cM_0 (by decide) rfl (by decide +kernel) dX3_stepOf_25 ?_
      refine lv_iconst (v := nI 3) hx hb dX3_stepOf_28 (by decide) ?_
      refine lv_aload_n hx hb dX3_stepOf_29 rfl (lv_at hl 3 rfl) ?_
      refine z_get (C := RX3) (T := TX3) (N := 21) (ci := 3) (fs := mObj bd M th) (v := .ref (bd 11)) F hK hP hi3 rfl (0) 11 (by omega) cM_0 (by decide) rfl (by decide +kernel) dX3_stepOf_30 ?_
      refine lv_iload_n hx hb dX3_stepOf_33 rfl (lv_at hl 4 rfl) ?_
      refine z_iald (v := nI (M 11 c0)) (cA := k 0) (len := 40) (g := mA M O 11) F hK hP (11) 0 (by omega) rfl rfl (i := nI c0) c0 rfl hc (by decide) rfl dX3_stepOf_34 ?_
      refine z_mul F dX3_stepOf_35 ?_
      refine lv_iload_n hx hb dX3_stepOf_36 rfl (lv_at hl 1 rfl) ?_
      refine z_add F dX3_stepOf_37 ?_
      refine z_iald (v := nI (M 8 ((3 * (M 11 c0)) + j))) (cA := k 0) (len := 9) (g := mA M O 8) F hK hP (8) 0 (by omega) rfl rfl (i := nI ((3 * (M 11 c0)) + j)) ((3 * (M 11 c0)) + j) rfl (by omega) (by decide) rfl dX3_stepOf_38 ?_
      refine lv_istore (lv' := [(5, .int (nI (M 8 ((3 * (M 11 c0)) + j)))), (4, .int (nI (100 * (M 15 ((3 * c0) + j))))), (3, .int (nI j)), (2, .int (nI (gS M c0 j))), (0, .ref (bd 0)), (1, .int (nI c0))]) hx hb dX3_stepOf_39 hl (by decide) rfl (fun ls hl => ?_)
      refine lv_aload_n hx hb dX3_stepOf_41 rfl (lv_at hl 4 rfl) ?_
      refine z_get (C := RX3) (T := TX3) (N := 21) (ci := 3) (fs := mObj bd M th) (v := .ref (bd 16)) F hK hP hi3 rfl (0) 16 (by omega) cM_0 (by decide) rfl (by decide +kernel) dX3_stepOf_42 ?_
      refine lv_iconst (v := nI 3) hx hb dX3_stepOf_45 (by decide) ?_
      refine lv_iload_n hx hb dX3_stepOf_46 rfl (lv_at hl 5 rfl) ?_
      refine z_mul F dX3_stepOf_47 ?_
      refine lv_iload_n hx hb dX3_stepOf_48 rfl (lv_at hl 2 rfl) ?_
      refine z_add F dX3_stepOf_49 ?_
      refine z_zald (v := bI (j < M 16 c0)) (cA := k 1) (len := 120) (g := mA M O 16) F hK hP (16) 1 (by omega) rfl rfl (i := nI ((3 * c0) + j)) ((3 * c0) + j) rfl (by omega) (by decide) (mA_16 (by omega)) dX3_stepOf_50 ?_
      refine z_ifb_ne (tgt := 64) F dX3_stepOf_51 (by decide) (fun c15 => ?_) (fun c15 => ?_)
      · refine lv_iconst (v := nI 0) hx hb dX3_stepOf_64 (by decide) ?_
        refine lv_goto (tgt := 97) hx hb dX3_stepOf_65 (by decide) ?_
        have e9 : stp M c0 j = 0 := by unfold stp; (repeat' split) <;> omega
        refine z_top (show nI 0 = nI (stp M c0 j) by rw [e9]) ?_
        refine lv_istore (lv' := [(6, .int (nI (stp M c0 j))), (5, .int (nI (M 8 ((3 * (M 11 c0)) + j)))), (4, .int (nI (100 * (M 15 ((3 * c0) + j))))), (3, .int (nI j)), (2, .int (nI (gS M c0 j))), (0, .ref (bd 0)), (1, .int (nI c0))]) hx hb dX3_stepOf_97 hl (by decide) rfl (fun ls hl => ?_)
        refine lv_iload hx hb dX3_stepOf_99 (lv_at hl 0 rfl) ?_
        refine lv_iload_n hx hb dX3_stepOf_101 rfl (lv_at hl 4 rfl) ?_
        refine z_icmp_le (tgt := 110) F (by omega) (by omega) dX3_stepOf_102 (by decide) (fun c16 => ?_) (fun c16 => ?_)
        · refine lv_iload_n hx hb dX3_stepOf_110 rfl (lv_at hl 4 rfl) ?_
          refine lv_istore_n (lv' := [(2, .int (nI (gS M c0 j))), (6, .int (nI (stp M c0 j))), (5, .int (nI (M 8 ((3 * (M 11 c0)) + j)))), (4, .int (nI (100 * (M 15 ((3 * c0) + j))))), (3, .int (nI j)), (0, .ref (bd 0)), (1, .int (nI c0))]) hx hb dX3_stepOf_111 rfl hl (by decide) rfl (fun ls hl => ?_)
          refine lv_iinc (v := nI (j + 1)) (lv' := [(3, .int (nI (j + 1))), (2, .int (nI (gS M c0 j))), (6, .int (nI (stp M c0 j))), (5, .int (nI (M 8 ((3 * (M 11 c0)) + j)))), (4, .int (nI (100 * (M 15 ((3 * c0) + j))))), (0, .ref (bd 0)), (1, .int (nI c0))]) hx hb dX3_stepOf_112 hl (k := 4) rfl (nI_1 j) (by decide) rfl (fun ls hl => ?_)
          refine lv_goto (tgt := 4) hx hb dX3_stepOf_115 (by decide) ?_
          have e8 : gS M c0 (j + 1) = gS M c0 j := by show max _ _ = _; omega
          exact ih (j + 1) (by omega) (by omega) ls (by rw [e8]; exact lv_sub hl [0, 1, 5, 6] rfl)
        · refine lv_iload hx hb dX3_stepOf_105 (lv_at hl 0 rfl) ?_
          refine lv_goto (tgt := 111) hx hb dX3_stepOf_107 (by decide) ?_
          refine lv_istore_n (lv' := [(2, .int (nI (stp M c0 j))), (6, .int (nI (stp M c0 j))), (5, .int (nI (M 8 ((3 * (M 11 c0)) + j)))), (4, .int (nI (100 * (M 15 ((3 * c0) + j))))), (3, .int (nI j)), (0, .ref (bd 0)), (1, .int (nI c0))]) hx hb dX3_stepOf_111 rfl hl (by decide) rfl (fun ls hl => ?_)
          refine lv_iinc (v := nI (j + 1)) (lv' := [(3, .int (nI (j + 1))), (2, .int (nI (stp M c0 j))), (6, .int (nI (stp M c0 j))), (5, .int (nI (M 8 ((3 * (M 11 c0)) + j)))), (4, .int (nI (100 * (M 15 ((3 * c0) + j))))), (0, .ref (bd 0)), (1, .int (nI c0))]) hx hb dX3_stepOf_112 hl (k := 4) rfl (nI_1 j) (by decide) rfl (fun ls hl => ?_)
          refine lv_goto (tgt := 4) hx hb dX3_stepOf_115 (by decide) ?_
          have e8 : gS M c0 (j + 1) = stp M c0 j := by show max _ _ = _; omega
          exact ih (j + 1) (by omega) (by omega) ls (by rw [e8]; exact lv_sub hl [0, 1, 5, 6] rfl)
      · refine lv_iload hx hb dX3_stepOf_54 (lv_at hl 1 rfl) ?_
        refine lv_bipush (v := nI 50) hx hb dX3_stepOf_56 (by decide) ?_
        refine lv_iload hx hb dX3_stepOf_58 (lv_at hl 0 rfl) ?_
        refine z_mul F dX3_stepOf_60 ?_
        refine z_icmp_ge (tgt := 68) F (by omega) (by omega) dX3_stepOf_61 (by decide) (fun c17 => ?_) (fun c17 => ?_)
        · refine lv_iload hx hb dX3_stepOf_68 (lv_at hl 1 rfl) ?_
          refine lv_bipush (v := nI 75) hx hb dX3_stepOf_70 (by decide) ?_
          refine lv_iload hx hb dX3_stepOf_72 (lv_at hl 0 rfl) ?_
          refine z_mul F dX3_stepOf_74 ?_
          refine z_icmp_ge (tgt := 82) F (by omega) (by omega) dX3_stepOf_75 (by decide) (fun c18 => ?_) (fun c18 => ?_)
          · refine lv_iload hx hb dX3_stepOf_82 (lv_at hl 1 rfl) ?_
            refine lv_bipush (v := nI 100) hx hb dX3_stepOf_84 (by decide) ?_
            refine lv_iload hx hb dX3_stepOf_86 (lv_at hl 0 rfl) ?_
            refine z_mul F dX3_stepOf_88 ?_
            refine z_icmp_gt (tgt := 96) F (by omega) (by omega) dX3_stepOf_89 (by decide) (fun c19 => ?_) (fun c19 => ?_)
            · refine lv_iconst (v := nI 3) hx hb dX3_stepOf_96 (by decide) ?_
              have e9 : stp M c0 j = 3 := by unfold stp; (repeat' split) <;> omega
              refine z_top (show nI 3 = nI (stp M c0 j) by rw [e9]) ?_
              refine lv_istore (lv' := [(6, .int (nI (stp M c0 j))), (5, .int (nI (M 8 ((3 * (M 11 c0)) + j)))), (4, .int (nI (100 * (M 15 ((3 * c0) + j))))), (3, .int (nI j)), (2, .int (nI (gS M c0 j))), (0, .ref (bd 0)), (1, .int (nI c0))]) hx hb dX3_stepOf_97 hl (by decide) rfl (fun ls hl => ?_)
              refine lv_iload hx hb dX3_stepOf_99 (lv_at hl 0 rfl) ?_
              refine lv_iload_n hx hb dX3_stepOf_101 rfl (lv_at hl 4 rfl) ?_
              refine z_icmp_le (tgt := 110) F (by omega) (by omega) dX3_stepOf_102 (by decide) (fun c20 => ?_) (fun c20 => ?_)
              · refine lv_iload_n hx hb dX3_stepOf_110 rfl (lv_at hl 4 rfl) ?_
                refine lv_istore_n (lv' := [(2, .int (nI (gS M c0 j))), (6, .int (nI (stp M c0 j))), (5, .int (nI (M 8 ((3 * (M 11 c0)) + j)))), (4, .int (nI (100 * (M 15 ((3 * c0) + j))))), (3, .int (nI j)), (0, .ref (bd 0)), (1, .int (nI c0))]) hx hb dX3_stepOf_111 rfl hl (by decide) rfl (fun ls hl => ?_)
                refine lv_iinc (v := nI (j + 1)) (lv' := [(3, .int (nI (j + 1))), (2, .int (nI (gS M c0 j))), (6, .int (nI (stp M c0 j))), (5, .int (nI (M 8 ((3 * (M 11 c0)) + j)))), (4, .int (nI (100 * (M 15 ((3 * c0) + j))))), (0, .ref (bd 0)), (1, .int (nI c0))]) hx hb dX3_stepOf_112 hl (k := 4) rfl (nI_1 j) (by decide) rfl (fun ls hl => ?_)
                refine lv_goto (tgt := 4) hx hb dX3_stepOf_115 (by decide) ?_
                have e8 : gS M c0 (j + 1) = gS M c0 j := by show max _ _ = _; omega
                exact ih (j + 1) (by omega) (by omega) ls (by rw [e8]; exact lv_sub hl [0, 1, 5, 6] rfl)
              · refine lv_iload hx hb dX3_stepOf_105 (lv_at hl 0 rfl) ?_
                refine lv_goto (tgt := 111) hx hb dX3_stepOf_107 (by decide) ?_
                refine lv_istore_n (lv' := [(2, .int (nI (stp M c0 j))), (6, .int (nI (stp M c0 j))), (5, .int (nI (M 8 ((3 * (M 11 c0)) + j)))), (4, .int (nI (100 * (M 15 ((3 * c0) + j))))), (3, .int (nI j)), (0, .ref (bd 0)), (1, .int (nI c0))]) hx hb dX3_stepOf_111 rfl hl (by decide) rfl (fun ls hl => ?_)
                refine lv_iinc (v := nI (j + 1)) (lv' := [(3, .int (nI (j + 1))), (2, .int (nI (stp M c0 j))), (6, .int (nI (stp M c0 j))), (5, .int (nI (M 8 ((3 * (M 11 c0)) + j)))), (4, .int (nI (100 * (M 15 ((3 * c0) + j))))), (0, .ref (bd 0)), (1, .int (nI c0))]) hx hb dX3_stepOf_112 hl (k := 4) rfl (nI_1 j) (by decide) rfl (fun ls hl => ?_)
                refine lv_goto (tgt := 4) hx hb dX3_stepOf_115 (by decide) ?_
                have e8 : gS M c0 (j + 1) = stp M c0 j := by show max _ _ = _; omega
                exact ih (j + 1) (by omega) (by omega) ls (by rw [e8]; exact lv_sub hl [0, 1, 5, 6] rfl)
            · refine lv_iconst (v := nI 2) hx hb dX3_stepOf_92 (by decide) ?_
              refine lv_goto (tgt := 97) hx hb dX3_stepOf_93 (by decide) ?_
              have e9 : stp M c0 j = 2 := by unfold stp; (repeat' split) <;> omega
              refine z_top (show nI 2 = nI (stp M c0 j) by rw [e9]) ?_
              refine lv_istore (lv' := [(6, .int (nI (stp M c0 j))), (5, .int (nI (M 8 ((3 * (M 11 c0)) + j)))), (4, .int (nI (100 * (M 15 ((3 * c0) + j))))), (3, .int (nI j)), (2, .int (nI (gS M c0 j))), (0, .ref (bd 0)), (1, .int (nI c0))]) hx hb dX3_stepOf_97 hl (by decide) rfl (fun ls hl => ?_)
              refine lv_iload hx hb dX3_stepOf_99 (lv_at hl 0 rfl) ?_
              refine lv_iload_n hx hb dX3_stepOf_101 rfl (lv_at hl 4 rfl) ?_
              refine z_icmp_le (tgt := 110) F (by omega) (by omega) dX3_stepOf_102 (by decide) (fun c21 => ?_) (fun c21 => ?_)
              · refine lv_iload_n hx hb dX3_stepOf_110 rfl (lv_at hl 4 rfl) ?_
                refine lv_istore_n (lv' := [(2, .int (nI (gS M c0 j))), (6, .int (nI (stp M c0 j))), (5, .int (nI (M 8 ((3 * (M 11 c0)) + j)))), (4, .int (nI (100 * (M 15 ((3 * c0) + j))))), (3, .int (nI j)), (0, .ref (bd 0)), (1, .int (nI c0))]) hx hb dX3_stepOf_111 rfl hl (by decide) rfl (fun ls hl => ?_)
                refine lv_iinc (v := nI (j + 1)) (lv' := [(3, .int (nI (j + 1))), (2, .int (nI (gS M c0 j))), (6, .int (nI (stp M c0 j))), (5, .int (nI (M 8 ((3 * (M 11 c0)) + j)))), (4, .int (nI (100 * (M 15 ((3 * c0) + j))))), (0, .ref (bd 0)), (1, .int (nI c0))]) hx hb dX3_stepOf_112 hl (k := 4) rfl (nI_1 j) (by decide) rfl (fun ls hl => ?_)
                refine lv_goto (tgt := 4) hx hb dX3_stepOf_115 (by decide) ?_
                have e8 : gS M c0 (j + 1) = gS M c0 j := by show max _ _ = _; omega
                exact ih (j + 1) (by omega) (by omega) ls (by rw [e8]; exact lv_sub hl [0, 1, 5, 6] rfl)
              · refine lv_iload hx hb dX3_stepOf_105 (lv_at hl 0 rfl) ?_
                refine lv_goto (tgt := 111) hx hb dX3_stepOf_107 (by decide) ?_
                refine lv_istore_n (lv' := [(2, .int (nI (stp M c0 j))), (6, .int (nI (stp M c0 j))), (5, .int (nI (M 8 ((3 * (M 11 c0)) + j)))), (4, .int (nI (100 * (M 15 ((3 * c0) + j))))), (3, .int (nI j)), (0, .ref (bd 0)), (1, .int (nI c0))]) hx hb dX3_stepOf_111 rfl hl (by decide) rfl (fun ls hl => ?_)
                refine lv_iinc (v := nI (j + 1)) (lv' := [(3, .int (nI (j + 1))), (2, .int (nI (stp M c0 j))), (6, .int (nI (stp M c0 j))), (5, .int (nI (M 8 ((3 * (M 11 c0)) + j)))), (4, .int (nI (100 * (M 15 ((3 * c0) + j))))), (0, .ref (bd 0)), (1, .int (nI c0))]) hx hb dX3_stepOf_112 hl (k := 4) rfl (nI_1 j) (by decide) rfl (fun ls hl => ?_)
                refine lv_goto (tgt := 4) hx hb dX3_stepOf_115 (by decide) ?_
                have e8 : gS M c0 (j + 1) = stp M c0 j := by show max _ _ = _; omega
                exact ih (j + 1) (by omega) (by omega) ls (by rw [e8]; exact lv_sub hl [0, 1, 5, 6] rfl)
          · refine lv_iconst (v := nI 1) hx hb dX3_stepOf_78 (by decide) ?_
            refine lv_goto (tgt := 97) hx hb dX3_stepOf_79 (by decide) ?_
            have e9 : stp M c0 j = 1 := by unfold stp; (repeat' split) <;> omega
            refine z_top (show nI 1 = nI (stp M c0 j) by rw [e9]) ?_
            refine lv_istore (lv' := [(6, .int (nI (stp M c0 j))), (5, .int (nI (M 8 ((3 * (M 11 c0)) + j)))), (4, .int (nI (100 * (M 15 ((3 * c0) + j))))), (3, .int (nI j)), (2, .int (nI (gS M c0 j))), (0, .ref (bd 0)), (1, .int (nI c0))]) hx hb dX3_stepOf_97 hl (by decide) rfl (fun ls hl => ?_)
            refine lv_iload hx hb dX3_stepOf_99 (lv_at hl 0 rfl) ?_
            refine lv_iload_n hx hb dX3_stepOf_101 rfl (lv_at hl 4 rfl) ?_
            refine z_icmp_le (tgt := 110) F (by omega) (by omega) dX3_stepOf_102 (by decide) (fun c22 => ?_) (fun c22 => ?_)
            · refine lv_iload_n hx hb dX3_stepOf_110 rfl (lv_at hl 4 rfl) ?_
              refine lv_istore_n (lv' := [(2, .int (nI (gS M c0 j))), (6, .int (nI (stp M c0 j))), (5, .int (nI (M 8 ((3 * (M 11 c0)) + j)))), (4, .int (nI (100 * (M 15 ((3 * c0) + j))))), (3, .int (nI j)), (0, .ref (bd 0)), (1, .int (nI c0))]) hx hb dX3_stepOf_111 rfl hl (by decide) rfl (fun ls hl => ?_)
              refine lv_iinc (v := nI (j + 1)) (lv' := [(3, .int (nI (j + 1))), (2, .int (nI (gS M c0 j))), (6, .int (nI (stp M c0 j))), (5, .int (nI (M 8 ((3 * (M 11 c0)) + j)))), (4, .int (nI (100 * (M 15 ((3 * c0) + j))))), (0, .ref (bd 0)), (1, .int (nI c0))]) hx hb dX3_stepOf_112 hl (k := 4) rfl (nI_1 j) (by decide) rfl (fun ls hl => ?_)
              refine lv_goto (tgt := 4) hx hb dX3_stepOf_115 (by decide) ?_
              have e8 : gS M c0 (j + 1) = gS M c0 j := by show max _ _ = _; omega
              exact ih (j + 1) (by omega) (by omega) ls (by rw [e8]; exact lv_sub hl [0, 1, 5, 6] rfl)
            · refine lv_iload hx hb dX3_stepOf_105 (lv_at hl 0 rfl) ?_
              refine lv_goto (tgt := 111) hx hb dX3_stepOf_107 (by decide) ?_
              refine lv_istore_n (lv' := [(2, .int (nI (stp M c0 j))), (6, .int (nI (stp M c0 j))), (5, .int (nI (M 8 ((3 * (M 11 c0)) + j)))), (4, .int (nI (100 * (M 15 ((3 * c0) + j))))), (3, .int (nI j)), (0, .ref (bd 0)), (1, .int (nI c0))]) hx hb dX3_stepOf_111 rfl hl (by decide) rfl (fun ls hl => ?_)
              refine lv_iinc (v := nI (j + 1)) (lv' := [(3, .int (nI (j + 1))), (2, .int (nI (stp M c0 j))), (6, .int (nI (stp M c0 j))), (5, .int (nI (M 8 ((3 * (M 11 c0)) + j)))), (4, .int (nI (100 * (M 15 ((3 * c0) + j))))), (0, .ref (bd 0)), (1, .int (nI c0))]) hx hb dX3_stepOf_112 hl (k := 4) rfl (nI_1 j) (by decide) rfl (fun ls hl => ?_)
              refine lv_goto (tgt := 4) hx hb dX3_stepOf_115 (by decide) ?_
              have e8 : gS M c0 (j + 1) = stp M c0 j := by show max _ _ = _; omega
              exact ih (j + 1) (by omega) (by omega) ls (by rw [e8]; exact lv_sub hl [0, 1, 5, 6] rfl)
        · refine lv_iconst (v := nI 0) hx hb dX3_stepOf_64 (by decide) ?_
          refine lv_goto (tgt := 97) hx hb dX3_stepOf_65 (by decide) ?_
          have e9 : stp M c0 j = 0 := by unfold stp; (repeat' split) <;> omega
          refine z_top (show nI 0 = nI (stp M c0 j) by rw [e9]) ?_
          refine lv_istore (lv' := [(6, .int (nI (stp M c0 j))), (5, .int (nI (M 8 ((3 * (M 11 c0)) + j)))), (4, .int (nI (100 * (M 15 ((3 * c0) + j))))), (3, .int (nI j)), (2, .int (nI (gS M c0 j))), (0, .ref (bd 0)), (1, .int (nI c0))]) hx hb dX3_stepOf_97 hl (by decide) rfl (fun ls hl => ?_)
          refine lv_iload hx hb dX3_stepOf_99 (lv_at hl 0 rfl) ?_
          refine lv_iload_n hx hb dX3_stepOf_101 rfl (lv_at hl 4 rfl) ?_
          refine z_icmp_le (tgt := 110) F (by omega) (by omega) dX3_stepOf_102 (by decide) (fun c23 => ?_) (fun c23 => ?_)
          · refine lv_iload_n hx hb dX3_stepOf_110 rfl (lv_at hl 4 rfl) ?_
            refine lv_istore_n (lv' := [(2, .int (nI (gS M c0 j))), (6, .int (nI (stp M c0 j))), (5, .int (nI (M 8 ((3 * (M 11 c0)) + j)))), (4, .int (nI (100 * (M 15 ((3 * c0) + j))))), (3, .int (nI j)), (0, .ref (bd 0)), (1, .int (nI c0))]) hx hb dX3_stepOf_111 rfl hl (by decide) rfl (fun ls hl => ?_)
            refine lv_iinc (v := nI (j + 1)) (lv' := [(3, .int (nI (j + 1))), (2, .int (nI (gS M c0 j))), (6, .int (nI (stp M c0 j))), (5, .int (nI (M 8 ((3 * (M 11 c0)) + j)))), (4, .int (nI (100 * (M 15 ((3 * c0) + j))))), (0, .ref (bd 0)), (1, .int (nI c0))]) hx hb dX3_stepOf_112 hl (k := 4) rfl (nI_1 j) (by decide) rfl (fun ls hl => ?_)
            refine lv_goto (tgt := 4) hx hb dX3_stepOf_115 (by decide) ?_
            have e8 : gS M c0 (j + 1) = gS M c0 j := by show max _ _ = _; omega
            exact ih (j + 1) (by omega) (by omega) ls (by rw [e8]; exact lv_sub hl [0, 1, 5, 6] rfl)
          · refine lv_iload hx hb dX3_stepOf_105 (lv_at hl 0 rfl) ?_
            refine lv_goto (tgt := 111) hx hb dX3_stepOf_107 (by decide) ?_
            refine lv_istore_n (lv' := [(2, .int (nI (stp M c0 j))), (6, .int (nI (stp M c0 j))), (5, .int (nI (M 8 ((3 * (M 11 c0)) + j)))), (4, .int (nI (100 * (M 15 ((3 * c0) + j))))), (3, .int (nI j)), (0, .ref (bd 0)), (1, .int (nI c0))]) hx hb dX3_stepOf_111 rfl hl (by decide) rfl (fun ls hl => ?_)
            refine lv_iinc (v := nI (j + 1)) (lv' := [(3, .int (nI (j + 1))), (2, .int (nI (stp M c0 j))), (6, .int (nI (stp M c0 j))), (5, .int (nI (M 8 ((3 * (M 11 c0)) + j)))), (4, .int (nI (100 * (M 15 ((3 * c0) + j))))), (0, .ref (bd 0)), (1, .int (nI c0))]) hx hb dX3_stepOf_112 hl (k := 4) rfl (nI_1 j) (by decide) rfl (fun ls hl => ?_)
            refine lv_goto (tgt := 4) hx hb dX3_stepOf_115 (by decide) ?_
            have e8 : gS M c0 (j + 1) = stp M c0 j := by show max _ _ = _; omega
            exact ih (j + 1) (by omega) (by omega) ls (by rw [e8]; exact lv_sub hl [0, 1, 5, 6] rfl)
set_option maxRecDepth 100000 in
set_option maxHeartbeats 1000000 in
theorem c_X3_stepOf (l : Launch) (D : va_G) (k : Nat → ClassId) (bd : Nat → Nat) (M : Nat → Nat → Nat) (O : Nat → Nat → Int32) (th : Int32) (c0 : Nat) (hca : zCa M c0) (hc : c0 < 40) (hp : zPr M) (hk9 : ∀ x, x < 120 → M 15 x ≤ 24000) : Met l yX3_stepOf wsX3_stepOf ({ frames := 0, cells := 0, slots := 0, locals := 0 }) (va_Pc [.ref (bd 0), .int (nI c0)] (zR D k 19 bd (cM k bd M O th))) (vp_Si (fun r => r = nI (gS M c0 3))) 0 0 (fun _ => False) := by
  refine Met.ofW (cc := cX3_stepOf) (maxL := 7) (ret := (some .int)) (by decide) rfl ?_
  intro p e s m args below meth c s₁ B hml hv
  obtain ⟨rfl, hP, hK⟩ := hv
  have hx := B.exec
  have hb := B.bytes
  have hr := B.returns
  have hts := atoms_spec (ws := wsX3_stepOf) B.pre
  have hown : s.vm.findClass RX3 = some m.cls := findClass_of_methodNamed B.named
  have hlocks := B.notSynchronized
  have F : CallFix p m c cX3_stepOf 7 s _ wsX3_stepOf RX3 := ⟨hx, hb, hml, hown, hts⟩
  have hl := lv_entry ([.ref (bd 0), .int (nI c0)]) (n := 7) (Nat.le_of_ble_eq_true rfl)
  rw [lg_entry_eq]
  generalize (lg_sl ([.ref (bd 0), .int (nI c0)]) ++ List.replicate (7 - (lg_sl ([.ref (bd 0), .int (nI c0)])).length) Slot.unset).toArray = ls at hl ⊢
  have hl : lv_has ls 7 [(0, .ref (bd 0)), (1, .int (nI c0))] := hl
  have hi3 : ∀ w ∈ u_ws RX3 TX3 21, w ∈ wsX3_stepOf := by decide +kernel
  obtain ⟨hc1, hc2, hc3, hc4, hc5, hc6, hc7⟩ := id hca
  refine lv_iconst (v := nI 0) hx hb dX3_stepOf_0 (by decide) ?_
  refine lv_istore_n (lv' := [(2, .int (nI 0)), (0, .ref (bd 0)), (1, .int (nI c0))]) hx hb dX3_stepOf_1 rfl hl (by decide) rfl (fun ls hl => ?_)
  refine lv_iconst (v := nI 0) hx hb dX3_stepOf_2 (by decide) ?_
  refine lv_istore_n (lv' := [(3, .int (nI 0)), (2, .int (nI 0)), (0, .ref (bd 0)), (1, .int (nI c0))]) hx hb dX3_stepOf_3 rfl hl (by decide) rfl (fun ls hl => ?_)
  refine lp_stepOf F hK hca hc hp hk9 hP (fun ls hl => ?_) 4 0 (by omega) (by omega) ls (lv_sub hl [0, 1, 2, 3] rfl)
  refine lv_iload_n hx hb dX3_stepOf_118 rfl (lv_at hl 0 rfl) ?_
  exact W.iret (v := nI (gS M c0 3)) hx hb hr (fun t ht hW => ⟨nI (gS M c0 3), rfl, rfl, ht⟩) (fun q h => by cases h) dX3_stepOf_119
