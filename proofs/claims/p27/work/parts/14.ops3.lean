/-- the step and the gravity of the case that is the most urgent so far -/
def uS (M : Nat → Nat → Nat) (b : Nat) : Nat := if b = 0 then 0 else gS M (b - 1) 3
def uG (M : Nat → Nat → Nat) (b : Nat) : Nat := if b = 0 then 0 else M 11 (b - 1)
theorem uS_s (M : Nat → Nat → Nat) (c : Nat) : uS M (c + 1) = gS M c 3 := by unfold uS; rw [if_neg (by omega)]; rfl
theorem uG_s (M : Nat → Nat → Nat) (c : Nat) : uG M (c + 1) = M 11 c := by unfold uG; rw [if_neg (by omega)]; rfl
theorem hdI_s (c : Nat) : hdI (c + 1) = nI c := by unfold hdI; rw [if_neg (by omega)]; rfl
theorem uB_run {M : Nat → Nat → Nat} {c : Nat} (h : M 12 c = 0 ∧ M 14 c = 0) (h2 : uB M c = 0 ∨ uS M (uB M c) < gS M c 3 ∨ (uS M (uB M c) = gS M c 3 ∧ uG M (uB M c) < M 11 c)) : uB M (c + 1) = c + 1 := by
  show (if _ then _ else _) = _
  rw [if_pos]
  refine ⟨h, ?_⟩
  by_cases h0 : uB M c = 0
  · exact Or.inl h0
  · unfold uS uG at h2
    rw [if_neg h0, if_neg h0] at h2
    exact h2
theorem uB_stay {M : Nat → Nat → Nat} {c : Nat} (h : ¬ (M 12 c = 0 ∧ M 14 c = 0)) : uB M (c + 1) = uB M c := by
  show (if _ then _ else _) = _
  rw [if_neg (fun zz1 => h zz1.1)]
theorem uB_less {M : Nat → Nat → Nat} {c : Nat} (h0 : uB M c ≠ 0) (h1 : gS M c 3 ≤ uS M (uB M c)) (h2 : gS M c 3 ≠ uS M (uB M c) ∨ M 11 c ≤ uG M (uB M c)) : uB M (c + 1) = uB M c := by
  show (if _ then _ else _) = _
  rw [if_neg]
  rintro ⟨-, zz1⟩
  have e1 : uS M (uB M c) = gS M (uB M c - 1) 3 := if_neg h0
  have e2 : uG M (uB M c) = M 11 (uB M c - 1) := if_neg h0
  omega
set_option maxRecDepth 100000 in
set_option maxHeartbeats 4000000 in
theorem lp_mostUrgent {p : Program} {l : Launch} {e : Env} {s : State} {m : MethodId} {args : Array Value} {below : List Frame} {meth : Method} {c : Code} {H : Heap} {locs : List Loc} {Q : State → Prop} {D : va_G} {k : Nat → ClassId} {ad : Nat → Nat} {M : Nat → Nat → Nat} {O : Nat → Nat → Int32} (F : CallFix p m c cX2_mostUrgent 7 s args wsX2_mostUrgent RX2) (hK : va_K D vwCl (tyL k) s)
    (hca : ∀ c, c < M 0 1 → zCa M c) (hp : zPr M) (hk : ∀ x, x < 120 → M 15 x ≤ 24000) (h40 : M 0 1 ≤ 40)
    (hP : va_P D vwCl (zw (20 + 2 * M 0 1) ad (cX k ad M O)) H)
    (k0 : ∀ (ls : Array Slot), lv_has ls 7 [(1, .int (hdI (uB M (M 0 1))))] → W p l e (headSpec wsX2_mostUrgent ({ frames := 3, cells := 0, slots := 0, locals := 69 })).room s m args below meth c H locs 0 0 Q (F0 m 92 ls [])) :
    ∀ (fu i : Nat), i ≤ M 0 1 → M 0 1 < i + fu → ∀ (ls : Array Slot), lv_has ls 7 [(4, .int (nI i)), (1, .int (hdI (uB M i))), (2, .int (nI (uS M (uB M i)))), (3, .int (nI (uG M (uB M i)))), (0, .ref (ad 0))] → W p l e (headSpec wsX2_mostUrgent ({ frames := 3, cells := 0, slots := 0, locals := 69 })).room s m args below meth c H locs 0 0 Q (F0 m 9 ls []) := by
  have hx := F.1
  have hb := F.2.1
  have hts := F.2.2.2.2
  have hown := F.2.2.2.1
  have hi2 : ∀ w ∈ u_ws RX2 TX2 5, w ∈ wsX2_mostUrgent := by decide +kernel
  have hi0 : ∀ w ∈ u_ws RX0 TX0 8, w ∈ wsX2_mostUrgent := by decide +kernel
  intro fu
  induction fu with
  | zero => intro i h1 h2; omega
  | succ fu ih =>
    intro i h1 h2 ls hl
    have hu := uB_le M i
    refine lv_iload hx hb dX2_mostUrgent_9 (lv_at hl 0 rfl) ?_
    refine lv_aload_n hx hb dX2_mostUrgent_11 rfl (lv_at hl 4 rfl) ?_
    refine z_get (C := RX2) (T := TX2) (N := 5) (ci := 2) (v := .int (nI (M 0 1))) F hK hP hi2 rfl (0) 3 (by omega) cX_0 (by decide) rfl (by decide +kernel) dX2_mostUrgent_12 ?_
    refine z_icmp_ge (tgt := 92) F (by omega) (by omega) dX2_mostUrgent_15 (by decide) (fun c1 => ?_) (fun c1 => ?_)
    · obtain rfl : i = M 0 1 := by omega
      exact k0 ls (lv_sub hl [1] rfl)
    · refine lv_aload_n hx hb dX2_mostUrgent_18 rfl (lv_at hl 4 rfl) ?_
      refine z_get (C := RX2) (T := TX2) (N := 5) (ci := 2) (v := .ref (ad 3)) F hK hP hi2 rfl (0) 2 (by omega) cX_0 (by decide) rfl (by decide +kernel) dX2_mostUrgent_19 ?_
      refine lv_iload hx hb dX2_mostUrgent_22 (lv_at hl 0 rfl) ?_
      refine z_aldq (v := if i < M 0 1 then some (ad (20 + 2 * i)) else none) F hK hP (3) 3 (by omega) cX_3 rfl (i := nI i) i rfl (by omega) (by decide) rfl dX2_mostUrgent_24 ?_
      have hin : i < M 0 1 := by omega
      rw [if_pos hin]
      refine z_rf ?_
      have hz := hca i hin
      obtain ⟨hc1, hc2, hc3, hc4, hc5, hc6, hc7⟩ := id hz
      have hg := gS_le M i 3
      have hus : uS M (uB M i) ≤ 3 := by unfold uS; split; omega; exact gS_le M _ 3
      have hug : uG M (uB M i) < 3 := by
        unfold uG
        by_cases q0 : uB M i = 0
        · rw [if_pos q0]; omega
        · rw [if_neg q0]; exact (hca (uB M i - 1) (by omega)).2.2.1
      refine lv_astore (lv' := [(5, .ref (ad (20 + 2 * i))), (4, .int (nI i)), (1, .int (hdI (uB M i))), (2, .int (nI (uS M (uB M i)))), (3, .int (nI (uG M (uB M i)))), (0, .ref (ad 0))]) hx hb dX2_mostUrgent_25 hl (by decide) rfl (fun ls hl => ?_)
      refine lv_aload hx hb dX2_mostUrgent_27 (lv_at hl 0 rfl) ?_
      refine lv_ifnull hx hb dX2_mostUrgent_29 ?_
      refine lv_aload hx hb dX2_mostUrgent_32 (lv_at hl 0 rfl) ?_
      refine z_cV (qc := (RX0, TX0, 8)) (As := []) (rest := []) (20 + 2 * i) F (c_X0_isRunning l D k ad M O i hz hin) (cwV 0 hts gX2_mostUrgent_X0_isRunning rfl rfl rfl (by decide +kernel) ⟨Nat.le_of_ble_eq_true rfl, Nat.le_of_ble_eq_true rfl⟩) hK hP (show 20 + 2 * i < 20 + 2 * M 0 1 by have := hin; omega) cX_c rfl rfl hl.1 rfl (Nat.le_of_ble_eq_true rfl) dX2_mostUrgent_34 ⟨Nat.le_of_ble_eq_true rfl, Nat.le_of_ble_eq_true rfl⟩ (fun r hr => ?_)
      subst hr
      refine z_ifb_eq (tgt := 86) F dX2_mostUrgent_37 (by decide) (fun c2 => ?_) (fun c2 => ?_)
      · refine lv_iinc (v := nI (i + 1)) (lv' := [(4, .int (nI (i + 1))), (5, .ref (ad (20 + 2 * i))), (1, .int (hdI (uB M i))), (2, .int (nI (uS M (uB M i)))), (3, .int (nI (uG M (uB M i)))), (0, .ref (ad 0))]) hx hb dX2_mostUrgent_86 hl (k := 1) rfl (nI_1 i) (by decide) rfl (fun ls hl => ?_)
        refine lv_goto (tgt := 9) hx hb dX2_mostUrgent_89 (by decide) ?_
        have e1 : uB M (i + 1) = uB M i := uB_stay c2
        have e2 : hdI (uB M (i + 1)) = hdI (uB M i) := by rw [e1]
        have e3 : uS M (uB M (i + 1)) = uS M (uB M i) := by rw [e1]
        have e4 : uG M (uB M (i + 1)) = uG M (uB M i) := by rw [e1]
        exact ih (i + 1) (by omega) (by omega) ls (by rw [e2, e3, e4]; exact lv_sub hl [0, 2, 3, 4, 5] rfl)
      · refine lv_aload_n hx hb dX2_mostUrgent_40 rfl (lv_at hl 5 rfl) ?_
        refine lv_aload hx hb dX2_mostUrgent_41 (lv_at hl 0 rfl) ?_
        refine z_cV (qc := (RX2, TX2, 5)) (As := [.ref (ad (20 + 2 * i))]) (rest := []) (0) F (c_X2_greatestStep l D k ad M O i hz hin hp hk h40) (cwV 1 hts gX2_mostUrgent_X2_greatestStep rfl rfl rfl (by decide +kernel) ⟨Nat.le_of_ble_eq_true rfl, Nat.le_of_ble_eq_true rfl⟩) hK hP (by omega) cX_0 rfl rfl hl.1 rfl (Nat.le_of_ble_eq_true rfl) dX2_mostUrgent_43 ⟨Nat.le_of_ble_eq_true rfl, Nat.le_of_ble_eq_true rfl⟩ (fun r hr => ?_)
        subst hr
        refine lv_istore (lv' := [(6, .int (nI (gS M i 3))), (5, .ref (ad (20 + 2 * i))), (4, .int (nI i)), (1, .int (hdI (uB M i))), (2, .int (nI (uS M (uB M i)))), (3, .int (nI (uG M (uB M i)))), (0, .ref (ad 0))]) hx hb dX2_mostUrgent_46 hl (by decide) rfl (fun ls hl => ?_)
        refine lv_iload_n hx hb dX2_mostUrgent_48 rfl (lv_at hl 3 rfl) ?_
        refine lv_iconst (v := (-1)) hx hb dX2_mostUrgent_49 (by decide) ?_
        refine lv_icmp_eq (tgt := 74) hx hb dX2_mostUrgent_50 (by decide) (fun c3 => ?_) (fun c3 => ?_)
        · refine lv_iload hx hb dX2_mostUrgent_74 (lv_at hl 2 rfl) ?_
          refine lv_istore_n (lv' := [(1, .int (nI i)), (6, .int (nI (gS M i 3))), (5, .ref (ad (20 + 2 * i))), (4, .int (nI i)), (2, .int (nI (uS M (uB M i)))), (3, .int (nI (uG M (uB M i)))), (0, .ref (ad 0))]) hx hb dX2_mostUrgent_76 rfl hl (by decide) rfl (fun ls hl => ?_)
          refine lv_iload hx hb dX2_mostUrgent_77 (lv_at hl 1 rfl) ?_
          refine lv_istore_n (lv' := [(2, .int (nI (gS M i 3))), (1, .int (nI i)), (6, .int (nI (gS M i 3))), (5, .ref (ad (20 + 2 * i))), (4, .int (nI i)), (3, .int (nI (uG M (uB M i)))), (0, .ref (ad 0))]) hx hb dX2_mostUrgent_79 rfl hl (by decide) rfl (fun ls hl => ?_)
          refine lv_aload hx hb dX2_mostUrgent_80 (lv_at hl 3 rfl) ?_
          refine z_get (C := RX0) (T := TX0) (N := 8) (ci := 0) (v := .int (nI (M 11 i))) F hK hP hi0 rfl (20 + 2 * i) 2 (show 20 + 2 * i < 20 + 2 * M 0 1 by have := hin; omega) cX_c (by decide) rfl (by decide +kernel) dX2_mostUrgent_82 ?_
          refine lv_istore_n (lv' := [(3, .int (nI (M 11 i))), (2, .int (nI (gS M i 3))), (1, .int (nI i)), (6, .int (nI (gS M i 3))), (5, .ref (ad (20 + 2 * i))), (4, .int (nI i)), (0, .ref (ad 0))]) hx hb dX2_mostUrgent_85 rfl hl (by decide) rfl (fun ls hl => ?_)
          refine lv_iinc (v := nI (i + 1)) (lv' := [(4, .int (nI (i + 1))), (3, .int (nI (M 11 i))), (2, .int (nI (gS M i 3))), (1, .int (nI i)), (6, .int (nI (gS M i 3))), (5, .ref (ad (20 + 2 * i))), (0, .ref (ad 0))]) hx hb dX2_mostUrgent_86 hl (k := 5) rfl (nI_1 i) (by decide) rfl (fun ls hl => ?_)
          refine lv_goto (tgt := 9) hx hb dX2_mostUrgent_89 (by decide) ?_
          have e1 : uB M (i + 1) = i + 1 := uB_run c2 (Or.inl ((hdI_0 (by omega)).mp c3))
          have e2 : hdI (uB M (i + 1)) = nI i := by rw [e1, hdI_s]
          have e3 : uS M (uB M (i + 1)) = gS M i 3 := by rw [e1, uS_s]
          have e4 : uG M (uB M (i + 1)) = M 11 i := by rw [e1, uG_s]
          exact ih (i + 1) (by omega) (by omega) ls (by rw [e2, e3, e4]; exact lv_sub hl [0, 3, 2, 1, 6] rfl)
        · refine lv_iload hx hb dX2_mostUrgent_53 (lv_at hl 0 rfl) ?_
          refine lv_iload_n hx hb dX2_mostUrgent_55 rfl (lv_at hl 4 rfl) ?_
          refine z_icmp_gt (tgt := 74) F (by omega) (by omega) dX2_mostUrgent_56 (by decide) (fun c4 => ?_) (fun c4 => ?_)
          · refine lv_iload hx hb dX2_mostUrgent_74 (lv_at hl 2 rfl) ?_
            refine lv_istore_n (lv' := [(1, .int (nI i)), (6, .int (nI (gS M i 3))), (5, .ref (ad (20 + 2 * i))), (4, .int (nI i)), (2, .int (nI (uS M (uB M i)))), (3, .int (nI (uG M (uB M i)))), (0, .ref (ad 0))]) hx hb dX2_mostUrgent_76 rfl hl (by decide) rfl (fun ls hl => ?_)
            refine lv_iload hx hb dX2_mostUrgent_77 (lv_at hl 1 rfl) ?_
            refine lv_istore_n (lv' := [(2, .int (nI (gS M i 3))), (1, .int (nI i)), (6, .int (nI (gS M i 3))), (5, .ref (ad (20 + 2 * i))), (4, .int (nI i)), (3, .int (nI (uG M (uB M i)))), (0, .ref (ad 0))]) hx hb dX2_mostUrgent_79 rfl hl (by decide) rfl (fun ls hl => ?_)
            refine lv_aload hx hb dX2_mostUrgent_80 (lv_at hl 3 rfl) ?_
            refine z_get (C := RX0) (T := TX0) (N := 8) (ci := 0) (v := .int (nI (M 11 i))) F hK hP hi0 rfl (20 + 2 * i) 2 (show 20 + 2 * i < 20 + 2 * M 0 1 by have := hin; omega) cX_c (by decide) rfl (by decide +kernel) dX2_mostUrgent_82 ?_
            refine lv_istore_n (lv' := [(3, .int (nI (M 11 i))), (2, .int (nI (gS M i 3))), (1, .int (nI i)), (6, .int (nI (gS M i 3))), (5, .ref (ad (20 + 2 * i))), (4, .int (nI i)), (0, .ref (ad 0))]) hx hb dX2_mostUrgent_85 rfl hl (by decide) rfl (fun ls hl => ?_)
            refine lv_iinc (v := nI (i + 1)) (lv' := [(4, .int (nI (i + 1))), (3, .int (nI (M 11 i))), (2, .int (nI (gS M i 3))), (1, .int (nI i)), (6, .int (nI (gS M i 3))), (5, .ref (ad (20 + 2 * i))), (0, .ref (ad 0))]) hx hb dX2_mostUrgent_86 hl (k := 5) rfl (nI_1 i) (by decide) rfl (fun ls hl => ?_)
            refine lv_goto (tgt := 9) hx hb dX2_mostUrgent_89 (by decide) ?_
            have e1 : uB M (i + 1) = i + 1 := uB_run c2 (Or.inr (Or.inl c4))
            have e2 : hdI (uB M (i + 1)) = nI i := by rw [e1, hdI_s]
            have e3 : uS M (uB M (i + 1)) = gS M i 3 := by rw [e1, uS_s]
            have e4 : uG M (uB M (i + 1)) = M 11 i := by rw [e1, uG_s]
            exact ih (i + 1) (by omega) (by omega) ls (by rw [e2, e3, e4]; exact lv_sub hl [0, 3, 2, 1, 6] rfl)
          · refine lv_iload hx hb dX2_mostUrgent_59 (lv_at hl 0 rfl) ?_
            refine lv_iload_n hx hb dX2_mostUrgent_61 rfl (lv_at hl 4 rfl) ?_
            refine z_icmp_ne (tgt := 86) F (by omega) (by omega) dX2_mostUrgent_62 (by decide) (fun c5 => ?_) (fun c5 => ?_)
            · refine lv_iinc (v := nI (i + 1)) (lv' := [(4, .int (nI (i + 1))), (6, .int (nI (gS M i 3))), (5, .ref (ad (20 + 2 * i))), (1, .int (hdI (uB M i))), (2, .int (nI (uS M (uB M i)))), (3, .int (nI (uG M (uB M i)))), (0, .ref (ad 0))]) hx hb dX2_mostUrgent_86 hl (k := 2) rfl (nI_1 i) (by decide) rfl (fun ls hl => ?_)
              refine lv_goto (tgt := 9) hx hb dX2_mostUrgent_89 (by decide) ?_
              have e1 : uB M (i + 1) = uB M i := uB_less (fun zz1 => c3 ((hdI_0 (by omega)).mpr zz1)) (by omega) (Or.inl c5)
              have e2 : hdI (uB M (i + 1)) = hdI (uB M i) := by rw [e1]
              have e3 : uS M (uB M (i + 1)) = uS M (uB M i) := by rw [e1]
              have e4 : uG M (uB M (i + 1)) = uG M (uB M i) := by rw [e1]
              exact ih (i + 1) (by omega) (by omega) ls (by rw [e2, e3, e4]; exact lv_sub hl [0, 3, 4, 5, 6] rfl)
            · refine lv_aload hx hb dX2_mostUrgent_65 (lv_at hl 1 rfl) ?_
              refine z_get (C := RX0) (T := TX0) (N := 8) (ci := 0) (v := .int (nI (M 11 i))) F hK hP hi0 rfl (20 + 2 * i) 2 (show 20 + 2 * i < 20 + 2 * M 0 1 by have := hin; omega) cX_c (by decide) rfl (by decide +kernel) dX2_mostUrgent_67 ?_
              refine lv_iload_n hx hb dX2_mostUrgent_70 rfl (lv_at hl 5 rfl) ?_
              refine z_icmp_le (tgt := 86) F (by omega) (by omega) dX2_mostUrgent_71 (by decide) (fun c6 => ?_) (fun c6 => ?_)
              · refine lv_iinc (v := nI (i + 1)) (lv' := [(4, .int (nI (i + 1))), (6, .int (nI (gS M i 3))), (5, .ref (ad (20 + 2 * i))), (1, .int (hdI (uB M i))), (2, .int (nI (uS M (uB M i)))), (3, .int (nI (uG M (uB M i)))), (0, .ref (ad 0))]) hx hb dX2_mostUrgent_86 hl (k := 2) rfl (nI_1 i) (by decide) rfl (fun ls hl => ?_)
                refine lv_goto (tgt := 9) hx hb dX2_mostUrgent_89 (by decide) ?_
                have e1 : uB M (i + 1) = uB M i := uB_less (fun zz1 => c3 ((hdI_0 (by omega)).mpr zz1)) (by omega) (Or.inr c6)
                have e2 : hdI (uB M (i + 1)) = hdI (uB M i) := by rw [e1]
                have e3 : uS M (uB M (i + 1)) = uS M (uB M i) := by rw [e1]
                have e4 : uG M (uB M (i + 1)) = uG M (uB M i) := by rw [e1]
                exact ih (i + 1) (by omega) (by omega) ls (by rw [e2, e3, e4]; exact lv_sub hl [0, 3, 4, 5, 6] rfl)
              · refine lv_iload hx hb dX2_mostUrgent_74 (lv_at hl 2 rfl) ?_
                refine lv_istore_n (lv' := [(1, .int (nI i)), (6, .int (nI (gS M i 3))), (5, .ref (ad (20 + 2 * i))), (4, .int (nI i)), (2, .int (nI (uS M (uB M i)))), (3, .int (nI (uG M (uB M i)))), (0, .ref (ad 0))]) hx hb dX2_mostUrgent_76 rfl hl (by decide) rfl (fun ls hl => ?_)
                refine lv_iload hx hb dX2_mostUrgent_77 (lv_at hl 1 rfl) ?_
                refine lv_istore_n (lv' := [(2, .int (nI (gS M i 3))), (1, .int (nI i)), (6, .int (nI (gS M i 3))), (5, .ref (ad (20 + 2 * i))), (4, .int (nI i)), (3, .int (nI (uG M (uB M i)))), (0, .ref (ad 0))]) hx hb dX2_mostUrgent_79 rfl hl (by decide) rfl (fun ls hl => ?_)
                refine lv_aload hx hb dX2_mostUrgent_80 (lv_at hl 3 rfl) ?_
                refine z_get (C := RX0) (T := TX0) (N := 8) (ci := 0) (v := .int (nI (M 11 i))) F hK hP hi0 rfl (20 + 2 * i) 2 (show 20 + 2 * i < 20 + 2 * M 0 1 by have := hin; omega) cX_c (by decide) rfl (by decide +kernel) dX2_mostUrgent_82 ?_
                refine lv_istore_n (lv' := [(3, .int (nI (M 11 i))), (2, .int (nI (gS M i 3))), (1, .int (nI i)), (6, .int (nI (gS M i 3))), (5, .ref (ad (20 + 2 * i))), (4, .int (nI i)), (0, .ref (ad 0))]) hx hb dX2_mostUrgent_85 rfl hl (by decide) rfl (fun ls hl => ?_)
                refine lv_iinc (v := nI (i + 1)) (lv' := [(4, .int (nI (i + 1))), (3, .int (nI (M 11 i))), (2, .int (nI (gS M i 3))), (1, .int (nI i)), (6, .int (nI (gS M i 3))), (5, .ref (ad (20 + 2 * i))), (0, .ref (ad 0))]) hx hb dX2_mostUrgent_86 hl (k := 5) rfl (nI_1 i) (by decide) rfl (fun ls hl => ?_)
                refine lv_goto (tgt := 9) hx hb dX2_mostUrgent_89 (by decide) ?_
                have e1 : uB M (i + 1) = i + 1 := uB_run c2 (Or.inr (Or.inr ⟨by omega, by omega⟩))
                have e2 : hdI (uB M (i + 1)) = nI i := by rw [e1, hdI_s]
                have e3 : uS M (uB M (i + 1)) = gS M i 3 := by rw [e1, uS_s]
                have e4 : uG M (uB M (i + 1)) = M 11 i := by rw [e1, uG_s]
                exact ih (i + 1) (by omega) (by omega) ls (by rw [e2, e3, e4]; exact lv_sub hl [0, 3, 2, 1, 6] rfl)
set_option maxRecDepth 100000 in
set_option maxHeartbeats 4000000 in
theorem c_X2_mostUrgent (l : Launch) (hfl : l.stackTraces = false) (sa : Nat → Nat) (D : va_G) (k : Nat → ClassId) (ad : Nat → Nat) (M : Nat → Nat → Nat) (O : Nat → Nat → Int32) (sz : Nat) (hI : zInv M)  : vx_Met l yX2_mostUrgent wsX2_mostUrgent ({ frames := 3, cells := 0, slots := 0, locals := 69 }) (va_Pc [.ref (ad 0)] (zPre D k ad M O sz sa)) (zQop D k ad M (M) (O) (va_A (zw (20 + 2 * M 0 1) ad (cX k ad M O)) sz) (x3 (True) (True) (True)) (hdI (uB M (M 0 1)))) (zX (fun E => exC E (x3 (True) (True) (True)))) 0 0 (va_A (zw (20 + 2 * M 0 1) ad (cX k ad M O)) sz) := by
  refine vx_ofW (cc := cX2_mostUrgent) (maxL := 7) (ret := (some .int)) (by decide) rfl ?_
  intro p e s m args below meth c s₁ B hml hnox hv
  obtain ⟨rfl, ⟨hsz, ⟨hP, hK⟩, hD0⟩, hE⟩ := hv
  have hx := B.exec
  have hb := B.bytes
  have hr := B.returns
  have hts := atoms_spec (ws := wsX2_mostUrgent) B.pre
  have hown : s.vm.findClass RX2 = some m.cls := findClass_of_methodNamed B.named
  have hlocks := B.notSynchronized
  have F : CallFix p m c cX2_mostUrgent 7 s _ wsX2_mostUrgent RX2 := ⟨hx, hb, hml, hown, hts⟩
  subst hsz
  have hD := hD0.self (sz := s.heap.size)
  generalize hAe : va_A (zw (20 + 2 * M 0 1) ad (cX k ad M O)) s.heap.size = A at hD hE ⊢
  have hA : ∀ q : Nat, s.heap.size ≤ q → A q := fun q h => by rw [← hAe]; exact Or.inr h
  have hS0 : va_S noA s.heap s.heap [] := va_S.rf
  obtain ⟨hI1, hI2, hI3, hI4, hI5, hI6, hI7⟩ := id hI
  have hl := lv_entry ([.ref (ad 0)]) (n := 7) (Nat.le_of_ble_eq_true rfl)
  rw [lg_entry_eq]
  generalize (lg_sl ([.ref (ad 0)]) ++ List.replicate (7 - (lg_sl ([.ref (ad 0)])).length) Slot.unset).toArray = ls at hl ⊢
  have hl : lv_has ls 7 [(0, .ref (ad 0))] := hl
  have hk9 : ∀ x, x < 120 → M 15 x ≤ 24000 := fun x h => Nat.le_trans (hI6 x h) hI1
  refine lv_iconst (v := (-1)) hx hb dX2_mostUrgent_0 (by decide) ?_
  refine lv_istore_n (lv' := [(1, .int (-1)), (0, .ref (ad 0))]) hx hb dX2_mostUrgent_1 rfl hl (by decide) rfl (fun ls hl => ?_)
  refine lv_iconst (v := nI 0) hx hb dX2_mostUrgent_2 (by decide) ?_
  refine lv_istore_n (lv' := [(2, .int (nI 0)), (1, .int (-1)), (0, .ref (ad 0))]) hx hb dX2_mostUrgent_3 rfl hl (by decide) rfl (fun ls hl => ?_)
  refine lv_iconst (v := nI 0) hx hb dX2_mostUrgent_4 (by decide) ?_
  refine lv_istore_n (lv' := [(3, .int (nI 0)), (2, .int (nI 0)), (1, .int (-1)), (0, .ref (ad 0))]) hx hb dX2_mostUrgent_5 rfl hl (by decide) rfl (fun ls hl => ?_)
  refine lv_iconst (v := nI 0) hx hb dX2_mostUrgent_6 (by decide) ?_
  refine lv_istore (lv' := [(4, .int (nI 0)), (3, .int (nI 0)), (2, .int (nI 0)), (1, .int (-1)), (0, .ref (ad 0))]) hx hb dX2_mostUrgent_7 hl (by decide) rfl (fun ls hl => ?_)
  have hS := zS_mono (B := A) hS0 noA_le
  refine lp_mostUrgent F hK hI5 hI4 hk9 hI2 hP (fun ls hl => ?_) (M 0 1 + 1) 0 (Nat.zero_le _) (by omega) ls (lv_sub hl [0, 3, 2, 1, 4] rfl)
  refine lv_iload_n hx hb dX2_mostUrgent_92 rfl (lv_at hl 0 rfl) ?_
  refine vx_ret (mc := 0) (ms := 0) (W.widen (k := 0) (n := 0) (Nat.le_of_ble_eq_true rfl) (Nat.le_of_ble_eq_true rfl) ?_)
  exact W.iret (v := hdI (uB M (M 0 1))) hx hb hr (fun t ht hW => ⟨⟨hdI (uB M (M 0 1)), ad, rfl, ⟨x3_0 trivial trivial trivial, rfl⟩, ⟨⟨by rw [ht]; exact hP, va_K.moved hW.alike hK⟩, hD⟩, fun _ _ => rfl⟩, hS.F ht⟩) hS.2.2 dX2_mostUrgent_93
set_option maxRecDepth 100000 in
set_option maxHeartbeats 4000000 in
theorem c_X2_work (l : Launch) (hfl : l.stackTraces = false) (sa : Nat → Nat) (D : va_G) (k : Nat → ClassId) (ad : Nat → Nat) (M : Nat → Nat → Nat) (O : Nat → Nat → Int32) (sz : Nat) (hI : zInv M) (p0 p1 : Int32) : vx_Met l yX2_work wsX2_work ({ frames := 8, cells := 3, slots := 18, locals := 124 }) (va_Pc [.ref (ad 0), .int p0, .int p1] (zPre D k ad M O sz sa)) (zQop D k ad M (M) (wkO M O (ix p0) (ix p1)) (va_A (zw (20 + 2 * M 0 1) ad (cX k ad M O)) sz) (x3 (zI (M 0 1) p0) (nI 1 ≤ p1 ∧ p1 ≤ nI 100) (M 12 (ix p0) = 0)) (wkR M O (ix p0) (ix p1))) (zX (fun E => exC E (x3 (zI (M 0 1) p0) (nI 1 ≤ p1 ∧ p1 ≤ nI 100) (M 12 (ix p0) = 0)))) 3 18 (va_A (zw (20 + 2 * M 0 1) ad (cX k ad M O)) sz) := by
  refine vx_ofW (cc := cX2_work) (maxL := 7) (ret := (some .int)) (by decide) rfl ?_
  intro p e s m args below meth c s₁ B hml hnox hv
  obtain ⟨rfl, ⟨hsz, ⟨hP, hK⟩, hD0⟩, hE⟩ := hv
  have hx := B.exec
  have hb := B.bytes
  have hr := B.returns
  have hts := atoms_spec (ws := wsX2_work) B.pre
  have hown : s.vm.findClass RX2 = some m.cls := findClass_of_methodNamed B.named
  have hlocks := B.notSynchronized
  have F : CallFix p m c cX2_work 7 s _ wsX2_work RX2 := ⟨hx, hb, hml, hown, hts⟩
  subst hsz
  have hD := hD0.self (sz := s.heap.size)
  generalize hAe : va_A (zw (20 + 2 * M 0 1) ad (cX k ad M O)) s.heap.size = A at hD hE ⊢
  have hA : ∀ q : Nat, s.heap.size ≤ q → A q := fun q h => by rw [← hAe]; exact Or.inr h
  have hS0 : va_S noA s.heap s.heap [] := va_S.rf
  obtain ⟨hI1, hI2, hI3, hI4, hI5, hI6, hI7⟩ := id hI
  have hl := lv_entry ([.ref (ad 0), .int p0, .int p1]) (n := 7) (Nat.le_of_ble_eq_true rfl)
  rw [lg_entry_eq]
  generalize (lg_sl ([.ref (ad 0), .int p0, .int p1]) ++ List.replicate (7 - (lg_sl ([.ref (ad 0), .int p0, .int p1])).length) Slot.unset).toArray = ls at hl ⊢
  have hl : lv_has ls 7 [(0, .ref (ad 0)), (1, .int p0), (2, .int p1)] := hl
  have hi0 : ∀ w ∈ u_ws RX0 TX0 8, w ∈ wsX2_work := by decide +kernel
  have hi1 : ∀ w ∈ u_ws RX1 TX1 9, w ∈ wsX2_work := by decide +kernel
  refine lv_aload_n hx hb dX2_work_0 rfl (lv_at hl 0 rfl) ?_
  refine lv_iload_n hx hb dX2_work_1 rfl (lv_at hl 1 rfl) ?_
  refine z_xVq (qc := (RX2, TX2, 5)) (As := [.int p0]) (rest := []) (0) F (c_X2_caseAt l hfl sa D k ad M O hI2 p0) (cwV 1 hts gX2_work_X2_caseAt rfl rfl rfl (by decide +kernel) ⟨Nat.le_of_ble_eq_true rfl, Nat.le_of_ble_eq_true rfl⟩) hK hP (by omega) cX_0 rfl hE hS0 hnox hlocks rfl hl.1 rfl (Nat.le_of_ble_eq_true rfl) dX2_work_2 ⟨Nat.le_of_ble_eq_true rfl, Nat.le_of_ble_eq_true rfl⟩ (Nat.le_of_ble_eq_true rfl) (Nat.le_of_ble_eq_true rfl) (fun E hpx => by obtain ⟨rfl, zz1⟩ := hpx; exact exC_1 (fun zz2 => zz1 zz2)) (fun a9 ha9 H1 locs1 hz1 hk1 hS0 => ?_)
  replace hP := z_keptP hP hk1
  obtain ⟨i, hi, rfl, rfl⟩ := ha9
  try rw [ix_nI (show i < 2 ^ 31 by omega)]
  have xa : zI (M 0 1) (nI i) := ⟨i, hi, rfl⟩
  have hz := hI5 i hi
  obtain ⟨hc1, hc2, hc3, hc4, hc5, hc6, hc7⟩ := id hz
  refine lv_astore_n (lv' := [(3, .ref (ad (20 + 2 * i))), (0, .ref (ad 0)), (1, .int (nI i)), (2, .int p1)]) hx hb dX2_work_5 rfl hl (by decide) rfl (fun ls hl => ?_)
  refine lv_iload_n hx hb dX2_work_6 rfl (lv_at hl 3 rfl) ?_
  refine lv_iconst (v := nI 1) hx hb dX2_work_7 (by decide) ?_
  refine lv_bipush (v := nI 100) hx hb dX2_work_8 (by decide) ?_
  refine z_xS (As := [.int p1, .int (nI 1), .int (nI 100)]) (rest := []) F (c_X2_checkRange l hfl sa (p1) (nI 1) (nI 100)) (va_cwS 3 hts gX2_work_X2_checkRange rfl rfl rfl (by decide +kernel) ⟨Nat.le_of_ble_eq_true rfl, Nat.le_of_ble_eq_true rfl⟩) hE hS0 hnox hlocks rfl hl.1 rfl (Nat.le_of_ble_eq_true rfl) dX2_work_10 ⟨Nat.le_of_ble_eq_true rfl, Nat.le_of_ble_eq_true rfl⟩ (Nat.le_of_ble_eq_true rfl) (Nat.le_of_ble_eq_true rfl) (fun E hpx => by obtain ⟨rfl, zz1⟩ := hpx; exact exC_2 xa (fun zz2 => zz1 zz2)) (fun c7 H1 locs1 hz1 hk1 hS0 => ?_)
  replace hP := z_keptP hP hk1
  obtain ⟨h0, hh00, hh0, rfl⟩ := (zB_iff (by omega) (by decide)).mp c7
  try rw [ix_nI (show h0 < 2 ^ 31 by omega)]
  refine lv_aload_n hx hb dX2_work_13 rfl (lv_at hl 0 rfl) ?_
  refine z_get (C := RX0) (T := TX0) (N := 8) (ci := 0) (v := .int (nI (M 12 i))) F hK hP hi0 rfl (20 + 2 * i) 3 (show 20 + 2 * i < 20 + 2 * M 0 1 by have := hi; omega) cX_c (by decide) rfl (by decide +kernel) dX2_work_14 ?_
  refine z_ifn_ne (tgt := 24) F (by omega) dX2_work_17 (by decide) (fun c8 => ?_) (fun c8 => ?_)
  · refine lv_iconst (v := nI 0) hx hb dX2_work_24 (by decide) ?_
    refine z_top (show nI 0 = bI (M 12 i = 0) from (bI_f (c8)).symm) ?_
    refine z_xS (As := [.int (bI (M 12 i = 0))]) (rest := []) F (c_X2_checkState l hfl sa (M 12 i = 0)) (va_cwS 1 hts gX2_work_X2_checkState rfl rfl rfl (by decide +kernel) ⟨Nat.le_of_ble_eq_true rfl, Nat.le_of_ble_eq_true rfl⟩) hE hS0 hnox hlocks rfl hl.1 rfl (Nat.le_of_ble_eq_true rfl) dX2_work_25 ⟨Nat.le_of_ble_eq_true rfl, Nat.le_of_ble_eq_true rfl⟩ (Nat.le_of_ble_eq_true rfl) (Nat.le_of_ble_eq_true rfl) (fun E hpx => by obtain ⟨rfl, zz1⟩ := hpx; exact exC_3 xa c7 zz1) (fun c9 H1 locs1 hz1 hk1 hS0 => ?_)
    replace hP := z_keptP hP hk1
    have hS := zS_mono (B := A) hS0 noA_le
    refine lv_aload_n hx hb dX2_work_28 rfl (lv_at hl 1 rfl) ?_
    refine lv_aload_n hx hb dX2_work_29 rfl (lv_at hl 0 rfl) ?_
    refine z_cV (qc := (RX2, TX2, 5)) (As := [.ref (ad (20 + 2 * i))]) (rest := []) (0) F (c_X2_isCoveredToday l D k ad M O i hz hi (hI3 _ hc1).1 (hI3 _ hc1).2 hI1) (cwV 1 hts gX2_work_X2_isCoveredToday rfl rfl rfl (by decide +kernel) ⟨Nat.le_of_ble_eq_true rfl, Nat.le_of_ble_eq_true rfl⟩) hK hP (by omega) cX_0 rfl rfl hl.1 rfl (Nat.le_of_ble_eq_true rfl) dX2_work_30 ⟨Nat.le_of_ble_eq_true rfl, Nat.le_of_ble_eq_true rfl⟩ (fun r hr => ?_)
    subst hr
    refine z_ifb_eq (tgt := 38) F dX2_work_33 (by decide) (fun c10 => ?_) (fun c10 => ?_)
    · refine lv_aload_n hx hb dX2_work_38 rfl (lv_at hl 0 rfl) ?_
      refine z_get (C := RX0) (T := TX0) (N := 8) (ci := 0) (v := .ref (ad (4 + 4 * (M 9 i)))) F hK hP hi0 rfl (20 + 2 * i) 0 (show 20 + 2 * i < 20 + 2 * M 0 1 by have := hi; omega) cX_c (by decide) rfl (by decide +kernel) dX2_work_39 ?_
      refine lv_astore (lv' := [(4, .ref (ad (4 + 4 * (M 9 i)))), (3, .ref (ad (20 + 2 * i))), (0, .ref (ad 0)), (1, .int (nI i)), (2, .int (nI h0))]) hx hb dX2_work_42 hl (by decide) rfl (fun ls hl => ?_)
      refine lv_iload_n hx hb dX2_work_44 rfl (lv_at hl 4 rfl) ?_
      refine lv_aload hx hb dX2_work_45 (lv_at hl 0 rfl) ?_
      refine z_get (C := RX1) (T := TX1) (N := 9) (ci := 1) (v := .int (O 0 (M 9 i))) F hK hP hi1 rfl (4 + 4 * (M 9 i)) 7 (by have := hc1; omega) (cX_s hc1) (by decide) rfl (by decide +kernel) dX2_work_47 ?_
      refine va_mmin hx hb (by rw [hl.1, F.2.2.1]) hown (hts _ (by decide +kernel)) (hts _ (by decide +kernel)) (hts _ (by decide +kernel)) (hts _ (by decide +kernel)) (Nat.le_of_ble_eq_true rfl) (Nat.le_of_ble_eq_true rfl) (Nat.le_of_ble_eq_true rfl) (Nat.le_of_ble_eq_true rfl) dX2_work_50 ?_
      refine z_top (show _ = wkU O (M 9 i) h0 from rfl) ?_
      refine lv_istore (lv' := [(5, .int (wkU O (M 9 i) h0)), (4, .ref (ad (4 + 4 * (M 9 i)))), (3, .ref (ad (20 + 2 * i))), (0, .ref (ad 0)), (1, .int (nI i)), (2, .int (nI h0))]) hx hb dX2_work_53 hl (by decide) rfl (fun ls hl => ?_)
      refine lv_iload_n hx hb dX2_work_55 rfl (lv_at hl 5 rfl) ?_
      refine lv_iload hx hb dX2_work_56 (lv_at hl 0 rfl) ?_
      refine lv_isub hx hb dX2_work_58 ?_
      refine lv_sipush (v := nI 9000) hx hb dX2_work_59 (by decide) ?_
      refine lv_imul hx hb dX2_work_62 ?_
      refine z_top (show _ = wkC O (M 9 i) h0 from rfl) ?_
      refine lv_istore (lv' := [(6, .int (wkC O (M 9 i) h0)), (5, .int (wkU O (M 9 i) h0)), (4, .ref (ad (4 + 4 * (M 9 i)))), (3, .ref (ad (20 + 2 * i))), (0, .ref (ad 0)), (1, .int (nI i)), (2, .int (nI h0))]) hx hb dX2_work_63 hl (by decide) rfl (fun ls hl => ?_)
      refine lv_aload hx hb dX2_work_65 (lv_at hl 2 rfl) ?_
      refine lv_dup hx hb dX2_work_67 rfl ?_
      refine z_get (C := RX1) (T := TX1) (N := 9) (ci := 1) (v := .int (O 0 (M 9 i))) F hK hP hi1 rfl (4 + 4 * (M 9 i)) 7 (by have := hc1; omega) (cX_s hc1) (by decide) rfl (by decide +kernel) dX2_work_68 ?_
      refine lv_iload hx hb dX2_work_71 (lv_at hl 1 rfl) ?_
      refine lv_isub hx hb dX2_work_73 ?_
      refine z_put (C := RX1) (T := TX1) (N := 9) (ci := 1) (f' := (cX k ad M (zo O 0 (M 9 i) ((O 0 (M 9 i)) - (wkU O (M 9 i) h0))))) F hK hP hD hS hi1 rfl tyX1 tyX1_ok nmX1 (4 + 4 * (M 9 i)) 7 (by have := hc1; omega) (cX_s hc1) (by decide) (Nat.le_of_ble_eq_true rfl) (by decide +kernel) rfl rfl rfl rfl (cX_uahead hc1 _) dX2_work_74 (fun H locs hP hD hS => ?_)
      refine lv_aload hx hb dX2_work_77 (lv_at hl 2 rfl) ?_
      refine lv_dup hx hb dX2_work_79 rfl ?_
      refine z_get (C := RX1) (T := TX1) (N := 9) (ci := 1) (v := .int ((zo O 0 (M 9 i) ((O 0 (M 9 i)) - (wkU O (M 9 i) h0))) 1 (M 9 i))) F hK hP hi1 rfl (4 + 4 * (M 9 i)) 8 (by have := hc1; omega) (cX_s hc1) (by decide) rfl (by decide +kernel) dX2_work_80 ?_
      refine lv_iload hx hb dX2_work_83 (lv_at hl 0 rfl) ?_
      refine lv_iadd hx hb dX2_work_85 ?_
      refine z_put (C := RX1) (T := TX1) (N := 9) (ci := 1) (f' := (cX k ad M (zo (zo O 0 (M 9 i) ((O 0 (M 9 i)) - (wkU O (M 9 i) h0))) 1 (M 9 i) (((zo O 0 (M 9 i) ((O 0 (M 9 i)) - (wkU O (M 9 i) h0))) 1 (M 9 i)) + (wkC O (M 9 i) h0))))) F hK hP hD hS hi1 rfl tyX1 tyX1_ok nmX1 (4 + 4 * (M 9 i)) 8 (by have := hc1; omega) (cX_s hc1) (by decide) (Nat.le_of_ble_eq_true rfl) (by decide +kernel) rfl rfl rfl rfl (cX_uowes hc1 _) dX2_work_86 (fun H locs hP hD hS => ?_)
      refine lv_iload hx hb dX2_work_89 (lv_at hl 0 rfl) ?_
      have eW : cX k ad M (wkO M O i h0) = cX k ad M (zo (zo O 0 (M 9 i) ((O 0 (M 9 i)) - (wkU O (M 9 i) h0))) 1 (M 9 i) (((zo O 0 (M 9 i) ((O 0 (M 9 i)) - (wkU O (M 9 i) h0))) 1 (M 9 i)) + (wkC O (M 9 i) h0))) := by rw [wkO_f c10]; rfl
      rw [← eW] at hP hD
      refine vx_ret (mc := 3) (ms := 18) (W.widen (k := 3) (n := 18) (Nat.le_of_ble_eq_true rfl) (Nat.le_of_ble_eq_true rfl) ?_)
      exact W.iret (v := wkC O (M 9 i) h0) hx hb hr (fun t ht hW => ⟨⟨wkC O (M 9 i) h0, ad, rfl, ⟨x3_0 xa c7 c9, (wkR_f c10).symm⟩, ⟨⟨by rw [ht]; exact hP, va_K.moved hW.alike hK⟩, hD⟩, fun _ _ => rfl⟩, hS.F ht⟩) hS.2.2 dX2_work_91
    · refine lv_iconst (v := nI 0) hx hb dX2_work_36 (by decide) ?_
      have eW : cX k ad M (wkO M O i h0) = cX k ad M O := by rw [wkO_t c10]
      rw [← eW] at hP hD
      refine vx_ret (mc := 3) (ms := 18) (W.widen (k := 3) (n := 18) (Nat.le_of_ble_eq_true rfl) (Nat.le_of_ble_eq_true rfl) ?_)
      exact W.iret (v := nI 0) hx hb hr (fun t ht hW => ⟨⟨nI 0, ad, rfl, ⟨x3_0 xa c7 c9, (wkR_t c10).symm⟩, ⟨⟨by rw [ht]; exact hP, va_K.moved hW.alike hK⟩, hD⟩, fun _ _ => rfl⟩, hS.F ht⟩) hS.2.2 dX2_work_37
  · refine lv_iconst (v := nI 1) hx hb dX2_work_20 (by decide) ?_
    refine lv_goto (tgt := 25) hx hb dX2_work_21 (by decide) ?_
    refine z_top (show nI 1 = bI (M 12 i = 0) from (bI_t (c8)).symm) ?_
    refine z_xS (As := [.int (bI (M 12 i = 0))]) (rest := []) F (c_X2_checkState l hfl sa (M 12 i = 0)) (va_cwS 1 hts gX2_work_X2_checkState rfl rfl rfl (by decide +kernel) ⟨Nat.le_of_ble_eq_true rfl, Nat.le_of_ble_eq_true rfl⟩) hE hS0 hnox hlocks rfl hl.1 rfl (Nat.le_of_ble_eq_true rfl) dX2_work_25 ⟨Nat.le_of_ble_eq_true rfl, Nat.le_of_ble_eq_true rfl⟩ (Nat.le_of_ble_eq_true rfl) (Nat.le_of_ble_eq_true rfl) (fun E hpx => by obtain ⟨rfl, zz1⟩ := hpx; exact exC_3 xa c7 zz1) (fun c11 H1 locs1 hz1 hk1 hS0 => ?_)
    replace hP := z_keptP hP hk1
    have hS := zS_mono (B := A) hS0 noA_le
    refine lv_aload_n hx hb dX2_work_28 rfl (lv_at hl 1 rfl) ?_
    refine lv_aload_n hx hb dX2_work_29 rfl (lv_at hl 0 rfl) ?_
    refine z_cV (qc := (RX2, TX2, 5)) (As := [.ref (ad (20 + 2 * i))]) (rest := []) (0) F (c_X2_isCoveredToday l D k ad M O i hz hi (hI3 _ hc1).1 (hI3 _ hc1).2 hI1) (cwV 1 hts gX2_work_X2_isCoveredToday rfl rfl rfl (by decide +kernel) ⟨Nat.le_of_ble_eq_true rfl, Nat.le_of_ble_eq_true rfl⟩) hK hP (by omega) cX_0 rfl rfl hl.1 rfl (Nat.le_of_ble_eq_true rfl) dX2_work_30 ⟨Nat.le_of_ble_eq_true rfl, Nat.le_of_ble_eq_true rfl⟩ (fun r hr => ?_)
    subst hr
    refine z_ifb_eq (tgt := 38) F dX2_work_33 (by decide) (fun c12 => ?_) (fun c12 => ?_)
    · refine lv_aload_n hx hb dX2_work_38 rfl (lv_at hl 0 rfl) ?_
      refine z_get (C := RX0) (T := TX0) (N := 8) (ci := 0) (v := .ref (ad (4 + 4 * (M 9 i)))) F hK hP hi0 rfl (20 + 2 * i) 0 (show 20 + 2 * i < 20 + 2 * M 0 1 by have := hi; omega) cX_c (by decide) rfl (by decide +kernel) dX2_work_39 ?_
      refine lv_astore (lv' := [(4, .ref (ad (4 + 4 * (M 9 i)))), (3, .ref (ad (20 + 2 * i))), (0, .ref (ad 0)), (1, .int (nI i)), (2, .int (nI h0))]) hx hb dX2_work_42 hl (by decide) rfl (fun ls hl => ?_)
      refine lv_iload_n hx hb dX2_work_44 rfl (lv_at hl 4 rfl) ?_
      refine lv_aload hx hb dX2_work_45 (lv_at hl 0 rfl) ?_
      refine z_get (C := RX1) (T := TX1) (N := 9) (ci := 1) (v := .int (O 0 (M 9 i))) F hK hP hi1 rfl (4 + 4 * (M 9 i)) 7 (by have := hc1; omega) (cX_s hc1) (by decide) rfl (by decide +kernel) dX2_work_47 ?_
      refine va_mmin hx hb (by rw [hl.1, F.2.2.1]) hown (hts _ (by decide +kernel)) (hts _ (by decide +kernel)) (hts _ (by decide +kernel)) (hts _ (by decide +kernel)) (Nat.le_of_ble_eq_true rfl) (Nat.le_of_ble_eq_true rfl) (Nat.le_of_ble_eq_true rfl) (Nat.le_of_ble_eq_true rfl) dX2_work_50 ?_
      refine z_top (show _ = wkU O (M 9 i) h0 from rfl) ?_
      refine lv_istore (lv' := [(5, .int (wkU O (M 9 i) h0)), (4, .ref (ad (4 + 4 * (M 9 i)))), (3, .ref (ad (20 + 2 * i))), (0, .ref (ad 0)), (1, .int (nI i)), (2, .int (nI h0))]) hx hb dX2_work_53 hl (by decide) rfl (fun ls hl => ?_)
      refine lv_iload_n hx hb dX2_work_55 rfl (lv_at hl 5 rfl) ?_
      refine lv_iload hx hb dX2_work_56 (lv_at hl 0 rfl) ?_
      refine lv_isub hx hb dX2_work_58 ?_
      refine lv_sipush (v := nI 9000) hx hb dX2_work_59 (by decide) ?_
      refine lv_imul hx hb dX2_work_62 ?_
      refine z_top (show _ = wkC O (M 9 i) h0 from rfl) ?_
      refine lv_istore (lv' := [(6, .int (wkC O (M 9 i) h0)), (5, .int (wkU O (M 9 i) h0)), (4, .ref (ad (4 + 4 * (M 9 i)))), (3, .ref (ad (20 + 2 * i))), (0, .ref (ad 0)), (1, .int (nI i)), (2, .int (nI h0))]) hx hb dX2_work_63 hl (by decide) rfl (fun ls hl => ?_)
      refine lv_aload hx hb dX2_work_65 (lv_at hl 2 rfl) ?_
      refine lv_dup hx hb dX2_work_67 rfl ?_
      refine z_get (C := RX1) (T := TX1) (N := 9) (ci := 1) (v := .int (O 0 (M 9 i))) F hK hP hi1 rfl (4 + 4 * (M 9 i)) 7 (by have := hc1; omega) (cX_s hc1) (by decide) rfl (by decide +kernel) dX2_work_68 ?_
      refine lv_iload hx hb dX2_work_71 (lv_at hl 1 rfl) ?_
      refine lv_isub hx hb dX2_work_73 ?_
      refine z_put (C := RX1) (T := TX1) (N := 9) (ci := 1) (f' := (cX k ad M (zo O 0 (M 9 i) ((O 0 (M 9 i)) - (wkU O (M 9 i) h0))))) F hK hP hD hS hi1 rfl tyX1 tyX1_ok nmX1 (4 + 4 * (M 9 i)) 7 (by have := hc1; omega) (cX_s hc1) (by decide) (Nat.le_of_ble_eq_true rfl) (by decide +kernel) rfl rfl rfl rfl (cX_uahead hc1 _) dX2_work_74 (fun H locs hP hD hS => ?_)
      refine lv_aload hx hb dX2_work_77 (lv_at hl 2 rfl) ?_
      refine lv_dup hx hb dX2_work_79 rfl ?_
      refine z_get (C := RX1) (T := TX1) (N := 9) (ci := 1) (v := .int ((zo O 0 (M 9 i) ((O 0 (M 9 i)) - (wkU O (M 9 i) h0))) 1 (M 9 i))) F hK hP hi1 rfl (4 + 4 * (M 9 i)) 8 (by have := hc1; omega) (cX_s hc1) (by decide) rfl (by decide +kernel) dX2_work_80 ?_
      refine lv_iload hx hb dX2_work_83 (lv_at hl 0 rfl) ?_
      refine lv_iadd hx hb dX2_work_85 ?_
      refine z_put (C := RX1) (T := TX1) (N := 9) (ci := 1) (f' := (cX k ad M (zo (zo O 0 (M 9 i) ((O 0 (M 9 i)) - (wkU O (M 9 i) h0))) 1 (M 9 i) (((zo O 0 (M 9 i) ((O 0 (M 9 i)) - (wkU O (M 9 i) h0))) 1 (M 9 i)) + (wkC O (M 9 i) h0))))) F hK hP hD hS hi1 rfl tyX1 tyX1_ok nmX1 (4 + 4 * (M 9 i)) 8 (by have := hc1; omega) (cX_s hc1) (by decide) (Nat.le_of_ble_eq_true rfl) (by decide +kernel) rfl rfl rfl rfl (cX_uowes hc1 _) dX2_work_86 (fun H locs hP hD hS => ?_)
      refine lv_iload hx hb dX2_work_89 (lv_at hl 0 rfl) ?_
      have eW : cX k ad M (wkO M O i h0) = cX k ad M (zo (zo O 0 (M 9 i) ((O 0 (M 9 i)) - (wkU O (M 9 i) h0))) 1 (M 9 i) (((zo O 0 (M 9 i) ((O 0 (M 9 i)) - (wkU O (M 9 i) h0))) 1 (M 9 i)) + (wkC O (M 9 i) h0))) := by rw [wkO_f c12]; rfl
      rw [← eW] at hP hD
      refine vx_ret (mc := 3) (ms := 18) (W.widen (k := 3) (n := 18) (Nat.le_of_ble_eq_true rfl) (Nat.le_of_ble_eq_true rfl) ?_)
      exact W.iret (v := wkC O (M 9 i) h0) hx hb hr (fun t ht hW => ⟨⟨wkC O (M 9 i) h0, ad, rfl, ⟨x3_0 xa c7 c11, (wkR_f c12).symm⟩, ⟨⟨by rw [ht]; exact hP, va_K.moved hW.alike hK⟩, hD⟩, fun _ _ => rfl⟩, hS.F ht⟩) hS.2.2 dX2_work_91
    · refine lv_iconst (v := nI 0) hx hb dX2_work_36 (by decide) ?_
      have eW : cX k ad M (wkO M O i h0) = cX k ad M O := by rw [wkO_t c12]
      rw [← eW] at hP hD
      refine vx_ret (mc := 3) (ms := 18) (W.widen (k := 3) (n := 18) (Nat.le_of_ble_eq_true rfl) (Nat.le_of_ble_eq_true rfl) ?_)
      exact W.iret (v := nI 0) hx hb hr (fun t ht hW => ⟨⟨nI 0, ad, rfl, ⟨x3_0 xa c7 c11, (wkR_t c12).symm⟩, ⟨⟨by rw [ht]; exact hP, va_K.moved hW.alike hK⟩, hD⟩, fun _ _ => rfl⟩, hS.F ht⟩) hS.2.2 dX2_work_37
set_option maxRecDepth 100000 in
set_option maxHeartbeats 4000000 in
theorem c_X2_reach (l : Launch) (hfl : l.stackTraces = false) (sa : Nat → Nat) (D : va_G) (k : Nat → ClassId) (ad : Nat → Nat) (M : Nat → Nat → Nat) (O : Nat → Nat → Int32) (sz : Nat) (hI : zInv M) (p0 p1 : Int32) : vx_Met l yX2_reach wsX2_reach ({ frames := 8, cells := 3, slots := 18, locals := 124 }) (va_Pc [.ref (ad 0), .int p0, .int p1] (zPre D k ad M O sz sa)) (zQop D k ad M (reM M (ix p0) (ix p1)) (reO M O (ix p0) (ix p1)) (va_A (zw (20 + 2 * M 0 1) ad (cX k ad M O)) sz) (x3 (zI (M 0 1) p0) (nI 0 ≤ p1 ∧ p1 ≤ nI 2) (M 12 (ix p0) = 0 ∧ ¬ ix p1 < M 16 (ix p0))) (nI (mN (zu M 16 (ix p0) (ix p1 + 1)) (ix p0) 3))) (zX (fun E => exC E (x3 (zI (M 0 1) p0) (nI 0 ≤ p1 ∧ p1 ≤ nI 2) (M 12 (ix p0) = 0 ∧ ¬ ix p1 < M 16 (ix p0))))) 3 18 (va_A (zw (20 + 2 * M 0 1) ad (cX k ad M O)) sz) := by
  refine vx_ofW (cc := cX2_reach) (maxL := 5) (ret := (some .int)) (by decide) rfl ?_
  intro p e s m args below meth c s₁ B hml hnox hv
  obtain ⟨rfl, ⟨hsz, ⟨hP, hK⟩, hD0⟩, hE⟩ := hv
  have hx := B.exec
  have hb := B.bytes
  have hr := B.returns
  have hts := atoms_spec (ws := wsX2_reach) B.pre
  have hown : s.vm.findClass RX2 = some m.cls := findClass_of_methodNamed B.named
  have hlocks := B.notSynchronized
  have F : CallFix p m c cX2_reach 5 s _ wsX2_reach RX2 := ⟨hx, hb, hml, hown, hts⟩
  subst hsz
  have hD := hD0.self (sz := s.heap.size)
  generalize hAe : va_A (zw (20 + 2 * M 0 1) ad (cX k ad M O)) s.heap.size = A at hD hE ⊢
  have hA : ∀ q : Nat, s.heap.size ≤ q → A q := fun q h => by rw [← hAe]; exact Or.inr h
  have hS0 : va_S noA s.heap s.heap [] := va_S.rf
  obtain ⟨hI1, hI2, hI3, hI4, hI5, hI6, hI7⟩ := id hI
  have hl := lv_entry ([.ref (ad 0), .int p0, .int p1]) (n := 5) (Nat.le_of_ble_eq_true rfl)
  rw [lg_entry_eq]
  generalize (lg_sl ([.ref (ad 0), .int p0, .int p1]) ++ List.replicate (5 - (lg_sl ([.ref (ad 0), .int p0, .int p1])).length) Slot.unset).toArray = ls at hl ⊢
  have hl : lv_has ls 5 [(0, .ref (ad 0)), (1, .int p0), (2, .int p1)] := hl
  have hi0 : ∀ w ∈ u_ws RX0 TX0 8, w ∈ wsX2_reach := by decide +kernel
  have hk9 : ∀ x, x < 120 → M 15 x ≤ 24000 := fun x h => Nat.le_trans (hI6 x h) hI1
  refine lv_aload_n hx hb dX2_reach_0 rfl (lv_at hl 0 rfl) ?_
  refine lv_iload_n hx hb dX2_reach_1 rfl (lv_at hl 1 rfl) ?_
  refine z_xVq (qc := (RX2, TX2, 5)) (As := [.int p0]) (rest := []) (0) F (c_X2_caseAt l hfl sa D k ad M O hI2 p0) (cwV 1 hts gX2_reach_X2_caseAt rfl rfl rfl (by decide +kernel) ⟨Nat.le_of_ble_eq_true rfl, Nat.le_of_ble_eq_true rfl⟩) hK hP (by omega) cX_0 rfl hE hS0 hnox hlocks rfl hl.1 rfl (Nat.le_of_ble_eq_true rfl) dX2_reach_2 ⟨Nat.le_of_ble_eq_true rfl, Nat.le_of_ble_eq_true rfl⟩ (Nat.le_of_ble_eq_true rfl) (Nat.le_of_ble_eq_true rfl) (fun E hpx => by obtain ⟨rfl, zz1⟩ := hpx; exact exC_1 (fun zz2 => zz1 zz2)) (fun a9 ha9 H1 locs1 hz1 hk1 hS0 => ?_)
  replace hP := z_keptP hP hk1
  obtain ⟨i, hi, rfl, rfl⟩ := ha9
  try rw [ix_nI (show i < 2 ^ 31 by omega)]
  have xa : zI (M 0 1) (nI i) := ⟨i, hi, rfl⟩
  have hz := hI5 i hi
  obtain ⟨hc1, hc2, hc3, hc4, hc5, hc6, hc7⟩ := id hz
  refine lv_astore_n (lv' := [(3, .ref (ad (20 + 2 * i))), (0, .ref (ad 0)), (1, .int (nI i)), (2, .int p1)]) hx hb dX2_reach_5 rfl hl (by decide) rfl (fun ls hl => ?_)
  refine lv_iload_n hx hb dX2_reach_6 rfl (lv_at hl 3 rfl) ?_
  refine lv_iconst (v := nI 0) hx hb dX2_reach_7 (by decide) ?_
  refine lv_iconst (v := nI 2) hx hb dX2_reach_8 (by decide) ?_
  refine z_xS (As := [.int p1, .int (nI 0), .int (nI 2)]) (rest := []) F (c_X2_checkRange l hfl sa (p1) (nI 0) (nI 2)) (va_cwS 3 hts gX2_reach_X2_checkRange rfl rfl rfl (by decide +kernel) ⟨Nat.le_of_ble_eq_true rfl, Nat.le_of_ble_eq_true rfl⟩) hE hS0 hnox hlocks rfl hl.1 rfl (Nat.le_of_ble_eq_true rfl) dX2_reach_9 ⟨Nat.le_of_ble_eq_true rfl, Nat.le_of_ble_eq_true rfl⟩ (Nat.le_of_ble_eq_true rfl) (Nat.le_of_ble_eq_true rfl) (fun E hpx => by obtain ⟨rfl, zz1⟩ := hpx; exact exC_2 xa (fun zz2 => zz1 zz2)) (fun c13 H1 locs1 hz1 hk1 hS0 => ?_)
  replace hP := z_keptP hP hk1
  obtain ⟨st, hst0, hst, rfl⟩ := (zB_iff (by omega) (by decide)).mp c13
  try rw [ix_nI (show st < 2 ^ 31 by omega)]
  refine lv_aload_n hx hb dX2_reach_12 rfl (lv_at hl 0 rfl) ?_
  refine z_get (C := RX0) (T := TX0) (N := 8) (ci := 0) (v := .int (nI (M 12 i))) F hK hP hi0 rfl (20 + 2 * i) 3 (show 20 + 2 * i < 20 + 2 * M 0 1 by have := hi; omega) cX_c (by decide) rfl (by decide +kernel) dX2_reach_13 ?_
  refine z_ifn_ne (tgt := 31) F (by omega) dX2_reach_16 (by decide) (fun c14 => ?_) (fun c14 => ?_)
  · refine lv_iconst (v := nI 0) hx hb dX2_reach_31 (by decide) ?_
    refine z_top (show nI 0 = bI (M 12 i = 0 ∧ ¬ st < M 16 i) from (bI_f (fun zz1 => c14 zz1.1)).symm) ?_
    refine z_xS (As := [.int (bI (M 12 i = 0 ∧ ¬ st < M 16 i))]) (rest := []) F (c_X2_checkState l hfl sa (M 12 i = 0 ∧ ¬ st < M 16 i)) (va_cwS 1 hts gX2_reach_X2_checkState rfl rfl rfl (by decide +kernel) ⟨Nat.le_of_ble_eq_true rfl, Nat.le_of_ble_eq_true rfl⟩) hE hS0 hnox hlocks rfl hl.1 rfl (Nat.le_of_ble_eq_true rfl) dX2_reach_32 ⟨Nat.le_of_ble_eq_true rfl, Nat.le_of_ble_eq_true rfl⟩ (Nat.le_of_ble_eq_true rfl) (Nat.le_of_ble_eq_true rfl) (fun E hpx => by obtain ⟨rfl, zz1⟩ := hpx; exact exC_3 xa c13 zz1) (fun c15 H1 locs1 hz1 hk1 hS0 => ?_)
    replace hP := z_keptP hP hk1
    have hS := zS_mono (B := A) hS0 noA_le
    refine lv_aload_n hx hb dX2_reach_35 rfl (lv_at hl 0 rfl) ?_
    refine lv_iload_n hx hb dX2_reach_36 rfl (lv_at hl 3 rfl) ?_
    refine lv_iconst (v := nI 1) hx hb dX2_reach_37 (by decide) ?_
    refine z_add F dX2_reach_38 ?_
    refine z_put (C := RX0) (T := TX0) (N := 8) (ci := 0) (f' := (cX k ad (zu M 16 i (st + 1)) O)) F hK hP hD hS hi0 rfl tyX0 tyX0_ok nmX0 (20 + 2 * i) 6 (show 20 + 2 * i < 20 + 2 * M 0 1 by have := hi; omega) cX_c (by decide) (Nat.le_of_ble_eq_true rfl) (by decide +kernel) rfl rfl rfl rfl (cX_usr _) dX2_reach_39 (fun H locs hP hD hS => ?_)
    have hz1 : zCa (zu M 16 i (st + 1)) i := ⟨hc1, hc2, hc3, hc4, hc5, hc6, by rw [zu_s]; omega⟩
    have hca1 : ∀ c, c < (zu M 16 i (st + 1)) 0 1 → zCa (zu M 16 i (st + 1)) c := by
      intro zc zc1
      obtain ⟨g1, g2, g3, g4, g5, g6, g7⟩ := hI5 zc zc1
      refine ⟨g1, g2, g3, g4, g5, g6, ?_⟩
      by_cases zc2 : zc = i
      · rw [zc2, zu_s]; omega
      · rw [zu_i _ _ _ _ zc2]; exact g7
    refine lv_aload_n hx hb dX2_reach_42 rfl (lv_at hl 1 rfl) ?_
    refine lv_aload_n hx hb dX2_reach_43 rfl (lv_at hl 0 rfl) ?_
    refine z_cV (qc := (RX2, TX2, 5)) (As := [.ref (ad (20 + 2 * i))]) (rest := []) (0) F (c_X2_countMissedOfReached l D k ad (zu M 16 i (st + 1)) O i hz1 hi hI4 hk9 hI2) (cwV 1 hts gX2_reach_X2_countMissedOfReached rfl rfl rfl (by decide +kernel) ⟨Nat.le_of_ble_eq_true rfl, Nat.le_of_ble_eq_true rfl⟩) hK hP (by omega) cX_0 rfl rfl hl.1 rfl (Nat.le_of_ble_eq_true rfl) dX2_reach_44 ⟨Nat.le_of_ble_eq_true rfl, Nat.le_of_ble_eq_true rfl⟩ (fun r hr => ?_)
    subst hr
    refine lv_istore (lv' := [(4, .int (nI (mN (zu M 16 i (st + 1)) i 3))), (3, .ref (ad (20 + 2 * i))), (0, .ref (ad 0)), (1, .int (nI i)), (2, .int (nI st))]) hx hb dX2_reach_47 hl (by decide) rfl (fun ls hl => ?_)
    have hmn := mN_le (zu M 16 i (st + 1)) i 3
    refine lv_iload_n hx hb dX2_reach_49 rfl (lv_at hl 4 rfl) ?_
    refine lv_iconst (v := nI 2) hx hb dX2_reach_50 (by decide) ?_
    refine z_icmp_ne (tgt := 61) F (by omega) (by omega) dX2_reach_51 (by decide) (fun c16 => ?_) (fun c16 => ?_)
    · refine lv_iload hx hb dX2_reach_61 (lv_at hl 0 rfl) ?_
      have e1 : reM M i st = zu M 16 i (st + 1) := by unfold reM; rw [if_neg c16]
      have e2 : reO M O i st = O := by unfold reO; rw [if_neg c16]
      have e3 : reM M i st 0 1 = M 0 1 := by rw [e1]; rfl
      rw [← e1, ← e2, ← e3] at hP hD
      refine vx_ret (mc := 3) (ms := 18) (W.widen (k := 3) (n := 18) (Nat.le_of_ble_eq_true rfl) (Nat.le_of_ble_eq_true rfl) ?_)
      exact W.iret (v := nI (mN (zu M 16 i (st + 1)) i 3)) hx hb hr (fun t ht hW => ⟨⟨nI (mN (zu M 16 i (st + 1)) i 3), ad, rfl, ⟨x3_0 xa c13 c15, rfl⟩, ⟨⟨by rw [ht]; exact hP, va_K.moved hW.alike hK⟩, hD⟩, fun _ _ => rfl⟩, hS.F ht⟩) hS.2.2 dX2_reach_63
    · refine lv_aload_n hx hb dX2_reach_54 rfl (lv_at hl 2 rfl) ?_
      refine lv_aload_n hx hb dX2_reach_55 rfl (lv_at hl 1 rfl) ?_
      refine lv_iload hx hb dX2_reach_56 (lv_at hl 0 rfl) ?_
      refine z_mVv (qc := (RX2, TX2, 5)) (As := [.ref (ad (20 + 2 * i)), .int (nI (mN (zu M 16 i (st + 1)) i 3))]) (rest := []) (0) F (c_X2_closeMended l D k ad (zu M 16 i (st + 1)) O _ (zw_inj hD) hca1 i (mN (zu M 16 i (st + 1)) i 3) hi hI2 (hI3 _ hc1).1 (hI3 _ hc1).2 hI1) (cwV 2 hts gX2_reach_X2_closeMended rfl rfl rfl (by decide +kernel) ⟨Nat.le_of_ble_eq_true rfl, Nat.le_of_ble_eq_true rfl⟩) hK hP hD hS hA (by omega) cX_0 rfl rfl hl.1 rfl (Nat.le_of_ble_eq_true rfl) dX2_reach_58 ⟨Nat.le_of_ble_eq_true rfl, Nat.le_of_ble_eq_true rfl⟩ (fun H locs hP hD hS => ?_)
      refine lv_iload hx hb dX2_reach_61 (lv_at hl 0 rfl) ?_
      have e1 : reM M i st = clM (zu (zu M 16 i (st + 1)) 12 i 2) i ((zu M 16 i (st + 1)) 0 1) := by unfold reM; rw [if_pos c16]; rfl
      have e2 : reO M O i st = crO (zu M 16 i (st + 1)) O i (mN (zu M 16 i (st + 1)) i 3) := by unfold reO; rw [if_pos c16]; rfl
      have e3 : reM M i st 0 1 = (zu M 16 i (st + 1)) 0 1 := by rw [e1]; exact clM_r (by decide)
      rw [← e1, ← e2, ← e3] at hP hD
      refine vx_ret (mc := 3) (ms := 18) (W.widen (k := 3) (n := 18) (Nat.le_of_ble_eq_true rfl) (Nat.le_of_ble_eq_true rfl) ?_)
      exact W.iret (v := nI (mN (zu M 16 i (st + 1)) i 3)) hx hb hr (fun t ht hW => ⟨⟨nI (mN (zu M 16 i (st + 1)) i 3), ad, rfl, ⟨x3_0 xa c13 c15, rfl⟩, ⟨⟨by rw [ht]; exact hP, va_K.moved hW.alike hK⟩, hD⟩, fun _ _ => rfl⟩, hS.F ht⟩) hS.2.2 dX2_reach_63
  · refine lv_aload_n hx hb dX2_reach_19 rfl (lv_at hl 0 rfl) ?_
    refine lv_iload_n hx hb dX2_reach_20 rfl (lv_at hl 3 rfl) ?_
    refine z_cV (qc := (RX0, TX0, 8)) (As := [.int (nI st)]) (rest := []) (20 + 2 * i) F (c_X0_hasReached l D k ad M O i st hz hi (by omega)) (cwV 1 hts gX2_reach_X0_hasReached rfl rfl rfl (by decide +kernel) ⟨Nat.le_of_ble_eq_true rfl, Nat.le_of_ble_eq_true rfl⟩) hK hP (show 20 + 2 * i < 20 + 2 * M 0 1 by have := hi; omega) cX_c rfl rfl hl.1 rfl (Nat.le_of_ble_eq_true rfl) dX2_reach_21 ⟨Nat.le_of_ble_eq_true rfl, Nat.le_of_ble_eq_true rfl⟩ (fun r hr => ?_)
    subst hr
    refine z_ifb_ne (tgt := 31) F dX2_reach_24 (by decide) (fun c17 => ?_) (fun c17 => ?_)
    · refine lv_iconst (v := nI 0) hx hb dX2_reach_31 (by decide) ?_
      refine z_top (show nI 0 = bI (M 12 i = 0 ∧ ¬ st < M 16 i) from (bI_f (fun zz1 => zz1.2 c17)).symm) ?_
      refine z_xS (As := [.int (bI (M 12 i = 0 ∧ ¬ st < M 16 i))]) (rest := []) F (c_X2_checkState l hfl sa (M 12 i = 0 ∧ ¬ st < M 16 i)) (va_cwS 1 hts gX2_reach_X2_checkState rfl rfl rfl (by decide +kernel) ⟨Nat.le_of_ble_eq_true rfl, Nat.le_of_ble_eq_true rfl⟩) hE hS0 hnox hlocks rfl hl.1 rfl (Nat.le_of_ble_eq_true rfl) dX2_reach_32 ⟨Nat.le_of_ble_eq_true rfl, Nat.le_of_ble_eq_true rfl⟩ (Nat.le_of_ble_eq_true rfl) (Nat.le_of_ble_eq_true rfl) (fun E hpx => by obtain ⟨rfl, zz1⟩ := hpx; exact exC_3 xa c13 zz1) (fun c18 H1 locs1 hz1 hk1 hS0 => ?_)
      replace hP := z_keptP hP hk1
      have hS := zS_mono (B := A) hS0 noA_le
      refine lv_aload_n hx hb dX2_reach_35 rfl (lv_at hl 0 rfl) ?_
      refine lv_iload_n hx hb dX2_reach_36 rfl (lv_at hl 3 rfl) ?_
      refine lv_iconst (v := nI 1) hx hb dX2_reach_37 (by decide) ?_
      refine z_add F dX2_reach_38 ?_
      refine z_put (C := RX0) (T := TX0) (N := 8) (ci := 0) (f' := (cX k ad (zu M 16 i (st + 1)) O)) F hK hP hD hS hi0 rfl tyX0 tyX0_ok nmX0 (20 + 2 * i) 6 (show 20 + 2 * i < 20 + 2 * M 0 1 by have := hi; omega) cX_c (by decide) (Nat.le_of_ble_eq_true rfl) (by decide +kernel) rfl rfl rfl rfl (cX_usr _) dX2_reach_39 (fun H locs hP hD hS => ?_)
      have hz1 : zCa (zu M 16 i (st + 1)) i := ⟨hc1, hc2, hc3, hc4, hc5, hc6, by rw [zu_s]; omega⟩
      have hca1 : ∀ c, c < (zu M 16 i (st + 1)) 0 1 → zCa (zu M 16 i (st + 1)) c := by
        intro zc zc1
        obtain ⟨g1, g2, g3, g4, g5, g6, g7⟩ := hI5 zc zc1
        refine ⟨g1, g2, g3, g4, g5, g6, ?_⟩
        by_cases zc2 : zc = i
        · rw [zc2, zu_s]; omega
        · rw [zu_i _ _ _ _ zc2]; exact g7
      refine lv_aload_n hx hb dX2_reach_42 rfl (lv_at hl 1 rfl) ?_
      refine lv_aload_n hx hb dX2_reach_43 rfl (lv_at hl 0 rfl) ?_
      refine z_cV (qc := (RX2, TX2, 5)) (As := [.ref (ad (20 + 2 * i))]) (rest := []) (0) F (c_X2_countMissedOfReached l D k ad (zu M 16 i (st + 1)) O i hz1 hi hI4 hk9 hI2) (cwV 1 hts gX2_reach_X2_countMissedOfReached rfl rfl rfl (by decide +kernel) ⟨Nat.le_of_ble_eq_true rfl, Nat.le_of_ble_eq_true rfl⟩) hK hP (by omega) cX_0 rfl rfl hl.1 rfl (Nat.le_of_ble_eq_true rfl) dX2_reach_44 ⟨Nat.le_of_ble_eq_true rfl, Nat.le_of_ble_eq_true rfl⟩ (fun r hr => ?_)
      subst hr
      refine lv_istore (lv' := [(4, .int (nI (mN (zu M 16 i (st + 1)) i 3))), (3, .ref (ad (20 + 2 * i))), (0, .ref (ad 0)), (1, .int (nI i)), (2, .int (nI st))]) hx hb dX2_reach_47 hl (by decide) rfl (fun ls hl => ?_)
      have hmn := mN_le (zu M 16 i (st + 1)) i 3
      refine lv_iload_n hx hb dX2_reach_49 rfl (lv_at hl 4 rfl) ?_
      refine lv_iconst (v := nI 2) hx hb dX2_reach_50 (by decide) ?_
      refine z_icmp_ne (tgt := 61) F (by omega) (by omega) dX2_reach_51 (by decide) (fun c19 => ?_) (fun c19 => ?_)
      · refine lv_iload hx hb dX2_reach_61 (lv_at hl 0 rfl) ?_
        have e1 : reM M i st = zu M 16 i (st + 1) := by unfold reM; rw [if_neg c19]
        have e2 : reO M O i st = O := by unfold reO; rw [if_neg c19]
        have e3 : reM M i st 0 1 = M 0 1 := by rw [e1]; rfl
        rw [← e1, ← e2, ← e3] at hP hD
        refine vx_ret (mc := 3) (ms := 18) (W.widen (k := 3) (n := 18) (Nat.le_of_ble_eq_true rfl) (Nat.le_of_ble_eq_true rfl) ?_)
        exact W.iret (v := nI (mN (zu M 16 i (st + 1)) i 3)) hx hb hr (fun t ht hW => ⟨⟨nI (mN (zu M 16 i (st + 1)) i 3), ad, rfl, ⟨x3_0 xa c13 c18, rfl⟩, ⟨⟨by rw [ht]; exact hP, va_K.moved hW.alike hK⟩, hD⟩, fun _ _ => rfl⟩, hS.F ht⟩) hS.2.2 dX2_reach_63
      · refine lv_aload_n hx hb dX2_reach_54 rfl (lv_at hl 2 rfl) ?_
        refine lv_aload_n hx hb dX2_reach_55 rfl (lv_at hl 1 rfl) ?_
        refine lv_iload hx hb dX2_reach_56 (lv_at hl 0 rfl) ?_
        refine z_mVv (qc := (RX2, TX2, 5)) (As := [.ref (ad (20 + 2 * i)), .int (nI (mN (zu M 16 i (st + 1)) i 3))]) (rest := []) (0) F (c_X2_closeMended l D k ad (zu M 16 i (st + 1)) O _ (zw_inj hD) hca1 i (mN (zu M 16 i (st + 1)) i 3) hi hI2 (hI3 _ hc1).1 (hI3 _ hc1).2 hI1) (cwV 2 hts gX2_reach_X2_closeMended rfl rfl rfl (by decide +kernel) ⟨Nat.le_of_ble_eq_true rfl, Nat.le_of_ble_eq_true rfl⟩) hK hP hD hS hA (by omega) cX_0 rfl rfl hl.1 rfl (Nat.le_of_ble_eq_true rfl) dX2_reach_58 ⟨Nat.le_of_ble_eq_true rfl, Nat.le_of_ble_eq_true rfl⟩ (fun H locs hP hD hS => ?_)
        refine lv_iload hx hb dX2_reach_61 (lv_at hl 0 rfl) ?_
        have e1 : reM M i st = clM (zu (zu M 16 i (st + 1)) 12 i 2) i ((zu M 16 i (st + 1)) 0 1) := by unfold reM; rw [if_pos c19]; rfl
        have e2 : reO M O i st = crO (zu M 16 i (st + 1)) O i (mN (zu M 16 i (st + 1)) i 3) := by unfold reO; rw [if_pos c19]; rfl
        have e3 : reM M i st 0 1 = (zu M 16 i (st + 1)) 0 1 := by rw [e1]; exact clM_r (by decide)
        rw [← e1, ← e2, ← e3] at hP hD
        refine vx_ret (mc := 3) (ms := 18) (W.widen (k := 3) (n := 18) (Nat.le_of_ble_eq_true rfl) (Nat.le_of_ble_eq_true rfl) ?_)
        exact W.iret (v := nI (mN (zu M 16 i (st + 1)) i 3)) hx hb hr (fun t ht hW => ⟨⟨nI (mN (zu M 16 i (st + 1)) i 3), ad, rfl, ⟨x3_0 xa c13 c18, rfl⟩, ⟨⟨by rw [ht]; exact hP, va_K.moved hW.alike hK⟩, hD⟩, fun _ _ => rfl⟩, hS.F ht⟩) hS.2.2 dX2_reach_63
    · refine lv_iconst (v := nI 1) hx hb dX2_reach_27 (by decide) ?_
      refine lv_goto (tgt := 32) hx hb dX2_reach_28 (by decide) ?_
      refine z_top (show nI 1 = bI (M 12 i = 0 ∧ ¬ st < M 16 i) from (bI_t (⟨c14, c17⟩)).symm) ?_
      refine z_xS (As := [.int (bI (M 12 i = 0 ∧ ¬ st < M 16 i))]) (rest := []) F (c_X2_checkState l hfl sa (M 12 i = 0 ∧ ¬ st < M 16 i)) (va_cwS 1 hts gX2_reach_X2_checkState rfl rfl rfl (by decide +kernel) ⟨Nat.le_of_ble_eq_true rfl, Nat.le_of_ble_eq_true rfl⟩) hE hS0 hnox hlocks rfl hl.1 rfl (Nat.le_of_ble_eq_true rfl) dX2_reach_32 ⟨Nat.le_of_ble_eq_true rfl, Nat.le_of_ble_eq_true rfl⟩ (Nat.le_of_ble_eq_true rfl) (Nat.le_of_ble_eq_true rfl) (fun E hpx => by obtain ⟨rfl, zz1⟩ := hpx; exact exC_3 xa c13 zz1) (fun c20 H1 locs1 hz1 hk1 hS0 => ?_)
      replace hP := z_keptP hP hk1
      have hS := zS_mono (B := A) hS0 noA_le
      refine lv_aload_n hx hb dX2_reach_35 rfl (lv_at hl 0 rfl) ?_
      refine lv_iload_n hx hb dX2_reach_36 rfl (lv_at hl 3 rfl) ?_
      refine lv_iconst (v := nI 1) hx hb dX2_reach_37 (by decide) ?_
      refine z_add F dX2_reach_38 ?_
      refine z_put (C := RX0) (T := TX0) (N := 8) (ci := 0) (f' := (cX k ad (zu M 16 i (st + 1)) O)) F hK hP hD hS hi0 rfl tyX0 tyX0_ok nmX0 (20 + 2 * i) 6 (show 20 + 2 * i < 20 + 2 * M 0 1 by have := hi; omega) cX_c (by decide) (Nat.le_of_ble_eq_true rfl) (by decide +kernel) rfl rfl rfl rfl (cX_usr _) dX2_reach_39 (fun H locs hP hD hS => ?_)
      have hz1 : zCa (zu M 16 i (st + 1)) i := ⟨hc1, hc2, hc3, hc4, hc5, hc6, by rw [zu_s]; omega⟩
      have hca1 : ∀ c, c < (zu M 16 i (st + 1)) 0 1 → zCa (zu M 16 i (st + 1)) c := by
        intro zc zc1
        obtain ⟨g1, g2, g3, g4, g5, g6, g7⟩ := hI5 zc zc1
        refine ⟨g1, g2, g3, g4, g5, g6, ?_⟩
        by_cases zc2 : zc = i
        · rw [zc2, zu_s]; omega
        · rw [zu_i _ _ _ _ zc2]; exact g7
      refine lv_aload_n hx hb dX2_reach_42 rfl (lv_at hl 1 rfl) ?_
      refine lv_aload_n hx hb dX2_reach_43 rfl (lv_at hl 0 rfl) ?_
      refine z_cV (qc := (RX2, TX2, 5)) (As := [.ref (ad (20 + 2 * i))]) (rest := []) (0) F (c_X2_countMissedOfReached l D k ad (zu M 16 i (st + 1)) O i hz1 hi hI4 hk9 hI2) (cwV 1 hts gX2_reach_X2_countMissedOfReached rfl rfl rfl (by decide +kernel) ⟨Nat.le_of_ble_eq_true rfl, Nat.le_of_ble_eq_true rfl⟩) hK hP (by omega) cX_0 rfl rfl hl.1 rfl (Nat.le_of_ble_eq_true rfl) dX2_reach_44 ⟨Nat.le_of_ble_eq_true rfl, Nat.le_of_ble_eq_true rfl⟩ (fun r hr => ?_)
      subst hr
      refine lv_istore (lv' := [(4, .int (nI (mN (zu M 16 i (st + 1)) i 3))), (3, .ref (ad (20 + 2 * i))), (0, .ref (ad 0)), (1, .int (nI i)), (2, .int (nI st))]) hx hb dX2_reach_47 hl (by decide) rfl (fun ls hl => ?_)
      have hmn := mN_le (zu M 16 i (st + 1)) i 3
      refine lv_iload_n hx hb dX2_reach_49 rfl (lv_at hl 4 rfl) ?_
      refine lv_iconst (v := nI 2) hx hb dX2_reach_50 (by decide) ?_
      refine z_icmp_ne (tgt := 61) F (by omega) (by omega) dX2_reach_51 (by decide) (fun c21 => ?_) (fun c21 => ?_)
      · refine lv_iload hx hb dX2_reach_61 (lv_at hl 0 rfl) ?_
        have e1 : reM M i st = zu M 16 i (st + 1) := by unfold reM; rw [if_neg c21]
        have e2 : reO M O i st = O := by unfold reO; rw [if_neg c21]
        have e3 : reM M i st 0 1 = M 0 1 := by rw [e1]; rfl
        rw [← e1, ← e2, ← e3] at hP hD
        refine vx_ret (mc := 3) (ms := 18) (W.widen (k := 3) (n := 18) (Nat.le_of_ble_eq_true rfl) (Nat.le_of_ble_eq_true rfl) ?_)
        exact W.iret (v := nI (mN (zu M 16 i (st + 1)) i 3)) hx hb hr (fun t ht hW => ⟨⟨nI (mN (zu M 16 i (st + 1)) i 3), ad, rfl, ⟨x3_0 xa c13 c20, rfl⟩, ⟨⟨by rw [ht]; exact hP, va_K.moved hW.alike hK⟩, hD⟩, fun _ _ => rfl⟩, hS.F ht⟩) hS.2.2 dX2_reach_63
      · refine lv_aload_n hx hb dX2_reach_54 rfl (lv_at hl 2 rfl) ?_
        refine lv_aload_n hx hb dX2_reach_55 rfl (lv_at hl 1 rfl) ?_
        refine lv_iload hx hb dX2_reach_56 (lv_at hl 0 rfl) ?_
        refine z_mVv (qc := (RX2, TX2, 5)) (As := [.ref (ad (20 + 2 * i)), .int (nI (mN (zu M 16 i (st + 1)) i 3))]) (rest := []) (0) F (c_X2_closeMended l D k ad (zu M 16 i (st + 1)) O _ (zw_inj hD) hca1 i (mN (zu M 16 i (st + 1)) i 3) hi hI2 (hI3 _ hc1).1 (hI3 _ hc1).2 hI1) (cwV 2 hts gX2_reach_X2_closeMended rfl rfl rfl (by decide +kernel) ⟨Nat.le_of_ble_eq_true rfl, Nat.le_of_ble_eq_true rfl⟩) hK hP hD hS hA (by omega) cX_0 rfl rfl hl.1 rfl (Nat.le_of_ble_eq_true rfl) dX2_reach_58 ⟨Nat.le_of_ble_eq_true rfl, Nat.le_of_ble_eq_true rfl⟩ (fun H locs hP hD hS => ?_)
        refine lv_iload hx hb dX2_reach_61 (lv_at hl 0 rfl) ?_
        have e1 : reM M i st = clM (zu (zu M 16 i (st + 1)) 12 i 2) i ((zu M 16 i (st + 1)) 0 1) := by unfold reM; rw [if_pos c21]; rfl
        have e2 : reO M O i st = crO (zu M 16 i (st + 1)) O i (mN (zu M 16 i (st + 1)) i 3) := by unfold reO; rw [if_pos c21]; rfl
        have e3 : reM M i st 0 1 = (zu M 16 i (st + 1)) 0 1 := by rw [e1]; exact clM_r (by decide)
        rw [← e1, ← e2, ← e3] at hP hD
        refine vx_ret (mc := 3) (ms := 18) (W.widen (k := 3) (n := 18) (Nat.le_of_ble_eq_true rfl) (Nat.le_of_ble_eq_true rfl) ?_)
        exact W.iret (v := nI (mN (zu M 16 i (st + 1)) i 3)) hx hb hr (fun t ht hW => ⟨⟨nI (mN (zu M 16 i (st + 1)) i 3), ad, rfl, ⟨x3_0 xa c13 c20, rfl⟩, ⟨⟨by rw [ht]; exact hP, va_K.moved hW.alike hK⟩, hD⟩, fun _ _ => rfl⟩, hS.F ht⟩) hS.2.2 dX2_reach_63
set_option maxRecDepth 100000 in
set_option maxHeartbeats 4000000 in
theorem c_X2_join (l : Launch) (hfl : l.stackTraces = false) (sa : Nat → Nat) (D : va_G) (k : Nat → ClassId) (ad : Nat → Nat) (M : Nat → Nat → Nat) (O : Nat → Nat → Int32) (sz : Nat) (hI : zInv M) (p0 p1 : Int32) : vx_Met l yX2_join wsX2_join ({ frames := 7, cells := 4, slots := 24, locals := 104 }) (va_Pc [.ref (ad 0), .int p0, .int p1] (zPre D k ad M O sz sa)) (zQop D k ad M (zu (zu M 12 (ix p0) 1) 13 (ix p0) (ix p1 + 1)) (O) (va_A (zw (20 + 2 * M 0 1) ad (cX k ad M O)) sz) (x3 (zI (M 0 1) p0 ∧ zI (M 0 1) p1) (ix p0 ≠ ix p1 ∧ M 9 (ix p0) = M 9 (ix p1)) (M 12 (ix p0) = 0 ∧ M 12 (ix p1) = 0 ∧ jN M (ix p0) (M 0 1) = 0)) (nI (jN (zu (zu M 12 (ix p0) 1) 13 (ix p0) (ix p1 + 1)) (ix p1) (M 0 1)))) (zX (fun E => exC E (x3 (zI (M 0 1) p0 ∧ zI (M 0 1) p1) (ix p0 ≠ ix p1 ∧ M 9 (ix p0) = M 9 (ix p1)) (M 12 (ix p0) = 0 ∧ M 12 (ix p1) = 0 ∧ jN M (ix p0) (M 0 1) = 0)))) 4 24 (va_A (zw (20 + 2 * M 0 1) ad (cX k ad M O)) sz) := by
  refine vx_ofW (cc := cX2_join) (maxL := 5) (ret := (some .int)) (by decide) rfl ?_
  intro p e s m args below meth c s₁ B hml hnox hv
  obtain ⟨rfl, ⟨hsz, ⟨hP, hK⟩, hD0⟩, hE⟩ := hv
  have hx := B.exec
  have hb := B.bytes
  have hr := B.returns
  have hts := atoms_spec (ws := wsX2_join) B.pre
  have hown : s.vm.findClass RX2 = some m.cls := findClass_of_methodNamed B.named
  have hlocks := B.notSynchronized
  have F : CallFix p m c cX2_join 5 s _ wsX2_join RX2 := ⟨hx, hb, hml, hown, hts⟩
  subst hsz
  have hD := hD0.self (sz := s.heap.size)
  generalize hAe : va_A (zw (20 + 2 * M 0 1) ad (cX k ad M O)) s.heap.size = A at hD hE ⊢
  have hA : ∀ q : Nat, s.heap.size ≤ q → A q := fun q h => by rw [← hAe]; exact Or.inr h
  have hS0 : va_S noA s.heap s.heap [] := va_S.rf
  obtain ⟨hI1, hI2, hI3, hI4, hI5, hI6, hI7⟩ := id hI
  have hl := lv_entry ([.ref (ad 0), .int p0, .int p1]) (n := 5) (Nat.le_of_ble_eq_true rfl)
  rw [lg_entry_eq]
  generalize (lg_sl ([.ref (ad 0), .int p0, .int p1]) ++ List.replicate (5 - (lg_sl ([.ref (ad 0), .int p0, .int p1])).length) Slot.unset).toArray = ls at hl ⊢
  have hl : lv_has ls 5 [(0, .ref (ad 0)), (1, .int p0), (2, .int p1)] := hl
  have hi0 : ∀ w ∈ u_ws RX0 TX0 8, w ∈ wsX2_join := by decide +kernel
  refine lv_aload_n hx hb dX2_join_0 rfl (lv_at hl 0 rfl) ?_
  refine lv_iload_n hx hb dX2_join_1 rfl (lv_at hl 1 rfl) ?_
  refine z_xVq (qc := (RX2, TX2, 5)) (As := [.int p0]) (rest := []) (0) F (c_X2_caseAt l hfl sa D k ad M O hI2 p0) (cwV 1 hts gX2_join_X2_caseAt rfl rfl rfl (by decide +kernel) ⟨Nat.le_of_ble_eq_true rfl, Nat.le_of_ble_eq_true rfl⟩) hK hP (by omega) cX_0 rfl hE hS0 hnox hlocks rfl hl.1 rfl (Nat.le_of_ble_eq_true rfl) dX2_join_2 ⟨Nat.le_of_ble_eq_true rfl, Nat.le_of_ble_eq_true rfl⟩ (Nat.le_of_ble_eq_true rfl) (Nat.le_of_ble_eq_true rfl) (fun E hpx => by obtain ⟨rfl, zz1⟩ := hpx; exact exC_1 (fun zz2 => zz1 zz2.1)) (fun a9 ha9 H1 locs1 hz1 hk1 hS0 => ?_)
  replace hP := z_keptP hP hk1
  obtain ⟨i, hi, rfl, rfl⟩ := ha9
  try rw [ix_nI (show i < 2 ^ 31 by omega)]
  have xa : zI (M 0 1) (nI i) := ⟨i, hi, rfl⟩
  have hz := hI5 i hi
  obtain ⟨hc1, hc2, hc3, hc4, hc5, hc6, hc7⟩ := id hz
  refine lv_astore_n (lv' := [(3, .ref (ad (20 + 2 * i))), (0, .ref (ad 0)), (1, .int (nI i)), (2, .int p1)]) hx hb dX2_join_5 rfl hl (by decide) rfl (fun ls hl => ?_)
  refine lv_aload_n hx hb dX2_join_6 rfl (lv_at hl 1 rfl) ?_
  refine lv_iload_n hx hb dX2_join_7 rfl (lv_at hl 3 rfl) ?_
  refine z_xVq (qc := (RX2, TX2, 5)) (As := [.int p1]) (rest := []) (0) F (c_X2_caseAt l hfl sa D k ad M O hI2 p1) (cwV 1 hts gX2_join_X2_caseAt rfl rfl rfl (by decide +kernel) ⟨Nat.le_of_ble_eq_true rfl, Nat.le_of_ble_eq_true rfl⟩) hK hP (by omega) cX_0 rfl hE hS0 hnox hlocks rfl hl.1 rfl (Nat.le_of_ble_eq_true rfl) dX2_join_8 ⟨Nat.le_of_ble_eq_true rfl, Nat.le_of_ble_eq_true rfl⟩ (Nat.le_of_ble_eq_true rfl) (Nat.le_of_ble_eq_true rfl) (fun E hpx => by obtain ⟨rfl, zz1⟩ := hpx; exact exC_1 (fun zz2 => zz1 zz2.2)) (fun a9 ha9 H1 locs1 hz1 hk1 hS0 => ?_)
  replace hP := z_keptP hP hk1
  obtain ⟨j, hj, rfl, rfl⟩ := ha9
  try rw [ix_nI (show j < 2 ^ 31 by omega)]
  have xaj : zI (M 0 1) (nI j) := ⟨j, hj, rfl⟩
  have hzj := hI5 j hj
  skip
  have hin := zw_inj hD
  obtain ⟨gc1, gc2, gc3, gc4, gc5, gc6, gc7⟩ := id hzj
  refine lv_astore (lv' := [(4, .ref (ad (20 + 2 * j))), (3, .ref (ad (20 + 2 * i))), (0, .ref (ad 0)), (1, .int (nI i)), (2, .int (nI j))]) hx hb dX2_join_11 hl (by decide) rfl (fun ls hl => ?_)
  refine lv_aload_n hx hb dX2_join_13 rfl (lv_at hl 1 rfl) ?_
  refine lv_aload hx hb dX2_join_14 (lv_at hl 0 rfl) ?_
  refine lv_acmp_eq (rx := some (ad (20 + 2 * i))) (ry := some (ad (20 + 2 * j))) (tgt := 35) hx hb dX2_join_16 (by decide) (fun c22 => ?_) (fun c22 => ?_)
  · refine lv_iconst (v := nI 0) hx hb dX2_join_35 (by decide) ?_
    refine z_top (show nI 0 = bI (i ≠ j ∧ M 9 i = M 9 j) from (bI_f (fun zz1 => zz1.1 (by have zz2 := hin _ _ (by omega) (by omega) (Option.some.inj c22); omega))).symm) ?_
    refine z_xS (As := [.int (bI (i ≠ j ∧ M 9 i = M 9 j))]) (rest := []) F (c_X2_checkArgument l hfl sa (i ≠ j ∧ M 9 i = M 9 j)) (va_cwS 1 hts gX2_join_X2_checkArgument rfl rfl rfl (by decide +kernel) ⟨Nat.le_of_ble_eq_true rfl, Nat.le_of_ble_eq_true rfl⟩) hE hS0 hnox hlocks rfl hl.1 rfl (Nat.le_of_ble_eq_true rfl) dX2_join_36 ⟨Nat.le_of_ble_eq_true rfl, Nat.le_of_ble_eq_true rfl⟩ (Nat.le_of_ble_eq_true rfl) (Nat.le_of_ble_eq_true rfl) (fun E hpx => by obtain ⟨rfl, zz1⟩ := hpx; exact exC_2 ⟨xa, xaj⟩ zz1) (fun c23 H1 locs1 hz1 hk1 hS0 => ?_)
    replace hP := z_keptP hP hk1
    refine lv_aload_n hx hb dX2_join_39 rfl (lv_at hl 1 rfl) ?_
    refine z_get (C := RX0) (T := TX0) (N := 8) (ci := 0) (v := .int (nI (M 12 i))) F hK hP hi0 rfl (20 + 2 * i) 3 (show 20 + 2 * i < 20 + 2 * M 0 1 by have := hi; omega) cX_c (by decide) rfl (by decide +kernel) dX2_join_40 ?_
    refine z_ifn_ne (tgt := 66) F (by omega) dX2_join_43 (by decide) (fun c24 => ?_) (fun c24 => ?_)
    · refine lv_iconst (v := nI 0) hx hb dX2_join_66 (by decide) ?_
      refine z_top (show nI 0 = bI (M 12 i = 0 ∧ M 12 j = 0 ∧ jN M i (M 0 1) = 0) from (bI_f (fun zz1 => c24 zz1.1)).symm) ?_
      refine z_xS (As := [.int (bI (M 12 i = 0 ∧ M 12 j = 0 ∧ jN M i (M 0 1) = 0))]) (rest := []) F (c_X2_checkState l hfl sa (M 12 i = 0 ∧ M 12 j = 0 ∧ jN M i (M 0 1) = 0)) (va_cwS 1 hts gX2_join_X2_checkState rfl rfl rfl (by decide +kernel) ⟨Nat.le_of_ble_eq_true rfl, Nat.le_of_ble_eq_true rfl⟩) hE hS0 hnox hlocks rfl hl.1 rfl (Nat.le_of_ble_eq_true rfl) dX2_join_67 ⟨Nat.le_of_ble_eq_true rfl, Nat.le_of_ble_eq_true rfl⟩ (Nat.le_of_ble_eq_true rfl) (Nat.le_of_ble_eq_true rfl) (fun E hpx => by obtain ⟨rfl, zz1⟩ := hpx; exact exC_3 ⟨xa, xaj⟩ c23 zz1) (fun c25 H1 locs1 hz1 hk1 hS0 => ?_)
      replace hP := z_keptP hP hk1
      have hS := zS_mono (B := A) hS0 noA_le
      refine lv_aload_n hx hb dX2_join_70 rfl (lv_at hl 1 rfl) ?_
      refine lv_iconst (v := nI 1) hx hb dX2_join_71 (by decide) ?_
      refine z_put (C := RX0) (T := TX0) (N := 8) (ci := 0) (f' := (cX k ad (zu M 12 i 1) O)) F hK hP hD hS hi0 rfl tyX0 tyX0_ok nmX0 (20 + 2 * i) 3 (show 20 + 2 * i < 20 + 2 * M 0 1 by have := hi; omega) cX_c (by decide) (Nat.le_of_ble_eq_true rfl) (by decide +kernel) rfl rfl rfl rfl (cX_ustate _) dX2_join_72 (fun H locs hP hD hS => ?_)
      refine lv_aload_n hx hb dX2_join_75 rfl (lv_at hl 1 rfl) ?_
      refine lv_aload hx hb dX2_join_76 (lv_at hl 0 rfl) ?_
      refine z_put (C := RX0) (T := TX0) (N := 8) (ci := 0) (f' := (cX k ad (zu (zu M 12 i 1) 13 i (j + 1)) O)) F hK hP hD hS hi0 rfl tyX0 tyX0_ok nmX0 (20 + 2 * i) 5 (show 20 + 2 * i < 20 + 2 * M 0 1 by have := hi; omega) cX_c (by decide) (Nat.le_of_ble_eq_true rfl) (by decide +kernel) rfl rfl rfl rfl (cX_uhead (j + 1)) dX2_join_78 (fun H locs hP hD hS => ?_)
      have hcaJ : ∀ c, c < (zu (zu M 12 i 1) 13 i (j + 1)) 0 1 → zCa (zu (zu M 12 i 1) 13 i (j + 1)) c := by
        intro zc zc1
        obtain ⟨g1, g2, g3, g4, g5, g6, g7⟩ := hI5 zc zc1
        refine ⟨g1, g2, g3, ?_, ?_, g6, g7⟩
        · rw [zu_r _ _ _ _ (by decide)]
          by_cases zc2 : zc = i
          · rw [zc2, zu_s]; omega
          · rw [zu_i _ _ _ _ zc2]; exact g4
        · by_cases zc2 : zc = i
          · rw [zc2, zu_s]; show j + 1 ≤ M 0 1; omega
          · rw [zu_i _ _ _ _ zc2]; exact g5
      refine lv_aload_n hx hb dX2_join_81 rfl (lv_at hl 2 rfl) ?_
      refine lv_aload hx hb dX2_join_82 (lv_at hl 0 rfl) ?_
      refine z_cV (qc := (RX2, TX2, 5)) (As := [.ref (ad (20 + 2 * j))]) (rest := []) (0) F (c_X2_countJoinedTo l D k ad (zu (zu M 12 i 1) 13 i (j + 1)) O hin hcaJ j hj hI2) (cwV 1 hts gX2_join_X2_countJoinedTo rfl rfl rfl (by decide +kernel) ⟨Nat.le_of_ble_eq_true rfl, Nat.le_of_ble_eq_true rfl⟩) hK hP (by omega) cX_0 rfl rfl hl.1 rfl (Nat.le_of_ble_eq_true rfl) dX2_join_84 ⟨Nat.le_of_ble_eq_true rfl, Nat.le_of_ble_eq_true rfl⟩ (fun r hr => ?_)
      subst hr
      have hjl := jN_le (zu (zu M 12 i 1) 13 i (j + 1)) j (M 0 1)
      refine vx_ret (mc := 4) (ms := 24) (W.widen (k := 4) (n := 24) (Nat.le_of_ble_eq_true rfl) (Nat.le_of_ble_eq_true rfl) ?_)
      exact W.iret (v := nI (jN (zu (zu M 12 i 1) 13 i (j + 1)) j (M 0 1))) hx hb hr (fun t ht hW => ⟨⟨nI (jN (zu (zu M 12 i 1) 13 i (j + 1)) j (M 0 1)), ad, rfl, ⟨x3_0 ⟨xa, xaj⟩ c23 c25, rfl⟩, ⟨⟨by rw [ht]; exact hP, va_K.moved hW.alike hK⟩, hD⟩, fun _ _ => rfl⟩, hS.F ht⟩) hS.2.2 dX2_join_87
    · refine lv_aload hx hb dX2_join_46 (lv_at hl 0 rfl) ?_
      refine z_get (C := RX0) (T := TX0) (N := 8) (ci := 0) (v := .int (nI (M 12 j))) F hK hP hi0 rfl (20 + 2 * j) 3 (show 20 + 2 * j < 20 + 2 * M 0 1 by have := hj; omega) cX_c (by decide) rfl (by decide +kernel) dX2_join_48 ?_
      refine z_ifn_ne (tgt := 66) F (by omega) dX2_join_51 (by decide) (fun c26 => ?_) (fun c26 => ?_)
      · refine lv_iconst (v := nI 0) hx hb dX2_join_66 (by decide) ?_
        refine z_top (show nI 0 = bI (M 12 i = 0 ∧ M 12 j = 0 ∧ jN M i (M 0 1) = 0) from (bI_f (fun zz1 => c26 zz1.2.1)).symm) ?_
        refine z_xS (As := [.int (bI (M 12 i = 0 ∧ M 12 j = 0 ∧ jN M i (M 0 1) = 0))]) (rest := []) F (c_X2_checkState l hfl sa (M 12 i = 0 ∧ M 12 j = 0 ∧ jN M i (M 0 1) = 0)) (va_cwS 1 hts gX2_join_X2_checkState rfl rfl rfl (by decide +kernel) ⟨Nat.le_of_ble_eq_true rfl, Nat.le_of_ble_eq_true rfl⟩) hE hS0 hnox hlocks rfl hl.1 rfl (Nat.le_of_ble_eq_true rfl) dX2_join_67 ⟨Nat.le_of_ble_eq_true rfl, Nat.le_of_ble_eq_true rfl⟩ (Nat.le_of_ble_eq_true rfl) (Nat.le_of_ble_eq_true rfl) (fun E hpx => by obtain ⟨rfl, zz1⟩ := hpx; exact exC_3 ⟨xa, xaj⟩ c23 zz1) (fun c27 H1 locs1 hz1 hk1 hS0 => ?_)
        replace hP := z_keptP hP hk1
        have hS := zS_mono (B := A) hS0 noA_le
        refine lv_aload_n hx hb dX2_join_70 rfl (lv_at hl 1 rfl) ?_
        refine lv_iconst (v := nI 1) hx hb dX2_join_71 (by decide) ?_
        refine z_put (C := RX0) (T := TX0) (N := 8) (ci := 0) (f' := (cX k ad (zu M 12 i 1) O)) F hK hP hD hS hi0 rfl tyX0 tyX0_ok nmX0 (20 + 2 * i) 3 (show 20 + 2 * i < 20 + 2 * M 0 1 by have := hi; omega) cX_c (by decide) (Nat.le_of_ble_eq_true rfl) (by decide +kernel) rfl rfl rfl rfl (cX_ustate _) dX2_join_72 (fun H locs hP hD hS => ?_)
        refine lv_aload_n hx hb dX2_join_75 rfl (lv_at hl 1 rfl) ?_
        refine lv_aload hx hb dX2_join_76 (lv_at hl 0 rfl) ?_
        refine z_put (C := RX0) (T := TX0) (N := 8) (ci := 0) (f' := (cX k ad (zu (zu M 12 i 1) 13 i (j + 1)) O)) F hK hP hD hS hi0 rfl tyX0 tyX0_ok nmX0 (20 + 2 * i) 5 (show 20 + 2 * i < 20 + 2 * M 0 1 by have := hi; omega) cX_c (by decide) (Nat.le_of_ble_eq_true rfl) (by decide +kernel) rfl rfl rfl rfl (cX_uhead (j + 1)) dX2_join_78 (fun H locs hP hD hS => ?_)
        have hcaJ : ∀ c, c < (zu (zu M 12 i 1) 13 i (j + 1)) 0 1 → zCa (zu (zu M 12 i 1) 13 i (j + 1)) c := by
          intro zc zc1
          obtain ⟨g1, g2, g3, g4, g5, g6, g7⟩ := hI5 zc zc1
          refine ⟨g1, g2, g3, ?_, ?_, g6, g7⟩
          · rw [zu_r _ _ _ _ (by decide)]
            by_cases zc2 : zc = i
            · rw [zc2, zu_s]; omega
            · rw [zu_i _ _ _ _ zc2]; exact g4
          · by_cases zc2 : zc = i
            · rw [zc2, zu_s]; show j + 1 ≤ M 0 1; omega
            · rw [zu_i _ _ _ _ zc2]; exact g5
        refine lv_aload_n hx hb dX2_join_81 rfl (lv_at hl 2 rfl) ?_
        refine lv_aload hx hb dX2_join_82 (lv_at hl 0 rfl) ?_
        refine z_cV (qc := (RX2, TX2, 5)) (As := [.ref (ad (20 + 2 * j))]) (rest := []) (0) F (c_X2_countJoinedTo l D k ad (zu (zu M 12 i 1) 13 i (j + 1)) O hin hcaJ j hj hI2) (cwV 1 hts gX2_join_X2_countJoinedTo rfl rfl rfl (by decide +kernel) ⟨Nat.le_of_ble_eq_true rfl, Nat.le_of_ble_eq_true rfl⟩) hK hP (by omega) cX_0 rfl rfl hl.1 rfl (Nat.le_of_ble_eq_true rfl) dX2_join_84 ⟨Nat.le_of_ble_eq_true rfl, Nat.le_of_ble_eq_true rfl⟩ (fun r hr => ?_)
        subst hr
        have hjl := jN_le (zu (zu M 12 i 1) 13 i (j + 1)) j (M 0 1)
        refine vx_ret (mc := 4) (ms := 24) (W.widen (k := 4) (n := 24) (Nat.le_of_ble_eq_true rfl) (Nat.le_of_ble_eq_true rfl) ?_)
        exact W.iret (v := nI (jN (zu (zu M 12 i 1) 13 i (j + 1)) j (M 0 1))) hx hb hr (fun t ht hW => ⟨⟨nI (jN (zu (zu M 12 i 1) 13 i (j + 1)) j (M 0 1)), ad, rfl, ⟨x3_0 ⟨xa, xaj⟩ c23 c27, rfl⟩, ⟨⟨by rw [ht]; exact hP, va_K.moved hW.alike hK⟩, hD⟩, fun _ _ => rfl⟩, hS.F ht⟩) hS.2.2 dX2_join_87
      · refine lv_aload_n hx hb dX2_join_54 rfl (lv_at hl 2 rfl) ?_
        refine lv_aload_n hx hb dX2_join_55 rfl (lv_at hl 1 rfl) ?_
        refine z_cV (qc := (RX2, TX2, 5)) (As := [.ref (ad (20 + 2 * i))]) (rest := []) (0) F (c_X2_countJoinedTo l D k ad (M) O hin hI5 i hi hI2) (cwV 1 hts gX2_join_X2_countJoinedTo rfl rfl rfl (by decide +kernel) ⟨Nat.le_of_ble_eq_true rfl, Nat.le_of_ble_eq_true rfl⟩) hK hP (by omega) cX_0 rfl rfl hl.1 rfl (Nat.le_of_ble_eq_true rfl) dX2_join_56 ⟨Nat.le_of_ble_eq_true rfl, Nat.le_of_ble_eq_true rfl⟩ (fun r hr => ?_)
        subst hr
        have hjl := jN_le M i (M 0 1)
        refine z_ifn_ne (tgt := 66) F (by omega) dX2_join_59 (by decide) (fun c28 => ?_) (fun c28 => ?_)
        · refine lv_iconst (v := nI 0) hx hb dX2_join_66 (by decide) ?_
          refine z_top (show nI 0 = bI (M 12 i = 0 ∧ M 12 j = 0 ∧ jN M i (M 0 1) = 0) from (bI_f (fun zz1 => c28 zz1.2.2)).symm) ?_
          refine z_xS (As := [.int (bI (M 12 i = 0 ∧ M 12 j = 0 ∧ jN M i (M 0 1) = 0))]) (rest := []) F (c_X2_checkState l hfl sa (M 12 i = 0 ∧ M 12 j = 0 ∧ jN M i (M 0 1) = 0)) (va_cwS 1 hts gX2_join_X2_checkState rfl rfl rfl (by decide +kernel) ⟨Nat.le_of_ble_eq_true rfl, Nat.le_of_ble_eq_true rfl⟩) hE hS0 hnox hlocks rfl hl.1 rfl (Nat.le_of_ble_eq_true rfl) dX2_join_67 ⟨Nat.le_of_ble_eq_true rfl, Nat.le_of_ble_eq_true rfl⟩ (Nat.le_of_ble_eq_true rfl) (Nat.le_of_ble_eq_true rfl) (fun E hpx => by obtain ⟨rfl, zz1⟩ := hpx; exact exC_3 ⟨xa, xaj⟩ c23 zz1) (fun c29 H1 locs1 hz1 hk1 hS0 => ?_)
          replace hP := z_keptP hP hk1
          have hS := zS_mono (B := A) hS0 noA_le
          refine lv_aload_n hx hb dX2_join_70 rfl (lv_at hl 1 rfl) ?_
          refine lv_iconst (v := nI 1) hx hb dX2_join_71 (by decide) ?_
          refine z_put (C := RX0) (T := TX0) (N := 8) (ci := 0) (f' := (cX k ad (zu M 12 i 1) O)) F hK hP hD hS hi0 rfl tyX0 tyX0_ok nmX0 (20 + 2 * i) 3 (show 20 + 2 * i < 20 + 2 * M 0 1 by have := hi; omega) cX_c (by decide) (Nat.le_of_ble_eq_true rfl) (by decide +kernel) rfl rfl rfl rfl (cX_ustate _) dX2_join_72 (fun H locs hP hD hS => ?_)
          refine lv_aload_n hx hb dX2_join_75 rfl (lv_at hl 1 rfl) ?_
          refine lv_aload hx hb dX2_join_76 (lv_at hl 0 rfl) ?_
          refine z_put (C := RX0) (T := TX0) (N := 8) (ci := 0) (f' := (cX k ad (zu (zu M 12 i 1) 13 i (j + 1)) O)) F hK hP hD hS hi0 rfl tyX0 tyX0_ok nmX0 (20 + 2 * i) 5 (show 20 + 2 * i < 20 + 2 * M 0 1 by have := hi; omega) cX_c (by decide) (Nat.le_of_ble_eq_true rfl) (by decide +kernel) rfl rfl rfl rfl (cX_uhead (j + 1)) dX2_join_78 (fun H locs hP hD hS => ?_)
          have hcaJ : ∀ c, c < (zu (zu M 12 i 1) 13 i (j + 1)) 0 1 → zCa (zu (zu M 12 i 1) 13 i (j + 1)) c := by
            intro zc zc1
            obtain ⟨g1, g2, g3, g4, g5, g6, g7⟩ := hI5 zc zc1
            refine ⟨g1, g2, g3, ?_, ?_, g6, g7⟩
            · rw [zu_r _ _ _ _ (by decide)]
              by_cases zc2 : zc = i
              · rw [zc2, zu_s]; omega
              · rw [zu_i _ _ _ _ zc2]; exact g4
            · by_cases zc2 : zc = i
              · rw [zc2, zu_s]; show j + 1 ≤ M 0 1; omega
              · rw [zu_i _ _ _ _ zc2]; exact g5
          refine lv_aload_n hx hb dX2_join_81 rfl (lv_at hl 2 rfl) ?_
          refine lv_aload hx hb dX2_join_82 (lv_at hl 0 rfl) ?_
          refine z_cV (qc := (RX2, TX2, 5)) (As := [.ref (ad (20 + 2 * j))]) (rest := []) (0) F (c_X2_countJoinedTo l D k ad (zu (zu M 12 i 1) 13 i (j + 1)) O hin hcaJ j hj hI2) (cwV 1 hts gX2_join_X2_countJoinedTo rfl rfl rfl (by decide +kernel) ⟨Nat.le_of_ble_eq_true rfl, Nat.le_of_ble_eq_true rfl⟩) hK hP (by omega) cX_0 rfl rfl hl.1 rfl (Nat.le_of_ble_eq_true rfl) dX2_join_84 ⟨Nat.le_of_ble_eq_true rfl, Nat.le_of_ble_eq_true rfl⟩ (fun r hr => ?_)
          subst hr
          have hjl := jN_le (zu (zu M 12 i 1) 13 i (j + 1)) j (M 0 1)
          refine vx_ret (mc := 4) (ms := 24) (W.widen (k := 4) (n := 24) (Nat.le_of_ble_eq_true rfl) (Nat.le_of_ble_eq_true rfl) ?_)
          exact W.iret (v := nI (jN (zu (zu M 12 i 1) 13 i (j + 1)) j (M 0 1))) hx hb hr (fun t ht hW => ⟨⟨nI (jN (zu (zu M 12 i 1) 13 i (j + 1)) j (M 0 1)), ad, rfl, ⟨x3_0 ⟨xa, xaj⟩ c23 c29, rfl⟩, ⟨⟨by rw [ht]; exact hP, va_K.moved hW.alike hK⟩, hD⟩, fun _ _ => rfl⟩, hS.F ht⟩) hS.2.2 dX2_join_87
        · refine lv_iconst (v := nI 1) hx hb dX2_join_62 (by decide) ?_
          refine lv_goto (tgt := 67) hx hb dX2_join_63 (by decide) ?_
          refine z_top (show nI 1 = bI (M 12 i = 0 ∧ M 12 j = 0 ∧ jN M i (M 0 1) = 0) from (bI_t (⟨c24, c26, c28⟩)).symm) ?_
          refine z_xS (As := [.int (bI (M 12 i = 0 ∧ M 12 j = 0 ∧ jN M i (M 0 1) = 0))]) (rest := []) F (c_X2_checkState l hfl sa (M 12 i = 0 ∧ M 12 j = 0 ∧ jN M i (M 0 1) = 0)) (va_cwS 1 hts gX2_join_X2_checkState rfl rfl rfl (by decide +kernel) ⟨Nat.le_of_ble_eq_true rfl, Nat.le_of_ble_eq_true rfl⟩) hE hS0 hnox hlocks rfl hl.1 rfl (Nat.le_of_ble_eq_true rfl) dX2_join_67 ⟨Nat.le_of_ble_eq_true rfl, Nat.le_of_ble_eq_true rfl⟩ (Nat.le_of_ble_eq_true rfl) (Nat.le_of_ble_eq_true rfl) (fun E hpx => by obtain ⟨rfl, zz1⟩ := hpx; exact exC_3 ⟨xa, xaj⟩ c23 zz1) (fun c30 H1 locs1 hz1 hk1 hS0 => ?_)
          replace hP := z_keptP hP hk1
          have hS := zS_mono (B := A) hS0 noA_le
          refine lv_aload_n hx hb dX2_join_70 rfl (lv_at hl 1 rfl) ?_
          refine lv_iconst (v := nI 1) hx hb dX2_join_71 (by decide) ?_
          refine z_put (C := RX0) (T := TX0) (N := 8) (ci := 0) (f' := (cX k ad (zu M 12 i 1) O)) F hK hP hD hS hi0 rfl tyX0 tyX0_ok nmX0 (20 + 2 * i) 3 (show 20 + 2 * i < 20 + 2 * M 0 1 by have := hi; omega) cX_c (by decide) (Nat.le_of_ble_eq_true rfl) (by decide +kernel) rfl rfl rfl rfl (cX_ustate _) dX2_join_72 (fun H locs hP hD hS => ?_)
          refine lv_aload_n hx hb dX2_join_75 rfl (lv_at hl 1 rfl) ?_
          refine lv_aload hx hb dX2_join_76 (lv_at hl 0 rfl) ?_
          refine z_put (C := RX0) (T := TX0) (N := 8) (ci := 0) (f' := (cX k ad (zu (zu M 12 i 1) 13 i (j + 1)) O)) F hK hP hD hS hi0 rfl tyX0 tyX0_ok nmX0 (20 + 2 * i) 5 (show 20 + 2 * i < 20 + 2 * M 0 1 by have := hi; omega) cX_c (by decide) (Nat.le_of_ble_eq_true rfl) (by decide +kernel) rfl rfl rfl rfl (cX_uhead (j + 1)) dX2_join_78 (fun H locs hP hD hS => ?_)
          have hcaJ : ∀ c, c < (zu (zu M 12 i 1) 13 i (j + 1)) 0 1 → zCa (zu (zu M 12 i 1) 13 i (j + 1)) c := by
            intro zc zc1
            obtain ⟨g1, g2, g3, g4, g5, g6, g7⟩ := hI5 zc zc1
            refine ⟨g1, g2, g3, ?_, ?_, g6, g7⟩
            · rw [zu_r _ _ _ _ (by decide)]
              by_cases zc2 : zc = i
              · rw [zc2, zu_s]; omega
              · rw [zu_i _ _ _ _ zc2]; exact g4
            · by_cases zc2 : zc = i
              · rw [zc2, zu_s]; show j + 1 ≤ M 0 1; omega
              · rw [zu_i _ _ _ _ zc2]; exact g5
          refine lv_aload_n hx hb dX2_join_81 rfl (lv_at hl 2 rfl) ?_
          refine lv_aload hx hb dX2_join_82 (lv_at hl 0 rfl) ?_
          refine z_cV (qc := (RX2, TX2, 5)) (As := [.ref (ad (20 + 2 * j))]) (rest := []) (0) F (c_X2_countJoinedTo l D k ad (zu (zu M 12 i 1) 13 i (j + 1)) O hin hcaJ j hj hI2) (cwV 1 hts gX2_join_X2_countJoinedTo rfl rfl rfl (by decide +kernel) ⟨Nat.le_of_ble_eq_true rfl, Nat.le_of_ble_eq_true rfl⟩) hK hP (by omega) cX_0 rfl rfl hl.1 rfl (Nat.le_of_ble_eq_true rfl) dX2_join_84 ⟨Nat.le_of_ble_eq_true rfl, Nat.le_of_ble_eq_true rfl⟩ (fun r hr => ?_)
          subst hr
          have hjl := jN_le (zu (zu M 12 i 1) 13 i (j + 1)) j (M 0 1)
          refine vx_ret (mc := 4) (ms := 24) (W.widen (k := 4) (n := 24) (Nat.le_of_ble_eq_true rfl) (Nat.le_of_ble_eq_true rfl) ?_)
          exact W.iret (v := nI (jN (zu (zu M 12 i 1) 13 i (j + 1)) j (M 0 1))) hx hb hr (fun t ht hW => ⟨⟨nI (jN (zu (zu M 12 i 1) 13 i (j + 1)) j (M 0 1)), ad, rfl, ⟨x3_0 ⟨xa, xaj⟩ c23 c30, rfl⟩, ⟨⟨by rw [ht]; exact hP, va_K.moved hW.alike hK⟩, hD⟩, fun _ _ => rfl⟩, hS.F ht⟩) hS.2.2 dX2_join_87
  · refine lv_aload_n hx hb dX2_join_19 rfl (lv_at hl 1 rfl) ?_
    refine z_get (C := RX0) (T := TX0) (N := 8) (ci := 0) (v := .ref (ad (4 + 4 * (M 9 i)))) F hK hP hi0 rfl (20 + 2 * i) 0 (show 20 + 2 * i < 20 + 2 * M 0 1 by have := hi; omega) cX_c (by decide) rfl (by decide +kernel) dX2_join_20 ?_
    refine lv_aload hx hb dX2_join_23 (lv_at hl 0 rfl) ?_
    refine z_get (C := RX0) (T := TX0) (N := 8) (ci := 0) (v := .ref (ad (4 + 4 * (M 9 j)))) F hK hP hi0 rfl (20 + 2 * j) 0 (show 20 + 2 * j < 20 + 2 * M 0 1 by have := hj; omega) cX_c (by decide) rfl (by decide +kernel) dX2_join_25 ?_
    refine lv_acmp_ne (rx := some (ad (4 + 4 * (M 9 i)))) (ry := some (ad (4 + 4 * (M 9 j)))) (tgt := 35) hx hb dX2_join_28 (by decide) (fun c31 => ?_) (fun c31 => ?_)
    · refine lv_iconst (v := nI 0) hx hb dX2_join_35 (by decide) ?_
      refine z_top (show nI 0 = bI (i ≠ j ∧ M 9 i = M 9 j) from (bI_f (fun zz1 => c31 (by rw [zz1.2]))).symm) ?_
      refine z_xS (As := [.int (bI (i ≠ j ∧ M 9 i = M 9 j))]) (rest := []) F (c_X2_checkArgument l hfl sa (i ≠ j ∧ M 9 i = M 9 j)) (va_cwS 1 hts gX2_join_X2_checkArgument rfl rfl rfl (by decide +kernel) ⟨Nat.le_of_ble_eq_true rfl, Nat.le_of_ble_eq_true rfl⟩) hE hS0 hnox hlocks rfl hl.1 rfl (Nat.le_of_ble_eq_true rfl) dX2_join_36 ⟨Nat.le_of_ble_eq_true rfl, Nat.le_of_ble_eq_true rfl⟩ (Nat.le_of_ble_eq_true rfl) (Nat.le_of_ble_eq_true rfl) (fun E hpx => by obtain ⟨rfl, zz1⟩ := hpx; exact exC_2 ⟨xa, xaj⟩ zz1) (fun c32 H1 locs1 hz1 hk1 hS0 => ?_)
      replace hP := z_keptP hP hk1
      refine lv_aload_n hx hb dX2_join_39 rfl (lv_at hl 1 rfl) ?_
      refine z_get (C := RX0) (T := TX0) (N := 8) (ci := 0) (v := .int (nI (M 12 i))) F hK hP hi0 rfl (20 + 2 * i) 3 (show 20 + 2 * i < 20 + 2 * M 0 1 by have := hi; omega) cX_c (by decide) rfl (by decide +kernel) dX2_join_40 ?_
      refine z_ifn_ne (tgt := 66) F (by omega) dX2_join_43 (by decide) (fun c33 => ?_) (fun c33 => ?_)
      · refine lv_iconst (v := nI 0) hx hb dX2_join_66 (by decide) ?_
        refine z_top (show nI 0 = bI (M 12 i = 0 ∧ M 12 j = 0 ∧ jN M i (M 0 1) = 0) from (bI_f (fun zz1 => c33 zz1.1)).symm) ?_
        refine z_xS (As := [.int (bI (M 12 i = 0 ∧ M 12 j = 0 ∧ jN M i (M 0 1) = 0))]) (rest := []) F (c_X2_checkState l hfl sa (M 12 i = 0 ∧ M 12 j = 0 ∧ jN M i (M 0 1) = 0)) (va_cwS 1 hts gX2_join_X2_checkState rfl rfl rfl (by decide +kernel) ⟨Nat.le_of_ble_eq_true rfl, Nat.le_of_ble_eq_true rfl⟩) hE hS0 hnox hlocks rfl hl.1 rfl (Nat.le_of_ble_eq_true rfl) dX2_join_67 ⟨Nat.le_of_ble_eq_true rfl, Nat.le_of_ble_eq_true rfl⟩ (Nat.le_of_ble_eq_true rfl) (Nat.le_of_ble_eq_true rfl) (fun E hpx => by obtain ⟨rfl, zz1⟩ := hpx; exact exC_3 ⟨xa, xaj⟩ c32 zz1) (fun c34 H1 locs1 hz1 hk1 hS0 => ?_)
        replace hP := z_keptP hP hk1
        have hS := zS_mono (B := A) hS0 noA_le
        refine lv_aload_n hx hb dX2_join_70 rfl (lv_at hl 1 rfl) ?_
        refine lv_iconst (v := nI 1) hx hb dX2_join_71 (by decide) ?_
        refine z_put (C := RX0) (T := TX0) (N := 8) (ci := 0) (f' := (cX k ad (zu M 12 i 1) O)) F hK hP hD hS hi0 rfl tyX0 tyX0_ok nmX0 (20 + 2 * i) 3 (show 20 + 2 * i < 20 + 2 * M 0 1 by have := hi; omega) cX_c (by decide) (Nat.le_of_ble_eq_true rfl) (by decide +kernel) rfl rfl rfl rfl (cX_ustate _) dX2_join_72 (fun H locs hP hD hS => ?_)
        refine lv_aload_n hx hb dX2_join_75 rfl (lv_at hl 1 rfl) ?_
        refine lv_aload hx hb dX2_join_76 (lv_at hl 0 rfl) ?_
        refine z_put (C := RX0) (T := TX0) (N := 8) (ci := 0) (f' := (cX k ad (zu (zu M 12 i 1) 13 i (j + 1)) O)) F hK hP hD hS hi0 rfl tyX0 tyX0_ok nmX0 (20 + 2 * i) 5 (show 20 + 2 * i < 20 + 2 * M 0 1 by have := hi; omega) cX_c (by decide) (Nat.le_of_ble_eq_true rfl) (by decide +kernel) rfl rfl rfl rfl (cX_uhead (j + 1)) dX2_join_78 (fun H locs hP hD hS => ?_)
        have hcaJ : ∀ c, c < (zu (zu M 12 i 1) 13 i (j + 1)) 0 1 → zCa (zu (zu M 12 i 1) 13 i (j + 1)) c := by
          intro zc zc1
          obtain ⟨g1, g2, g3, g4, g5, g6, g7⟩ := hI5 zc zc1
          refine ⟨g1, g2, g3, ?_, ?_, g6, g7⟩
          · rw [zu_r _ _ _ _ (by decide)]
            by_cases zc2 : zc = i
            · rw [zc2, zu_s]; omega
            · rw [zu_i _ _ _ _ zc2]; exact g4
          · by_cases zc2 : zc = i
            · rw [zc2, zu_s]; show j + 1 ≤ M 0 1; omega
            · rw [zu_i _ _ _ _ zc2]; exact g5
        refine lv_aload_n hx hb dX2_join_81 rfl (lv_at hl 2 rfl) ?_
        refine lv_aload hx hb dX2_join_82 (lv_at hl 0 rfl) ?_
        refine z_cV (qc := (RX2, TX2, 5)) (As := [.ref (ad (20 + 2 * j))]) (rest := []) (0) F (c_X2_countJoinedTo l D k ad (zu (zu M 12 i 1) 13 i (j + 1)) O hin hcaJ j hj hI2) (cwV 1 hts gX2_join_X2_countJoinedTo rfl rfl rfl (by decide +kernel) ⟨Nat.le_of_ble_eq_true rfl, Nat.le_of_ble_eq_true rfl⟩) hK hP (by omega) cX_0 rfl rfl hl.1 rfl (Nat.le_of_ble_eq_true rfl) dX2_join_84 ⟨Nat.le_of_ble_eq_true rfl, Nat.le_of_ble_eq_true rfl⟩ (fun r hr => ?_)
        subst hr
        have hjl := jN_le (zu (zu M 12 i 1) 13 i (j + 1)) j (M 0 1)
        refine vx_ret (mc := 4) (ms := 24) (W.widen (k := 4) (n := 24) (Nat.le_of_ble_eq_true rfl) (Nat.le_of_ble_eq_true rfl) ?_)
        exact W.iret (v := nI (jN (zu (zu M 12 i 1) 13 i (j + 1)) j (M 0 1))) hx hb hr (fun t ht hW => ⟨⟨nI (jN (zu (zu M 12 i 1) 13 i (j + 1)) j (M 0 1)), ad, rfl, ⟨x3_0 ⟨xa, xaj⟩ c32 c34, rfl⟩, ⟨⟨by rw [ht]; exact hP, va_K.moved hW.alike hK⟩, hD⟩, fun _ _ => rfl⟩, hS.F ht⟩) hS.2.2 dX2_join_87
      · refine lv_aload hx hb dX2_join_46 (lv_at hl 0 rfl) ?_
        refine z_get (C := RX0) (T := TX0) (N := 8) (ci := 0) (v := .int (nI (M 12 j))) F hK hP hi0 rfl (20 + 2 * j) 3 (show 20 + 2 * j < 20 + 2 * M 0 1 by have := hj; omega) cX_c (by decide) rfl (by decide +kernel) dX2_join_48 ?_
        refine z_ifn_ne (tgt := 66) F (by omega) dX2_join_51 (by decide) (fun c35 => ?_) (fun c35 => ?_)
        · refine lv_iconst (v := nI 0) hx hb dX2_join_66 (by decide) ?_
          refine z_top (show nI 0 = bI (M 12 i = 0 ∧ M 12 j = 0 ∧ jN M i (M 0 1) = 0) from (bI_f (fun zz1 => c35 zz1.2.1)).symm) ?_
          refine z_xS (As := [.int (bI (M 12 i = 0 ∧ M 12 j = 0 ∧ jN M i (M 0 1) = 0))]) (rest := []) F (c_X2_checkState l hfl sa (M 12 i = 0 ∧ M 12 j = 0 ∧ jN M i (M 0 1) = 0)) (va_cwS 1 hts gX2_join_X2_checkState rfl rfl rfl (by decide +kernel) ⟨Nat.le_of_ble_eq_true rfl, Nat.le_of_ble_eq_true rfl⟩) hE hS0 hnox hlocks rfl hl.1 rfl (Nat.le_of_ble_eq_true rfl) dX2_join_67 ⟨Nat.le_of_ble_eq_true rfl, Nat.le_of_ble_eq_true rfl⟩ (Nat.le_of_ble_eq_true rfl) (Nat.le_of_ble_eq_true rfl) (fun E hpx => by obtain ⟨rfl, zz1⟩ := hpx; exact exC_3 ⟨xa, xaj⟩ c32 zz1) (fun c36 H1 locs1 hz1 hk1 hS0 => ?_)
          replace hP := z_keptP hP hk1
          have hS := zS_mono (B := A) hS0 noA_le
          refine lv_aload_n hx hb dX2_join_70 rfl (lv_at hl 1 rfl) ?_
          refine lv_iconst (v := nI 1) hx hb dX2_join_71 (by decide) ?_
          refine z_put (C := RX0) (T := TX0) (N := 8) (ci := 0) (f' := (cX k ad (zu M 12 i 1) O)) F hK hP hD hS hi0 rfl tyX0 tyX0_ok nmX0 (20 + 2 * i) 3 (show 20 + 2 * i < 20 + 2 * M 0 1 by have := hi; omega) cX_c (by decide) (Nat.le_of_ble_eq_true rfl) (by decide +kernel) rfl rfl rfl rfl (cX_ustate _) dX2_join_72 (fun H locs hP hD hS => ?_)
          refine lv_aload_n hx hb dX2_join_75 rfl (lv_at hl 1 rfl) ?_
          refine lv_aload hx hb dX2_join_76 (lv_at hl 0 rfl) ?_
          refine z_put (C := RX0) (T := TX0) (N := 8) (ci := 0) (f' := (cX k ad (zu (zu M 12 i 1) 13 i (j + 1)) O)) F hK hP hD hS hi0 rfl tyX0 tyX0_ok nmX0 (20 + 2 * i) 5 (show 20 + 2 * i < 20 + 2 * M 0 1 by have := hi; omega) cX_c (by decide) (Nat.le_of_ble_eq_true rfl) (by decide +kernel) rfl rfl rfl rfl (cX_uhead (j + 1)) dX2_join_78 (fun H locs hP hD hS => ?_)
          have hcaJ : ∀ c, c < (zu (zu M 12 i 1) 13 i (j + 1)) 0 1 → zCa (zu (zu M 12 i 1) 13 i (j + 1)) c := by
            intro zc zc1
            obtain ⟨g1, g2, g3, g4, g5, g6, g7⟩ := hI5 zc zc1
            refine ⟨g1, g2, g3, ?_, ?_, g6, g7⟩
            · rw [zu_r _ _ _ _ (by decide)]
              by_cases zc2 : zc = i
              · rw [zc2, zu_s]; omega
              · rw [zu_i _ _ _ _ zc2]; exact g4
            · by_cases zc2 : zc = i
              · rw [zc2, zu_s]; show j + 1 ≤ M 0 1; omega
              · rw [zu_i _ _ _ _ zc2]; exact g5
          refine lv_aload_n hx hb dX2_join_81 rfl (lv_at hl 2 rfl) ?_
          refine lv_aload hx hb dX2_join_82 (lv_at hl 0 rfl) ?_
          refine z_cV (qc := (RX2, TX2, 5)) (As := [.ref (ad (20 + 2 * j))]) (rest := []) (0) F (c_X2_countJoinedTo l D k ad (zu (zu M 12 i 1) 13 i (j + 1)) O hin hcaJ j hj hI2) (cwV 1 hts gX2_join_X2_countJoinedTo rfl rfl rfl (by decide +kernel) ⟨Nat.le_of_ble_eq_true rfl, Nat.le_of_ble_eq_true rfl⟩) hK hP (by omega) cX_0 rfl rfl hl.1 rfl (Nat.le_of_ble_eq_true rfl) dX2_join_84 ⟨Nat.le_of_ble_eq_true rfl, Nat.le_of_ble_eq_true rfl⟩ (fun r hr => ?_)
          subst hr
          have hjl := jN_le (zu (zu M 12 i 1) 13 i (j + 1)) j (M 0 1)
          refine vx_ret (mc := 4) (ms := 24) (W.widen (k := 4) (n := 24) (Nat.le_of_ble_eq_true rfl) (Nat.le_of_ble_eq_true rfl) ?_)
          exact W.iret (v := nI (jN (zu (zu M 12 i 1) 13 i (j + 1)) j (M 0 1))) hx hb hr (fun t ht hW => ⟨⟨nI (jN (zu (zu M 12 i 1) 13 i (j + 1)) j (M 0 1)), ad, rfl, ⟨x3_0 ⟨xa, xaj⟩ c32 c36, rfl⟩, ⟨⟨by rw [ht]; exact hP, va_K.moved hW.alike hK⟩, hD⟩, fun _ _ => rfl⟩, hS.F ht⟩) hS.2.2 dX2_join_87
        · refine lv_aload_n hx hb dX2_join_54 rfl (lv_at hl 2 rfl) ?_
          refine lv_aload_n hx hb dX2_join_55 rfl (lv_at hl 1 rfl) ?_
          refine z_cV (qc := (RX2, TX2, 5)) (As := [.ref (ad (20 + 2 * i))]) (rest := []) (0) F (c_X2_countJoinedTo l D k ad (M) O hin hI5 i hi hI2) (cwV 1 hts gX2_join_X2_countJoinedTo rfl rfl rfl (by decide +kernel) ⟨Nat.le_of_ble_eq_true rfl, Nat.le_of_ble_eq_true rfl⟩) hK hP (by omega) cX_0 rfl rfl hl.1 rfl (Nat.le_of_ble_eq_true rfl) dX2_join_56 ⟨Nat.le_of_ble_eq_true rfl, Nat.le_of_ble_eq_true rfl⟩ (fun r hr => ?_)
          subst hr
          have hjl := jN_le M i (M 0 1)
          refine z_ifn_ne (tgt := 66) F (by omega) dX2_join_59 (by decide) (fun c37 => ?_) (fun c37 => ?_)
          · refine lv_iconst (v := nI 0) hx hb dX2_join_66 (by decide) ?_
            refine z_top (show nI 0 = bI (M 12 i = 0 ∧ M 12 j = 0 ∧ jN M i (M 0 1) = 0) from (bI_f (fun zz1 => c37 zz1.2.2)).symm) ?_
            refine z_xS (As := [.int (bI (M 12 i = 0 ∧ M 12 j = 0 ∧ jN M i (M 0 1) = 0))]) (rest := []) F (c_X2_checkState l hfl sa (M 12 i = 0 ∧ M 12 j = 0 ∧ jN M i (M 0 1) = 0)) (va_cwS 1 hts gX2_join_X2_checkState rfl rfl rfl (by decide +kernel) ⟨Nat.le_of_ble_eq_true rfl, Nat.le_of_ble_eq_true rfl⟩) hE hS0 hnox hlocks rfl hl.1 rfl (Nat.le_of_ble_eq_true rfl) dX2_join_67 ⟨Nat.le_of_ble_eq_true rfl, Nat.le_of_ble_eq_true rfl⟩ (Nat.le_of_ble_eq_true rfl) (Nat.le_of_ble_eq_true rfl) (fun E hpx => by obtain ⟨rfl, zz1⟩ := hpx; exact exC_3 ⟨xa, xaj⟩ c32 zz1) (fun c38 H1 locs1 hz1 hk1 hS0 => ?_)
            replace hP := z_keptP hP hk1
            have hS := zS_mono (B := A) hS0 noA_le
            refine lv_aload_n hx hb dX2_join_70 rfl (lv_at hl 1 rfl) ?_
            refine lv_iconst (v := nI 1) hx hb dX2_join_71 (by decide) ?_
            refine z_put (C := RX0) (T := TX0) (N := 8) (ci := 0) (f' := (cX k ad (zu M 12 i 1) O)) F hK hP hD hS hi0 rfl tyX0 tyX0_ok nmX0 (20 + 2 * i) 3 (show 20 + 2 * i < 20 + 2 * M 0 1 by have := hi; omega) cX_c (by decide) (Nat.le_of_ble_eq_true rfl) (by decide +kernel) rfl rfl rfl rfl (cX_ustate _) dX2_join_72 (fun H locs hP hD hS => ?_)
            refine lv_aload_n hx hb dX2_join_75 rfl (lv_at hl 1 rfl) ?_
            refine lv_aload hx hb dX2_join_76 (lv_at hl 0 rfl) ?_
            refine z_put (C := RX0) (T := TX0) (N := 8) (ci := 0) (f' := (cX k ad (zu (zu M 12 i 1) 13 i (j + 1)) O)) F hK hP hD hS hi0 rfl tyX0 tyX0_ok nmX0 (20 + 2 * i) 5 (show 20 + 2 * i < 20 + 2 * M 0 1 by have := hi; omega) cX_c (by decide) (Nat.le_of_ble_eq_true rfl) (by decide +kernel) rfl rfl rfl rfl (cX_uhead (j + 1)) dX2_join_78 (fun H locs hP hD hS => ?_)
            have hcaJ : ∀ c, c < (zu (zu M 12 i 1) 13 i (j + 1)) 0 1 → zCa (zu (zu M 12 i 1) 13 i (j + 1)) c := by
              intro zc zc1
              obtain ⟨g1, g2, g3, g4, g5, g6, g7⟩ := hI5 zc zc1
              refine ⟨g1, g2, g3, ?_, ?_, g6, g7⟩
              · rw [zu_r _ _ _ _ (by decide)]
                by_cases zc2 : zc = i
                · rw [zc2, zu_s]; omega
                · rw [zu_i _ _ _ _ zc2]; exact g4
              · by_cases zc2 : zc = i
                · rw [zc2, zu_s]; show j + 1 ≤ M 0 1; omega
                · rw [zu_i _ _ _ _ zc2]; exact g5
            refine lv_aload_n hx hb dX2_join_81 rfl (lv_at hl 2 rfl) ?_
            refine lv_aload hx hb dX2_join_82 (lv_at hl 0 rfl) ?_
            refine z_cV (qc := (RX2, TX2, 5)) (As := [.ref (ad (20 + 2 * j))]) (rest := []) (0) F (c_X2_countJoinedTo l D k ad (zu (zu M 12 i 1) 13 i (j + 1)) O hin hcaJ j hj hI2) (cwV 1 hts gX2_join_X2_countJoinedTo rfl rfl rfl (by decide +kernel) ⟨Nat.le_of_ble_eq_true rfl, Nat.le_of_ble_eq_true rfl⟩) hK hP (by omega) cX_0 rfl rfl hl.1 rfl (Nat.le_of_ble_eq_true rfl) dX2_join_84 ⟨Nat.le_of_ble_eq_true rfl, Nat.le_of_ble_eq_true rfl⟩ (fun r hr => ?_)
            subst hr
            have hjl := jN_le (zu (zu M 12 i 1) 13 i (j + 1)) j (M 0 1)
            refine vx_ret (mc := 4) (ms := 24) (W.widen (k := 4) (n := 24) (Nat.le_of_ble_eq_true rfl) (Nat.le_of_ble_eq_true rfl) ?_)
            exact W.iret (v := nI (jN (zu (zu M 12 i 1) 13 i (j + 1)) j (M 0 1))) hx hb hr (fun t ht hW => ⟨⟨nI (jN (zu (zu M 12 i 1) 13 i (j + 1)) j (M 0 1)), ad, rfl, ⟨x3_0 ⟨xa, xaj⟩ c32 c38, rfl⟩, ⟨⟨by rw [ht]; exact hP, va_K.moved hW.alike hK⟩, hD⟩, fun _ _ => rfl⟩, hS.F ht⟩) hS.2.2 dX2_join_87
          · refine lv_iconst (v := nI 1) hx hb dX2_join_62 (by decide) ?_
            refine lv_goto (tgt := 67) hx hb dX2_join_63 (by decide) ?_
            refine z_top (show nI 1 = bI (M 12 i = 0 ∧ M 12 j = 0 ∧ jN M i (M 0 1) = 0) from (bI_t (⟨c33, c35, c37⟩)).symm) ?_
            refine z_xS (As := [.int (bI (M 12 i = 0 ∧ M 12 j = 0 ∧ jN M i (M 0 1) = 0))]) (rest := []) F (c_X2_checkState l hfl sa (M 12 i = 0 ∧ M 12 j = 0 ∧ jN M i (M 0 1) = 0)) (va_cwS 1 hts gX2_join_X2_checkState rfl rfl rfl (by decide +kernel) ⟨Nat.le_of_ble_eq_true rfl, Nat.le_of_ble_eq_true rfl⟩) hE hS0 hnox hlocks rfl hl.1 rfl (Nat.le_of_ble_eq_true rfl) dX2_join_67 ⟨Nat.le_of_ble_eq_true rfl, Nat.le_of_ble_eq_true rfl⟩ (Nat.le_of_ble_eq_true rfl) (Nat.le_of_ble_eq_true rfl) (fun E hpx => by obtain ⟨rfl, zz1⟩ := hpx; exact exC_3 ⟨xa, xaj⟩ c32 zz1) (fun c39 H1 locs1 hz1 hk1 hS0 => ?_)
            replace hP := z_keptP hP hk1
            have hS := zS_mono (B := A) hS0 noA_le
            refine lv_aload_n hx hb dX2_join_70 rfl (lv_at hl 1 rfl) ?_
            refine lv_iconst (v := nI 1) hx hb dX2_join_71 (by decide) ?_
            refine z_put (C := RX0) (T := TX0) (N := 8) (ci := 0) (f' := (cX k ad (zu M 12 i 1) O)) F hK hP hD hS hi0 rfl tyX0 tyX0_ok nmX0 (20 + 2 * i) 3 (show 20 + 2 * i < 20 + 2 * M 0 1 by have := hi; omega) cX_c (by decide) (Nat.le_of_ble_eq_true rfl) (by decide +kernel) rfl rfl rfl rfl (cX_ustate _) dX2_join_72 (fun H locs hP hD hS => ?_)
            refine lv_aload_n hx hb dX2_join_75 rfl (lv_at hl 1 rfl) ?_
            refine lv_aload hx hb dX2_join_76 (lv_at hl 0 rfl) ?_
            refine z_put (C := RX0) (T := TX0) (N := 8) (ci := 0) (f' := (cX k ad (zu (zu M 12 i 1) 13 i (j + 1)) O)) F hK hP hD hS hi0 rfl tyX0 tyX0_ok nmX0 (20 + 2 * i) 5 (show 20 + 2 * i < 20 + 2 * M 0 1 by have := hi; omega) cX_c (by decide) (Nat.le_of_ble_eq_true rfl) (by decide +kernel) rfl rfl rfl rfl (cX_uhead (j + 1)) dX2_join_78 (fun H locs hP hD hS => ?_)
            have hcaJ : ∀ c, c < (zu (zu M 12 i 1) 13 i (j + 1)) 0 1 → zCa (zu (zu M 12 i 1) 13 i (j + 1)) c := by
              intro zc zc1
              obtain ⟨g1, g2, g3, g4, g5, g6, g7⟩ := hI5 zc zc1
              refine ⟨g1, g2, g3, ?_, ?_, g6, g7⟩
              · rw [zu_r _ _ _ _ (by decide)]
                by_cases zc2 : zc = i
                · rw [zc2, zu_s]; omega
                · rw [zu_i _ _ _ _ zc2]; exact g4
              · by_cases zc2 : zc = i
                · rw [zc2, zu_s]; show j + 1 ≤ M 0 1; omega
                · rw [zu_i _ _ _ _ zc2]; exact g5
            refine lv_aload_n hx hb dX2_join_81 rfl (lv_at hl 2 rfl) ?_
            refine lv_aload hx hb dX2_join_82 (lv_at hl 0 rfl) ?_
            refine z_cV (qc := (RX2, TX2, 5)) (As := [.ref (ad (20 + 2 * j))]) (rest := []) (0) F (c_X2_countJoinedTo l D k ad (zu (zu M 12 i 1) 13 i (j + 1)) O hin hcaJ j hj hI2) (cwV 1 hts gX2_join_X2_countJoinedTo rfl rfl rfl (by decide +kernel) ⟨Nat.le_of_ble_eq_true rfl, Nat.le_of_ble_eq_true rfl⟩) hK hP (by omega) cX_0 rfl rfl hl.1 rfl (Nat.le_of_ble_eq_true rfl) dX2_join_84 ⟨Nat.le_of_ble_eq_true rfl, Nat.le_of_ble_eq_true rfl⟩ (fun r hr => ?_)
            subst hr
            have hjl := jN_le (zu (zu M 12 i 1) 13 i (j + 1)) j (M 0 1)
            refine vx_ret (mc := 4) (ms := 24) (W.widen (k := 4) (n := 24) (Nat.le_of_ble_eq_true rfl) (Nat.le_of_ble_eq_true rfl) ?_)
            exact W.iret (v := nI (jN (zu (zu M 12 i 1) 13 i (j + 1)) j (M 0 1))) hx hb hr (fun t ht hW => ⟨⟨nI (jN (zu (zu M 12 i 1) 13 i (j + 1)) j (M 0 1)), ad, rfl, ⟨x3_0 ⟨xa, xaj⟩ c32 c39, rfl⟩, ⟨⟨by rw [ht]; exact hP, va_K.moved hW.alike hK⟩, hD⟩, fun _ _ => rfl⟩, hS.F ht⟩) hS.2.2 dX2_join_87
    · refine lv_iconst (v := nI 1) hx hb dX2_join_31 (by decide) ?_
      refine lv_goto (tgt := 36) hx hb dX2_join_32 (by decide) ?_
      refine z_top (show nI 1 = bI (i ≠ j ∧ M 9 i = M 9 j) from (bI_t ⟨fun zz1 => c22 (by rw [zz1]), by have zz1 := hin _ _ (by omega) (by omega) (Option.some.inj c31); omega⟩).symm) ?_
      refine z_xS (As := [.int (bI (i ≠ j ∧ M 9 i = M 9 j))]) (rest := []) F (c_X2_checkArgument l hfl sa (i ≠ j ∧ M 9 i = M 9 j)) (va_cwS 1 hts gX2_join_X2_checkArgument rfl rfl rfl (by decide +kernel) ⟨Nat.le_of_ble_eq_true rfl, Nat.le_of_ble_eq_true rfl⟩) hE hS0 hnox hlocks rfl hl.1 rfl (Nat.le_of_ble_eq_true rfl) dX2_join_36 ⟨Nat.le_of_ble_eq_true rfl, Nat.le_of_ble_eq_true rfl⟩ (Nat.le_of_ble_eq_true rfl) (Nat.le_of_ble_eq_true rfl) (fun E hpx => by obtain ⟨rfl, zz1⟩ := hpx; exact exC_2 ⟨xa, xaj⟩ zz1) (fun c40 H1 locs1 hz1 hk1 hS0 => ?_)
      replace hP := z_keptP hP hk1
      refine lv_aload_n hx hb dX2_join_39 rfl (lv_at hl 1 rfl) ?_
      refine z_get (C := RX0) (T := TX0) (N := 8) (ci := 0) (v := .int (nI (M 12 i))) F hK hP hi0 rfl (20 + 2 * i) 3 (show 20 + 2 * i < 20 + 2 * M 0 1 by have := hi; omega) cX_c (by decide) rfl (by decide +kernel) dX2_join_40 ?_
      refine z_ifn_ne (tgt := 66) F (by omega) dX2_join_43 (by decide) (fun c41 => ?_) (fun c41 => ?_)
      · refine lv_iconst (v := nI 0) hx hb dX2_join_66 (by decide) ?_
        refine z_top (show nI 0 = bI (M 12 i = 0 ∧ M 12 j = 0 ∧ jN M i (M 0 1) = 0) from (bI_f (fun zz1 => c41 zz1.1)).symm) ?_
        refine z_xS (As := [.int (bI (M 12 i = 0 ∧ M 12 j = 0 ∧ jN M i (M 0 1) = 0))]) (rest := []) F (c_X2_checkState l hfl sa (M 12 i = 0 ∧ M 12 j = 0 ∧ jN M i (M 0 1) = 0)) (va_cwS 1 hts gX2_join_X2_checkState rfl rfl rfl (by decide +kernel) ⟨Nat.le_of_ble_eq_true rfl, Nat.le_of_ble_eq_true rfl⟩) hE hS0 hnox hlocks rfl hl.1 rfl (Nat.le_of_ble_eq_true rfl) dX2_join_67 ⟨Nat.le_of_ble_eq_true rfl, Nat.le_of_ble_eq_true rfl⟩ (Nat.le_of_ble_eq_true rfl) (Nat.le_of_ble_eq_true rfl) (fun E hpx => by obtain ⟨rfl, zz1⟩ := hpx; exact exC_3 ⟨xa, xaj⟩ c40 zz1) (fun c42 H1 locs1 hz1 hk1 hS0 => ?_)
        replace hP := z_keptP hP hk1
        have hS := zS_mono (B := A) hS0 noA_le
        refine lv_aload_n hx hb dX2_join_70 rfl (lv_at hl 1 rfl) ?_
        refine lv_iconst (v := nI 1) hx hb dX2_join_71 (by decide) ?_
        refine z_put (C := RX0) (T := TX0) (N := 8) (ci := 0) (f' := (cX k ad (zu M 12 i 1) O)) F hK hP hD hS hi0 rfl tyX0 tyX0_ok nmX0 (20 + 2 * i) 3 (show 20 + 2 * i < 20 + 2 * M 0 1 by have := hi; omega) cX_c (by decide) (Nat.le_of_ble_eq_true rfl) (by decide +kernel) rfl rfl rfl rfl (cX_ustate _) dX2_join_72 (fun H locs hP hD hS => ?_)
        refine lv_aload_n hx hb dX2_join_75 rfl (lv_at hl 1 rfl) ?_
        refine lv_aload hx hb dX2_join_76 (lv_at hl 0 rfl) ?_
        refine z_put (C := RX0) (T := TX0) (N := 8) (ci := 0) (f' := (cX k ad (zu (zu M 12 i 1) 13 i (j + 1)) O)) F hK hP hD hS hi0 rfl tyX0 tyX0_ok nmX0 (20 + 2 * i) 5 (show 20 + 2 * i < 20 + 2 * M 0 1 by have := hi; omega) cX_c (by decide) (Nat.le_of_ble_eq_true rfl) (by decide +kernel) rfl rfl rfl rfl (cX_uhead (j + 1)) dX2_join_78 (fun H locs hP hD hS => ?_)
        have hcaJ : ∀ c, c < (zu (zu M 12 i 1) 13 i (j + 1)) 0 1 → zCa (zu (zu M 12 i 1) 13 i (j + 1)) c := by
          intro zc zc1
          obtain ⟨g1, g2, g3, g4, g5, g6, g7⟩ := hI5 zc zc1
          refine ⟨g1, g2, g3, ?_, ?_, g6, g7⟩
          · rw [zu_r _ _ _ _ (by decide)]
            by_cases zc2 : zc = i
            · rw [zc2, zu_s]; omega
            · rw [zu_i _ _ _ _ zc2]; exact g4
          · by_cases zc2 : zc = i
            · rw [zc2, zu_s]; show j + 1 ≤ M 0 1; omega
            · rw [zu_i _ _ _ _ zc2]; exact g5
        refine lv_aload_n hx hb dX2_join_81 rfl (lv_at hl 2 rfl) ?_
        refine lv_aload hx hb dX2_join_82 (lv_at hl 0 rfl) ?_
        refine z_cV (qc := (RX2, TX2, 5)) (As := [.ref (ad (20 + 2 * j))]) (rest := []) (0) F (c_X2_countJoinedTo l D k ad (zu (zu M 12 i 1) 13 i (j + 1)) O hin hcaJ j hj hI2) (cwV 1 hts gX2_join_X2_countJoinedTo rfl rfl rfl (by decide +kernel) ⟨Nat.le_of_ble_eq_true rfl, Nat.le_of_ble_eq_true rfl⟩) hK hP (by omega) cX_0 rfl rfl hl.1 rfl (Nat.le_of_ble_eq_true rfl) dX2_join_84 ⟨Nat.le_of_ble_eq_true rfl, Nat.le_of_ble_eq_true rfl⟩ (fun r hr => ?_)
        subst hr
        have hjl := jN_le (zu (zu M 12 i 1) 13 i (j + 1)) j (M 0 1)
        refine vx_ret (mc := 4) (ms := 24) (W.widen (k := 4) (n := 24) (Nat.le_of_ble_eq_true rfl) (Nat.le_of_ble_eq_true rfl) ?_)
        exact W.iret (v := nI (jN (zu (zu M 12 i 1) 13 i (j + 1)) j (M 0 1))) hx hb hr (fun t ht hW => ⟨⟨nI (jN (zu (zu M 12 i 1) 13 i (j + 1)) j (M 0 1)), ad, rfl, ⟨x3_0 ⟨xa, xaj⟩ c40 c42, rfl⟩, ⟨⟨by rw [ht]; exact hP, va_K.moved hW.alike hK⟩, hD⟩, fun _ _ => rfl⟩, hS.F ht⟩) hS.2.2 dX2_join_87
      · refine lv_aload hx hb dX2_join_46 (lv_at hl 0 rfl) ?_
        refine z_get (C := RX0) (T := TX0) (N := 8) (ci := 0) (v := .int (nI (M 12 j))) F hK hP hi0 rfl (20 + 2 * j) 3 (show 20 + 2 * j < 20 + 2 * M 0 1 by have := hj; omega) cX_c (by decide) rfl (by decide +kernel) dX2_join_48 ?_
        refine z_ifn_ne (tgt := 66) F (by omega) dX2_join_51 (by decide) (fun c43 => ?_) (fun c43 => ?_)
        · refine lv_iconst (v := nI 0) hx hb dX2_join_66 (by decide) ?_
          refine z_top (show nI 0 = bI (M 12 i = 0 ∧ M 12 j = 0 ∧ jN M i (M 0 1) = 0) from (bI_f (fun zz1 => c43 zz1.2.1)).symm) ?_
          refine z_xS (As := [.int (bI (M 12 i = 0 ∧ M 12 j = 0 ∧ jN M i (M 0 1) = 0))]) (rest := []) F (c_X2_checkState l hfl sa (M 12 i = 0 ∧ M 12 j = 0 ∧ jN M i (M 0 1) = 0)) (va_cwS 1 hts gX2_join_X2_checkState rfl rfl rfl (by decide +kernel) ⟨Nat.le_of_ble_eq_true rfl, Nat.le_of_ble_eq_true rfl⟩) hE hS0 hnox hlocks rfl hl.1 rfl (Nat.le_of_ble_eq_true rfl) dX2_join_67 ⟨Nat.le_of_ble_eq_true rfl, Nat.le_of_ble_eq_true rfl⟩ (Nat.le_of_ble_eq_true rfl) (Nat.le_of_ble_eq_true rfl) (fun E hpx => by obtain ⟨rfl, zz1⟩ := hpx; exact exC_3 ⟨xa, xaj⟩ c40 zz1) (fun c44 H1 locs1 hz1 hk1 hS0 => ?_)
          replace hP := z_keptP hP hk1
          have hS := zS_mono (B := A) hS0 noA_le
          refine lv_aload_n hx hb dX2_join_70 rfl (lv_at hl 1 rfl) ?_
          refine lv_iconst (v := nI 1) hx hb dX2_join_71 (by decide) ?_
          refine z_put (C := RX0) (T := TX0) (N := 8) (ci := 0) (f' := (cX k ad (zu M 12 i 1) O)) F hK hP hD hS hi0 rfl tyX0 tyX0_ok nmX0 (20 + 2 * i) 3 (show 20 + 2 * i < 20 + 2 * M 0 1 by have := hi; omega) cX_c (by decide) (Nat.le_of_ble_eq_true rfl) (by decide +kernel) rfl rfl rfl rfl (cX_ustate _) dX2_join_72 (fun H locs hP hD hS => ?_)
          refine lv_aload_n hx hb dX2_join_75 rfl (lv_at hl 1 rfl) ?_
          refine lv_aload hx hb dX2_join_76 (lv_at hl 0 rfl) ?_
          refine z_put (C := RX0) (T := TX0) (N := 8) (ci := 0) (f' := (cX k ad (zu (zu M 12 i 1) 13 i (j + 1)) O)) F hK hP hD hS hi0 rfl tyX0 tyX0_ok nmX0 (20 + 2 * i) 5 (show 20 + 2 * i < 20 + 2 * M 0 1 by have := hi; omega) cX_c (by decide) (Nat.le_of_ble_eq_true rfl) (by decide +kernel) rfl rfl rfl rfl (cX_uhead (j + 1)) dX2_join_78 (fun H locs hP hD hS => ?_)
          have hcaJ : ∀ c, c < (zu (zu M 12 i 1) 13 i (j + 1)) 0 1 → zCa (zu (zu M 12 i 1) 13 i (j + 1)) c := by
            intro zc zc1
            obtain ⟨g1, g2, g3, g4, g5, g6, g7⟩ := hI5 zc zc1
            refine ⟨g1, g2, g3, ?_, ?_, g6, g7⟩
            · rw [zu_r _ _ _ _ (by decide)]
              by_cases zc2 : zc = i
              · rw [zc2, zu_s]; omega
              · rw [zu_i _ _ _ _ zc2]; exact g4
            · by_cases zc2 : zc = i
              · rw [zc2, zu_s]; show j + 1 ≤ M 0 1; omega
              · rw [zu_i _ _ _ _ zc2]; exact g5
          refine lv_aload_n hx hb dX2_join_81 rfl (lv_at hl 2 rfl) ?_
          refine lv_aload hx hb dX2_join_82 (lv_at hl 0 rfl) ?_
          refine z_cV (qc := (RX2, TX2, 5)) (As := [.ref (ad (20 + 2 * j))]) (rest := []) (0) F (c_X2_countJoinedTo l D k ad (zu (zu M 12 i 1) 13 i (j + 1)) O hin hcaJ j hj hI2) (cwV 1 hts gX2_join_X2_countJoinedTo rfl rfl rfl (by decide +kernel) ⟨Nat.le_of_ble_eq_true rfl, Nat.le_of_ble_eq_true rfl⟩) hK hP (by omega) cX_0 rfl rfl hl.1 rfl (Nat.le_of_ble_eq_true rfl) dX2_join_84 ⟨Nat.le_of_ble_eq_true rfl, Nat.le_of_ble_eq_true rfl⟩ (fun r hr => ?_)
          subst hr
          have hjl := jN_le (zu (zu M 12 i 1) 13 i (j + 1)) j (M 0 1)
          refine vx_ret (mc := 4) (ms := 24) (W.widen (k := 4) (n := 24) (Nat.le_of_ble_eq_true rfl) (Nat.le_of_ble_eq_true rfl) ?_)
          exact W.iret (v := nI (jN (zu (zu M 12 i 1) 13 i (j + 1)) j (M 0 1))) hx hb hr (fun t ht hW => ⟨⟨nI (jN (zu (zu M 12 i 1) 13 i (j + 1)) j (M 0 1)), ad, rfl, ⟨x3_0 ⟨xa, xaj⟩ c40 c44, rfl⟩, ⟨⟨by rw [ht]; exact hP, va_K.moved hW.alike hK⟩, hD⟩, fun _ _ => rfl⟩, hS.F ht⟩) hS.2.2 dX2_join_87
        · refine lv_aload_n hx hb dX2_join_54 rfl (lv_at hl 2 rfl) ?_
          refine lv_aload_n hx hb dX2_join_55 rfl (lv_at hl 1 rfl) ?_
          refine z_cV (qc := (RX2, TX2, 5)) (As := [.ref (ad (20 + 2 * i))]) (rest := []) (0) F (c_X2_countJoinedTo l D k ad (M) O hin hI5 i hi hI2) (cwV 1 hts gX2_join_X2_countJoinedTo rfl rfl rfl (by decide +kernel) ⟨Nat.le_of_ble_eq_true rfl, Nat.le_of_ble_eq_true rfl⟩) hK hP (by omega) cX_0 rfl rfl hl.1 rfl (Nat.le_of_ble_eq_true rfl) dX2_join_56 ⟨Nat.le_of_ble_eq_true rfl, Nat.le_of_ble_eq_true rfl⟩ (fun r hr => ?_)
          subst hr
          have hjl := jN_le M i (M 0 1)
          refine z_ifn_ne (tgt := 66) F (by omega) dX2_join_59 (by decide) (fun c45 => ?_) (fun c45 => ?_)
          · refine lv_iconst (v := nI 0) hx hb dX2_join_66 (by decide) ?_
            refine z_top (show nI 0 = bI (M 12 i = 0 ∧ M 12 j = 0 ∧ jN M i (M 0 1) = 0) from (bI_f (fun zz1 => c45 zz1.2.2)).symm) ?_
            refine z_xS (As := [.int (bI (M 12 i = 0 ∧ M 12 j = 0 ∧ jN M i (M 0 1) = 0))]) (rest := []) F (c_X2_checkState l hfl sa (M 12 i = 0 ∧ M 12 j = 0 ∧ jN M i (M 0 1) = 0)) (va_cwS 1 hts gX2_join_X2_checkState rfl rfl rfl (by decide +kernel) ⟨Nat.le_of_ble_eq_true rfl, Nat.le_of_ble_eq_true rfl⟩) hE hS0 hnox hlocks rfl hl.1 rfl (Nat.le_of_ble_eq_true rfl) dX2_join_67 ⟨Nat.le_of_ble_eq_true rfl, Nat.le_of_ble_eq_true rfl⟩ (Nat.le_of_ble_eq_true rfl) (Nat.le_of_ble_eq_true rfl) (fun E hpx => by obtain ⟨rfl, zz1⟩ := hpx; exact exC_3 ⟨xa, xaj⟩ c40 zz1) (fun c46 H1 locs1 hz1 hk1 hS0 => ?_)
            replace hP := z_keptP hP hk1
            have hS := zS_mono (B := A) hS0 noA_le
            refine lv_aload_n hx hb dX2_join_70 rfl (lv_at hl 1 rfl) ?_
            refine lv_iconst (v := nI 1) hx hb dX2_join_71 (by decide) ?_
            refine z_put (C := RX0) (T := TX0) (N := 8) (ci := 0) (f' := (cX k ad (zu M 12 i 1) O)) F hK hP hD hS hi0 rfl tyX0 tyX0_ok nmX0 (20 + 2 * i) 3 (show 20 + 2 * i < 20 + 2 * M 0 1 by have := hi; omega) cX_c (by decide) (Nat.le_of_ble_eq_true rfl) (by decide +kernel) rfl rfl rfl rfl (cX_ustate _) dX2_join_72 (fun H locs hP hD hS => ?_)
            refine lv_aload_n hx hb dX2_join_75 rfl (lv_at hl 1 rfl) ?_
            refine lv_aload hx hb dX2_join_76 (lv_at hl 0 rfl) ?_
            refine z_put (C := RX0) (T := TX0) (N := 8) (ci := 0) (f' := (cX k ad (zu (zu M 12 i 1) 13 i (j + 1)) O)) F hK hP hD hS hi0 rfl tyX0 tyX0_ok nmX0 (20 + 2 * i) 5 (show 20 + 2 * i < 20 + 2 * M 0 1 by have := hi; omega) cX_c (by decide) (Nat.le_of_ble_eq_true rfl) (by decide +kernel) rfl rfl rfl rfl (cX_uhead (j + 1)) dX2_join_78 (fun H locs hP hD hS => ?_)
            have hcaJ : ∀ c, c < (zu (zu M 12 i 1) 13 i (j + 1)) 0 1 → zCa (zu (zu M 12 i 1) 13 i (j + 1)) c := by
              intro zc zc1
              obtain ⟨g1, g2, g3, g4, g5, g6, g7⟩ := hI5 zc zc1
              refine ⟨g1, g2, g3, ?_, ?_, g6, g7⟩
              · rw [zu_r _ _ _ _ (by decide)]
                by_cases zc2 : zc = i
                · rw [zc2, zu_s]; omega
                · rw [zu_i _ _ _ _ zc2]; exact g4
              · by_cases zc2 : zc = i
                · rw [zc2, zu_s]; show j + 1 ≤ M 0 1; omega
                · rw [zu_i _ _ _ _ zc2]; exact g5
            refine lv_aload_n hx hb dX2_join_81 rfl (lv_at hl 2 rfl) ?_
            refine lv_aload hx hb dX2_join_82 (lv_at hl 0 rfl) ?_
            refine z_cV (qc := (RX2, TX2, 5)) (As := [.ref (ad (20 + 2 * j))]) (rest := []) (0) F (c_X2_countJoinedTo l D k ad (zu (zu M 12 i 1) 13 i (j + 1)) O hin hcaJ j hj hI2) (cwV 1 hts gX2_join_X2_countJoinedTo rfl rfl rfl (by decide +kernel) ⟨Nat.le_of_ble_eq_true rfl, Nat.le_of_ble_eq_true rfl⟩) hK hP (by omega) cX_0 rfl rfl hl.1 rfl (Nat.le_of_ble_eq_true rfl) dX2_join_84 ⟨Nat.le_of_ble_eq_true rfl, Nat.le_of_ble_eq_true rfl⟩ (fun r hr => ?_)
            subst hr
            have hjl := jN_le (zu (zu M 12 i 1) 13 i (j + 1)) j (M 0 1)
            refine vx_ret (mc := 4) (ms := 24) (W.widen (k := 4) (n := 24) (Nat.le_of_ble_eq_true rfl) (Nat.le_of_ble_eq_true rfl) ?_)
            exact W.iret (v := nI (jN (zu (zu M 12 i 1) 13 i (j + 1)) j (M 0 1))) hx hb hr (fun t ht hW => ⟨⟨nI (jN (zu (zu M 12 i 1) 13 i (j + 1)) j (M 0 1)), ad, rfl, ⟨x3_0 ⟨xa, xaj⟩ c40 c46, rfl⟩, ⟨⟨by rw [ht]; exact hP, va_K.moved hW.alike hK⟩, hD⟩, fun _ _ => rfl⟩, hS.F ht⟩) hS.2.2 dX2_join_87
          · refine lv_iconst (v := nI 1) hx hb dX2_join_62 (by decide) ?_
            refine lv_goto (tgt := 67) hx hb dX2_join_63 (by decide) ?_
            refine z_top (show nI 1 = bI (M 12 i = 0 ∧ M 12 j = 0 ∧ jN M i (M 0 1) = 0) from (bI_t (⟨c41, c43, c45⟩)).symm) ?_
            refine z_xS (As := [.int (bI (M 12 i = 0 ∧ M 12 j = 0 ∧ jN M i (M 0 1) = 0))]) (rest := []) F (c_X2_checkState l hfl sa (M 12 i = 0 ∧ M 12 j = 0 ∧ jN M i (M 0 1) = 0)) (va_cwS 1 hts gX2_join_X2_checkState rfl rfl rfl (by decide +kernel) ⟨Nat.le_of_ble_eq_true rfl, Nat.le_of_ble_eq_true rfl⟩) hE hS0 hnox hlocks rfl hl.1 rfl (Nat.le_of_ble_eq_true rfl) dX2_join_67 ⟨Nat.le_of_ble_eq_true rfl, Nat.le_of_ble_eq_true rfl⟩ (Nat.le_of_ble_eq_true rfl) (Nat.le_of_ble_eq_true rfl) (fun E hpx => by obtain ⟨rfl, zz1⟩ := hpx; exact exC_3 ⟨xa, xaj⟩ c40 zz1) (fun c47 H1 locs1 hz1 hk1 hS0 => ?_)
            replace hP := z_keptP hP hk1
            have hS := zS_mono (B := A) hS0 noA_le
            refine lv_aload_n hx hb dX2_join_70 rfl (lv_at hl 1 rfl) ?_
            refine lv_iconst (v := nI 1) hx hb dX2_join_71 (by decide) ?_
            refine z_put (C := RX0) (T := TX0) (N := 8) (ci := 0) (f' := (cX k ad (zu M 12 i 1) O)) F hK hP hD hS hi0 rfl tyX0 tyX0_ok nmX0 (20 + 2 * i) 3 (show 20 + 2 * i < 20 + 2 * M 0 1 by have := hi; omega) cX_c (by decide) (Nat.le_of_ble_eq_true rfl) (by decide +kernel) rfl rfl rfl rfl (cX_ustate _) dX2_join_72 (fun H locs hP hD hS => ?_)
            refine lv_aload_n hx hb dX2_join_75 rfl (lv_at hl 1 rfl) ?_
            refine lv_aload hx hb dX2_join_76 (lv_at hl 0 rfl) ?_
            refine z_put (C := RX0) (T := TX0) (N := 8) (ci := 0) (f' := (cX k ad (zu (zu M 12 i 1) 13 i (j + 1)) O)) F hK hP hD hS hi0 rfl tyX0 tyX0_ok nmX0 (20 + 2 * i) 5 (show 20 + 2 * i < 20 + 2 * M 0 1 by have := hi; omega) cX_c (by decide) (Nat.le_of_ble_eq_true rfl) (by decide +kernel) rfl rfl rfl rfl (cX_uhead (j + 1)) dX2_join_78 (fun H locs hP hD hS => ?_)
            have hcaJ : ∀ c, c < (zu (zu M 12 i 1) 13 i (j + 1)) 0 1 → zCa (zu (zu M 12 i 1) 13 i (j + 1)) c := by
              intro zc zc1
              obtain ⟨g1, g2, g3, g4, g5, g6, g7⟩ := hI5 zc zc1
              refine ⟨g1, g2, g3, ?_, ?_, g6, g7⟩
              · rw [zu_r _ _ _ _ (by decide)]
                by_cases zc2 : zc = i
                · rw [zc2, zu_s]; omega
                · rw [zu_i _ _ _ _ zc2]; exact g4
              · by_cases zc2 : zc = i
                · rw [zc2, zu_s]; show j + 1 ≤ M 0 1; omega
                · rw [zu_i _ _ _ _ zc2]; exact g5
            refine lv_aload_n hx hb dX2_join_81 rfl (lv_at hl 2 rfl) ?_
            refine lv_aload hx hb dX2_join_82 (lv_at hl 0 rfl) ?_
            refine z_cV (qc := (RX2, TX2, 5)) (As := [.ref (ad (20 + 2 * j))]) (rest := []) (0) F (c_X2_countJoinedTo l D k ad (zu (zu M 12 i 1) 13 i (j + 1)) O hin hcaJ j hj hI2) (cwV 1 hts gX2_join_X2_countJoinedTo rfl rfl rfl (by decide +kernel) ⟨Nat.le_of_ble_eq_true rfl, Nat.le_of_ble_eq_true rfl⟩) hK hP (by omega) cX_0 rfl rfl hl.1 rfl (Nat.le_of_ble_eq_true rfl) dX2_join_84 ⟨Nat.le_of_ble_eq_true rfl, Nat.le_of_ble_eq_true rfl⟩ (fun r hr => ?_)
            subst hr
            have hjl := jN_le (zu (zu M 12 i 1) 13 i (j + 1)) j (M 0 1)
            refine vx_ret (mc := 4) (ms := 24) (W.widen (k := 4) (n := 24) (Nat.le_of_ble_eq_true rfl) (Nat.le_of_ble_eq_true rfl) ?_)
            exact W.iret (v := nI (jN (zu (zu M 12 i 1) 13 i (j + 1)) j (M 0 1))) hx hb hr (fun t ht hW => ⟨⟨nI (jN (zu (zu M 12 i 1) 13 i (j + 1)) j (M 0 1)), ad, rfl, ⟨x3_0 ⟨xa, xaj⟩ c40 c47, rfl⟩, ⟨⟨by rw [ht]; exact hP, va_K.moved hW.alike hK⟩, hD⟩, fun _ _ => rfl⟩, hS.F ht⟩) hS.2.2 dX2_join_87
