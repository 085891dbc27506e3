noncomputable def crO (M : Nat → Nat → Nat) (O : Nat → Nat → Int32) (a n : Nat) : Nat → Nat → Int32 := @ite _ (cov M (M 9 a) (M 10 a) (M 0 0 / 24)) (Classical.propDecidable _) (zo O 1 (M 9 a) (O 1 (M 9 a) - nI (n * 2500))) O
theorem crO_t {M : Nat → Nat → Nat} {O : Nat → Nat → Int32} {a n : Nat} (h : cov M (M 9 a) (M 10 a) (M 0 0 / 24)) : crO M O a n = zo O 1 (M 9 a) (O 1 (M 9 a) - nI (n * 2500)) := by unfold crO; exact if_pos h
theorem crO_f {M : Nat → Nat → Nat} {O : Nat → Nat → Int32} {a n : Nat} (h : ¬ cov M (M 9 a) (M 10 a) (M 0 0 / 24)) : crO M O a n = O := by unfold crO; exact if_neg h
theorem clM_0 (M : Nat → Nat → Nat) (a : Nat) : clM M a 0 = M := by
  funext r x
  unfold clM
  rw [if_neg (by omega)]
theorem clM_r {M : Nat → Nat → Nat} {a n r x : Nat} (h : r ≠ 12) : clM M a n r x = M r x := by
  unfold clM
  rw [if_neg (fun zz1 => h zz1.1)]
theorem clM_lt {M : Nat → Nat → Nat} {a n x : Nat} (h : M 12 x < 3) : clM M a n 12 x < 3 := by
  unfold clM
  split
  · omega
  · exact h
theorem zu12_lt {M : Nat → Nat → Nat} {a x : Nat} (h : M 12 x < 3) : zu M 12 a 2 12 x < 3 := by
  unfold zu
  split
  · omega
  · exact h
theorem clM_at {M : Nat → Nat → Nat} {a n : Nat} : clM M a n 12 n = M 12 n := by
  unfold clM
  rw [if_neg (by omega)]
theorem clM_yes {M : Nat → Nat → Nat} {a n : Nat} (h : M 12 n = 1 ∧ M 13 n = a + 1) : clM M a (n + 1) = zu (clM M a n) 12 n 2 := by
  funext r x
  show (if r = 12 ∧ x < n + 1 ∧ M 12 x = 1 ∧ M 13 x = a + 1 then 2 else M r x) = if r = 12 ∧ x = n then 2 else if r = 12 ∧ x < n ∧ M 12 x = 1 ∧ M 13 x = a + 1 then 2 else M r x
  by_cases h1 : r = 12 ∧ x = n
  · obtain ⟨rfl, rfl⟩ := h1
    rw [if_pos ⟨rfl, by omega, h.1, h.2⟩, if_pos ⟨rfl, rfl⟩]
  · rw [if_neg h1]
    by_cases h2 : r = 12 ∧ x < n ∧ M 12 x = 1 ∧ M 13 x = a + 1
    · rw [if_pos h2, if_pos ⟨h2.1, by omega, h2.2.2⟩]
    · rw [if_neg h2, if_neg (fun zz1 => h2 ⟨zz1.1, by have := zz1.2.1; rcases Nat.lt_or_ge x n with zz2 | zz2; exact zz2; exact absurd ⟨zz1.1, by omega⟩ h1, zz1.2.2⟩)]
theorem clM_no {M : Nat → Nat → Nat} {a n : Nat} (h : ¬ (M 12 n = 1 ∧ M 13 n = a + 1)) : clM M a (n + 1) = clM M a n := by
  funext r x
  unfold clM
  by_cases h2 : r = 12 ∧ x < n ∧ M 12 x = 1 ∧ M 13 x = a + 1
  · rw [if_pos h2, if_pos ⟨h2.1, by omega, h2.2.2⟩]
  · rw [if_neg h2, if_neg]
    intro zz1
    rcases Nat.lt_or_ge x n with zz2 | zz2
    · exact h2 ⟨zz1.1, zz2, zz1.2.2⟩
    · obtain rfl : x = n := by omega
      exact h zz1.2.2
set_option maxRecDepth 100000 in
set_option maxHeartbeats 4000000 in
theorem lp_closeMended {p : Program} {l : Launch} {e : Env} {s : State} {m : MethodId} {args : Array Value} {below : List Frame} {meth : Method} {c : Code} {Q : State → Prop} {D : va_G} {k : Nat → ClassId} {ad : Nat → Nat} {M : Nat → Nat → Nat} {O : Nat → Nat → Int32} (F : CallFix p m c cX2_closeMended 7 s args wsX2_closeMended RX2) (hK : va_K D vwCl (tyL k) s)
    {A : Nat → Prop} {a n0 : Nat} (hj : ∀ i j, i < 20 + 2 * M 0 1 → j < 20 + 2 * M 0 1 → ad i = ad j → i = j) (hca : ∀ c, c < M 0 1 → zCa M c) (ha : a < M 0 1) (h40 : M 0 1 ≤ 40)
    (k0 : ∀ (H : Heap) (locs : List Loc), va_P D vwCl (zw (20 + 2 * M 0 1) ad (cX k ad (clM (zu M 12 a 2) a (M 0 1)) O)) H → va_D A (zw (20 + 2 * M 0 1) ad (cX k ad (clM (zu M 12 a 2) a (M 0 1)) O)) → va_S A s.heap H locs → ∀ (ls : Array Slot), lv_has ls 7 [(0, .ref (ad 0)), (1, .ref (ad (20 + 2 * a))), (2, .int (nI n0))] → W p l e (headSpec wsX2_closeMended ({ frames := 2, cells := 0, slots := 0, locals := 44 })).room s m args below meth c H locs 0 0 Q (F0 m 56 ls [])) :
    ∀ (fu i : Nat) (H : Heap) (locs : List Loc), i ≤ 40 → 40 < i + fu → va_P D vwCl (zw (20 + 2 * M 0 1) ad (cX k ad (clM (zu M 12 a 2) a (min i (M 0 1))) O)) H → va_D A (zw (20 + 2 * M 0 1) ad (cX k ad (clM (zu M 12 a 2) a (min i (M 0 1))) O)) → va_S A s.heap H locs → ∀ (ls : Array Slot), lv_has ls 7 [(5, .int (nI i)), (0, .ref (ad 0)), (1, .ref (ad (20 + 2 * a))), (2, .int (nI n0)), (3, .ref (ad 3)), (4, .int (nI 40))] → W p l e (headSpec wsX2_closeMended ({ frames := 2, cells := 0, slots := 0, locals := 44 })).room s m args below meth c H locs 0 0 Q (F0 m 17 ls []) := by
  have hx := F.1
  have hb := F.2.1
  have hts := F.2.2.2.2
  have hown := F.2.2.2.1
  have hi0 : ∀ w ∈ u_ws RX0 TX0 8, w ∈ wsX2_closeMended := by decide +kernel
  intro fu
  induction fu with
  | zero => intro i H locs h1 h2; omega
  | succ fu ih =>
    intro i H locs h1 h2 hP hD hS ls hl
    refine lv_iload hx hb dX2_closeMended_17 (lv_at hl 0 rfl) ?_
    refine lv_iload hx hb dX2_closeMended_19 (lv_at hl 5 rfl) ?_
    refine z_icmp_ge (tgt := 56) F (by omega) (by omega) dX2_closeMended_21 (by decide) (fun c1 => ?_) (fun c1 => ?_)
    · obtain rfl : i = 40 := by omega
      rw [show min 40 (M 0 1) = M 0 1 by omega] at hP hD
      exact k0 H locs hP hD hS ls (lv_sub hl [1, 2, 3] rfl)
    · refine lv_aload_n hx hb dX2_closeMended_24 rfl (lv_at hl 4 rfl) ?_
      refine lv_iload hx hb dX2_closeMended_25 (lv_at hl 0 rfl) ?_
      refine z_aldq (v := if i < (clM (zu M 12 a 2) a (min i (M 0 1))) 0 1 then some (ad (20 + 2 * i)) else none) F hK hP (3) 3 (by omega) cX_3 rfl (i := nI i) i rfl (by omega) (by decide) rfl dX2_closeMended_27 ?_
      have e01 : (clM (zu M 12 a 2) a (min i (M 0 1))) 0 1 = M 0 1 := by rw [clM_r (by decide)]; rfl
      by_cases hin : i < M 0 1
      · rw [if_pos (show i < (clM (zu M 12 a 2) a (min i (M 0 1))) 0 1 by rw [e01]; exact hin)]
        refine z_rf ?_
        rw [show min i (M 0 1) = i by omega] at hP hD
        obtain ⟨hc1, hc2, hc3, hc4, hc5, hc6, hc7⟩ := hca i hin
        have e12 : (clM (zu M 12 a 2) a i) 12 i = (zu M 12 a 2) 12 i := clM_at
        have e13 : (clM (zu M 12 a 2) a i) 13 i = M 13 i := by rw [clM_r (by decide)]; rfl
        have e01i : (clM (zu M 12 a 2) a i) 0 1 = M 0 1 := by rw [clM_r (by decide)]; rfl
        have e12a : (zu M 12 a 2) 12 i < 3 := zu12_lt hc4
        refine lv_astore (lv' := [(6, .ref (ad (20 + 2 * i))), (5, .int (nI i)), (0, .ref (ad 0)), (1, .ref (ad (20 + 2 * a))), (2, .int (nI n0)), (3, .ref (ad 3)), (4, .int (nI 40))]) hx hb dX2_closeMended_28 hl (by decide) rfl (fun ls hl => ?_)
        refine lv_aload hx hb dX2_closeMended_30 (lv_at hl 0 rfl) ?_
        refine lv_ifnull hx hb dX2_closeMended_32 ?_
        refine lv_aload hx hb dX2_closeMended_35 (lv_at hl 0 rfl) ?_
        refine lv_aload_n hx hb dX2_closeMended_37 rfl (lv_at hl 3 rfl) ?_
        refine z_cV (qc := (RX0, TX0, 8)) (As := [.ref (ad (20 + 2 * a))]) (rest := []) (20 + 2 * i) F (c_X0_isJoinedTo l D k ad (clM (zu M 12 a 2) a i) O (by rw [e01i]; exact hj) i a (by rw [e12]; exact e12a) (by rw [e13, e01i]; exact hc5) (by rw [e01i]; exact hin) (by rw [e01i]; exact ha)) (cwV 1 hts gX2_closeMended_X0_isJoinedTo rfl rfl rfl (by decide +kernel) ⟨Nat.le_of_ble_eq_true rfl, Nat.le_of_ble_eq_true rfl⟩) hK hP (by have := hin; omega) cX_c rfl rfl hl.1 rfl (Nat.le_of_ble_eq_true rfl) dX2_closeMended_38 ⟨Nat.le_of_ble_eq_true rfl, Nat.le_of_ble_eq_true rfl⟩ (fun r hr => ?_)
        subst hr
        refine z_ifb_eq (tgt := 50) F dX2_closeMended_41 (by decide) (fun c2 => ?_) (fun c2 => ?_)
        · refine lv_iinc (v := nI (i + 1)) (lv' := [(5, .int (nI (i + 1))), (6, .ref (ad (20 + 2 * i))), (0, .ref (ad 0)), (1, .ref (ad (20 + 2 * a))), (2, .int (nI n0)), (3, .ref (ad 3)), (4, .int (nI 40))]) hx hb dX2_closeMended_50 hl (k := 1) rfl (nI_1 i) (by decide) rfl (fun ls hl => ?_)
          refine lv_goto (tgt := 17) hx hb dX2_closeMended_53 (by decide) ?_
          rw [← clM_no (a := a) (n := i) (M := zu M 12 a 2) (fun zz1 => c2 ⟨by rw [e12]; exact zz1.1, by rw [e13]; exact (show M 13 i = a + 1 from zz1.2)⟩), show i + 1 = min (i + 1) (M 0 1) by omega] at hP hD
          exact ih (i + 1) H locs (by omega) (by omega) hP hD hS ls (lv_sub hl [0, 2, 3, 4, 5, 6] rfl)
        · refine lv_aload hx hb dX2_closeMended_44 (lv_at hl 0 rfl) ?_
          refine lv_iconst (v := nI 2) hx hb dX2_closeMended_46 (by decide) ?_
          refine z_put (C := RX0) (T := TX0) (N := 8) (ci := 0) (f' := (cX k ad (zu (clM (zu M 12 a 2) a i) 12 i 2) O)) F hK hP hD hS hi0 rfl tyX0 tyX0_ok nmX0 (20 + 2 * i) 3 (by have := hin; omega) cX_c (by decide) (Nat.le_of_ble_eq_true rfl) (by decide +kernel) rfl rfl rfl rfl (cX_ustate _) dX2_closeMended_47 (fun H locs hP hD hS => ?_)
          refine lv_iinc (v := nI (i + 1)) (lv' := [(5, .int (nI (i + 1))), (6, .ref (ad (20 + 2 * i))), (0, .ref (ad 0)), (1, .ref (ad (20 + 2 * a))), (2, .int (nI n0)), (3, .ref (ad 3)), (4, .int (nI 40))]) hx hb dX2_closeMended_50 hl (k := 1) rfl (nI_1 i) (by decide) rfl (fun ls hl => ?_)
          refine lv_goto (tgt := 17) hx hb dX2_closeMended_53 (by decide) ?_
          rw [← clM_yes (M := zu M 12 a 2) (a := a) (n := i) ⟨by rw [← e12]; exact c2.1, show M 13 i = a + 1 by rw [← e13]; exact c2.2⟩, show i + 1 = min (i + 1) (M 0 1) by omega] at hP hD
          exact ih (i + 1) H locs (by omega) (by omega) hP hD hS ls (lv_sub hl [0, 2, 3, 4, 5, 6] rfl)
      · rw [if_neg (show ¬ i < (clM (zu M 12 a 2) a (min i (M 0 1))) 0 1 by rw [e01]; exact hin)]
        refine z_rn ?_
        refine lv_astoreN (lv' := [(6, .null), (5, .int (nI i)), (0, .ref (ad 0)), (1, .ref (ad (20 + 2 * a))), (2, .int (nI n0)), (3, .ref (ad 3)), (4, .int (nI 40))]) hx hb dX2_closeMended_28 hl (by decide) rfl (fun ls hl => ?_)
        refine lv_aloadN hx hb dX2_closeMended_30 (lv_at hl 0 rfl) ?_
        refine lv_ifnullN (tgt := 50) hx hb dX2_closeMended_32 (by decide) ?_
        refine lv_iinc (v := nI (i + 1)) (lv' := [(5, .int (nI (i + 1))), (6, .null), (0, .ref (ad 0)), (1, .ref (ad (20 + 2 * a))), (2, .int (nI n0)), (3, .ref (ad 3)), (4, .int (nI 40))]) hx hb dX2_closeMended_50 hl (k := 1) rfl (nI_1 i) (by decide) rfl (fun ls hl => ?_)
        refine lv_goto (tgt := 17) hx hb dX2_closeMended_53 (by decide) ?_
        rw [show min i (M 0 1) = min (i + 1) (M 0 1) by omega] at hP hD
        exact ih (i + 1) H locs (by omega) (by omega) hP hD hS ls (lv_sub hl [0, 2, 3, 4, 5, 6] rfl)
set_option maxRecDepth 100000 in
set_option maxHeartbeats 4000000 in
/-- closeMended -/
theorem c_X2_closeMended (l : Launch) (D : va_G) (k : Nat → ClassId) (ad : Nat → Nat) (M : Nat → Nat → Nat) (O : Nat → Nat → Int32) (sz : Nat) (hj : ∀ i j, i < 20 + 2 * M 0 1 → j < 20 + 2 * M 0 1 → ad i = ad j → i = j) (hca : ∀ c, c < M 0 1 → zCa M c) (a n0 : Nat) (ha : a < M 0 1) (h40 : M 0 1 ≤ 40) (hs : zSi M (M 9 a)) (ho : zCo M (M 9 a)) (hnow : M 0 0 ≤ 24000) : Met l yX2_closeMended wsX2_closeMended ({ frames := 2, cells := 0, slots := 0, locals := 44 }) (va_Pc [.ref (ad 0), .ref (ad (20 + 2 * a)), .int (nI n0)] (zG D k (20 + 2 * M 0 1) ad (cX k ad M O) sz)) (zQu D k (20 + 2 * M 0 1) ad (cX k ad (clM (zu M 12 a 2) a (M 0 1)) (crO M O a n0)) (va_A (zw (20 + 2 * M 0 1) ad (cX k ad M O)) sz)) 0 0 (va_A (zw (20 + 2 * M 0 1) ad (cX k ad M O)) sz) := by
  refine Met.ofW (cc := cX2_closeMended) (maxL := 7) (ret := none) (by decide) rfl ?_
  intro p e s m args below meth c s₁ B hml hv
  obtain ⟨rfl, hsz, ⟨hP, hK⟩, hD0⟩ := hv
  have hx := B.exec
  have hb := B.bytes
  have hr := B.returns
  have hts := atoms_spec (ws := wsX2_closeMended) B.pre
  have hown : s.vm.findClass RX2 = some m.cls := findClass_of_methodNamed B.named
  have hlocks := B.notSynchronized
  have F : CallFix p m c cX2_closeMended 7 s _ wsX2_closeMended RX2 := ⟨hx, hb, hml, hown, hts⟩
  subst hsz
  have hD := hD0.self (sz := s.heap.size)
  generalize hAe : va_A (zw (20 + 2 * M 0 1) ad (cX k ad M O)) s.heap.size = A at hD ⊢
  have hA : ∀ q : Nat, s.heap.size ≤ q → A q := fun q h => by rw [← hAe]; exact Or.inr h
  have hS : va_S A s.heap s.heap [] := va_S.rf
  have hl := lv_entry ([.ref (ad 0), .ref (ad (20 + 2 * a)), .int (nI n0)]) (n := 7) (Nat.le_of_ble_eq_true rfl)
  rw [lg_entry_eq]
  generalize (lg_sl ([.ref (ad 0), .ref (ad (20 + 2 * a)), .int (nI n0)]) ++ List.replicate (7 - (lg_sl ([.ref (ad 0), .ref (ad (20 + 2 * a)), .int (nI n0)])).length) Slot.unset).toArray = ls at hl ⊢
  have hl : lv_has ls 7 [(0, .ref (ad 0)), (1, .ref (ad (20 + 2 * a))), (2, .int (nI n0))] := hl
  have hi2 : ∀ w ∈ u_ws RX2 TX2 5, w ∈ wsX2_closeMended := by decide +kernel
  have hi0 : ∀ w ∈ u_ws RX0 TX0 8, w ∈ wsX2_closeMended := by decide +kernel
  have hi1 : ∀ w ∈ u_ws RX1 TX1 9, w ∈ wsX2_closeMended := by decide +kernel
  have hz := hca a ha
  obtain ⟨hc1, hc2, hc3, hc4, hc5, hc6, hc7⟩ := id hz
  refine lv_aload_n hx hb dX2_closeMended_0 rfl (lv_at hl 1 rfl) ?_
  refine lv_iconst (v := nI 2) hx hb dX2_closeMended_1 (by decide) ?_
  refine z_put (C := RX0) (T := TX0) (N := 8) (ci := 0) (f' := (cX k ad (zu M 12 a 2) O)) F hK hP hD hS hi0 rfl tyX0 tyX0_ok nmX0 (20 + 2 * a) 3 (by have := ha; omega) cX_c (by decide) (Nat.le_of_ble_eq_true rfl) (by decide +kernel) rfl rfl rfl rfl (cX_ustate _) dX2_closeMended_2 (fun H locs hP hD hS => ?_)
  refine lv_aload_n hx hb dX2_closeMended_5 rfl (lv_at hl 0 rfl) ?_
  refine z_get (C := RX2) (T := TX2) (N := 5) (ci := 2) (v := .ref (ad 3)) F hK hP hi2 rfl (0) 2 (by omega) cX_0 (by decide) rfl (by decide +kernel) dX2_closeMended_6 ?_
  refine lv_astore_n (lv' := [(3, .ref (ad 3)), (0, .ref (ad 0)), (1, .ref (ad (20 + 2 * a))), (2, .int (nI n0))]) hx hb dX2_closeMended_9 rfl hl (by decide) rfl (fun ls hl => ?_)
  refine lv_aload_n hx hb dX2_closeMended_10 rfl (lv_at hl 0 rfl) ?_
  refine z_alen F hK hP (3) 3 (by omega) cX_3 rfl 40 rfl dX2_closeMended_11 ?_
  refine lv_istore (lv' := [(4, .int (nI 40)), (3, .ref (ad 3)), (0, .ref (ad 0)), (1, .ref (ad (20 + 2 * a))), (2, .int (nI n0))]) hx hb dX2_closeMended_12 hl (by decide) rfl (fun ls hl => ?_)
  refine lv_iconst (v := nI 0) hx hb dX2_closeMended_14 (by decide) ?_
  refine lv_istore (lv' := [(5, .int (nI 0)), (4, .int (nI 40)), (3, .ref (ad 3)), (0, .ref (ad 0)), (1, .ref (ad (20 + 2 * a))), (2, .int (nI n0))]) hx hb dX2_closeMended_15 hl (by decide) rfl (fun ls hl => ?_)
  have e0 : clM (zu M 12 a 2) a (min 0 (M 0 1)) = zu M 12 a 2 := by rw [Nat.zero_min, clM_0]
  refine lp_closeMended (A := A) (n0 := n0) F hK hj hca ha h40 (fun H locs hP hD hS ls hl => ?_) 41 0 H _ (by omega) (by omega) (by rw [e0]; exact hP) (by rw [e0]; exact hD) hS ls (lv_sub hl [0, 3, 4, 5, 2, 1] rfl)
  have e9 : (clM (zu M 12 a 2) a (M 0 1)) 9 a = M 9 a := clM_r (by decide)
  refine lv_aload_n hx hb dX2_closeMended_56 rfl (lv_at hl 0 rfl) ?_
  refine lv_aload_n hx hb dX2_closeMended_57 rfl (lv_at hl 1 rfl) ?_
  have hzF : zCa (clM (zu M 12 a 2) a (M 0 1)) a := ⟨hc1, hc2, hc3, clM_lt (zu12_lt hc4), hc5, hc6, hc7⟩
  refine z_cV (qc := (RX2, TX2, 5)) (As := [.ref (ad (20 + 2 * a))]) (rest := []) (0) F (c_X2_isCoveredToday l D k ad (clM (zu M 12 a 2) a (M 0 1)) O a hzF ha hs ho hnow) (cwV 1 hts gX2_closeMended_X2_isCoveredToday rfl rfl rfl (by decide +kernel) ⟨Nat.le_of_ble_eq_true rfl, Nat.le_of_ble_eq_true rfl⟩) hK hP (by omega) cX_0 rfl rfl hl.1 rfl (Nat.le_of_ble_eq_true rfl) dX2_closeMended_58 ⟨Nat.le_of_ble_eq_true rfl, Nat.le_of_ble_eq_true rfl⟩ (fun r hr => ?_)
  subst hr
  refine z_ifb_eq (tgt := 81) F dX2_closeMended_61 (by decide) (fun c3 => ?_) (fun c3 => ?_)
  · have eW : cX k ad (clM (zu M 12 a 2) a (M 0 1)) (crO M O a n0) = cX k ad (clM (zu M 12 a 2) a (M 0 1)) O := by rw [crO_f (show ¬ cov M (M 9 a) (M 10 a) (M 0 0 / 24) from c3)]
    rw [← eW] at hP hD
    refine W.widen (k := 0) (n := 0) (Nat.le_of_ble_eq_true rfl) (Nat.le_of_ble_eq_true rfl) ?_
    exact W.vret hx hb hr (fun t ht hW => ⟨⟨(), rfl, trivial, ⟨by rw [ht]; exact hP, va_K.moved hW.alike hK⟩, hD⟩, hS.F ht⟩) hS.2.2 dX2_closeMended_81
  · refine lv_aload_n hx hb dX2_closeMended_64 rfl (lv_at hl 1 rfl) ?_
    refine z_get (C := RX0) (T := TX0) (N := 8) (ci := 0) (v := .ref (ad (4 + 4 * ((clM (zu M 12 a 2) a (M 0 1)) 9 a)))) F hK hP hi0 rfl (20 + 2 * a) 0 (by have := ha; omega) cX_c (by decide) rfl (by decide +kernel) dX2_closeMended_65 ?_
    refine lv_dup hx hb dX2_closeMended_68 rfl ?_
    refine z_get (C := RX1) (T := TX1) (N := 9) (ci := 1) (v := .int (O 1 ((clM (zu M 12 a 2) a (M 0 1)) 9 a))) F hK hP hi1 rfl (4 + 4 * ((clM (zu M 12 a 2) a (M 0 1)) 9 a)) 8 (by have := hc1; omega) (cX_s hc1) (by decide) rfl (by decide +kernel) dX2_closeMended_69 ?_
    refine lv_iload_n hx hb dX2_closeMended_72 rfl (lv_at hl 2 rfl) ?_
    refine lv_sipush (v := nI 2500) hx hb dX2_closeMended_73 (by decide) ?_
    refine z_mul F dX2_closeMended_76 ?_
    refine lv_isub hx hb dX2_closeMended_77 ?_
    refine z_put (C := RX1) (T := TX1) (N := 9) (ci := 1) (f' := (cX k ad (clM (zu M 12 a 2) a (M 0 1)) (zo O 1 ((clM (zu M 12 a 2) a (M 0 1)) 9 a) ((O 1 ((clM (zu M 12 a 2) a (M 0 1)) 9 a)) - (nI (n0 * 2500)))))) F hK hP hD hS hi1 rfl tyX1 tyX1_ok nmX1 (4 + 4 * ((clM (zu M 12 a 2) a (M 0 1)) 9 a)) 8 (by have := hc1; omega) (cX_s hc1) (by decide) (Nat.le_of_ble_eq_true rfl) (by decide +kernel) rfl rfl rfl rfl (cX_uowes hc1 _) dX2_closeMended_78 (fun H locs hP hD hS => ?_)
    have eW : cX k ad (clM (zu M 12 a 2) a (M 0 1)) (crO M O a n0) = cX k ad (clM (zu M 12 a 2) a (M 0 1)) (zo O 1 ((clM (zu M 12 a 2) a (M 0 1)) 9 a) ((O 1 ((clM (zu M 12 a 2) a (M 0 1)) 9 a)) - (nI (n0 * 2500)))) := by rw [crO_t (show cov M (M 9 a) (M 10 a) (M 0 0 / 24) from c3), e9]
    rw [← eW] at hP hD
    refine W.widen (k := 0) (n := 0) (Nat.le_of_ble_eq_true rfl) (Nat.le_of_ble_eq_true rfl) ?_
    exact W.vret hx hb hr (fun t ht hW => ⟨⟨(), rfl, trivial, ⟨by rw [ht]; exact hP, va_K.moved hW.alike hK⟩, hD⟩, hS.F ht⟩) hS.2.2 dX2_closeMended_81
