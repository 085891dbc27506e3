/-- open: the new state -/
def opM (M : Nat → Nat → Nat) (i kd g : Nat) : Nat → Nat → Nat := fun r x => if r = 0 ∧ x = 1 then M 0 1 + 1 else if x = M 0 1 ∧ 9 ≤ r ∧ r ≤ 13 then (if r = 9 then i else if r = 10 then kd else if r = 11 then g else 0) else M r x
theorem opM_o {M : Nat → Nat → Nat} {i kd g r x : Nat} (h : ¬ (r = 0 ∧ x = 1)) (h2 : ¬ (x = M 0 1 ∧ 9 ≤ r ∧ r ≤ 13)) : opM M i kd g r x = M r x := by
  unfold opM
  rw [if_neg h, if_neg h2]
theorem opM_01 {M : Nat → Nat → Nat} {i kd g : Nat} : opM M i kd g 0 1 = M 0 1 + 1 := rfl
theorem opM_n {M : Nat → Nat → Nat} {i kd g r : Nat} (h : 9 ≤ r ∧ r ≤ 13) : opM M i kd g r (M 0 1) = (if r = 9 then i else if r = 10 then kd else if r = 11 then g else 0) := by
  unfold opM
  rw [if_neg (by omega), if_pos ⟨rfl, h⟩]
theorem opX {k : Nat → ClassId} {bd : Nat → Nat} {M : Nat → Nat → Nat} {O : Nat → Nat → Int32} {i kd g : Nat} (h14 : M 14 (M 0 1) = 0) (h16 : M 16 (M 0 1) = 0) (h15 : ∀ s, s < 3 → M 15 (3 * M 0 1 + s) = 0) :
    va_up (va_up (va_up (va_up (cX k bd M O) (20 + 2 * M 0 1) (.inr (0, [.ref (bd (4 + 4 * i)), .int (nI kd), .int (nI g), .int (nI 0), .int (nI 0), .null, .int (nI 0), .ref (bd (20 + 2 * M 0 1 + 1))]))) (20 + 2 * M 0 1 + 1) (.inl (k 0, 3, .inl (fun _ => 0)))) 3 (.inl (k 3, 40, .inr (.inr (.inr (.inr (va_up (fun c => if c < M 0 1 then some (bd (20 + 2 * c)) else none) (M 0 1) (some (bd (20 + 2 * M 0 1)))))))))) 0 (.inr (2, [.ref (bd 1), .ref (bd 2), .ref (bd 3), .int (nI (M 0 1 + 1)), .int (nI (M 0 0))])) = cX k bd (opM M i kd g) O := by
  funext q
  by_cases q0 : q = 0
  · subst q0
    rw [va_up_self, cX_0, dObj, opM_01, opM_o (r := 0) (x := 0) (by omega) (by omega)]
  rw [va_up_ne _ _ q0]
  by_cases q3 : q = 3
  · subst q3
    rw [va_up_self, cX_3]
    congr 7
    funext c
    rw [opM_01]
    by_cases hc : c = M 0 1
    · subst hc; rw [va_up_self, if_pos (by omega)]
    · rw [va_up_ne _ _ hc]
      by_cases hk : c < M 0 1
      · rw [if_pos hk, if_pos (by omega)]
      · rw [if_neg hk, if_neg (by omega)]
  rw [va_up_ne _ _ q3]
  by_cases q1 : q = 20 + 2 * M 0 1 + 1
  · subst q1
    rw [va_up_self, show 20 + 2 * M 0 1 + 1 = 21 + 2 * M 0 1 by omega, cX_k]
    congr 4
    funext x
    unfold rw0
    by_cases hx : x < 3
    · rw [if_pos hx, opM_o (by omega) (by omega), h15 x hx]; rfl
    · rw [if_neg hx]
  rw [va_up_ne _ _ q1]
  by_cases q2 : q = 20 + 2 * M 0 1
  · subst q2
    rw [va_up_self, cX_c, cObj, opM_n (r := 9) (by omega), opM_n (r := 10) (by omega), opM_n (r := 11) (by omega), opM_n (r := 12) (by omega), opM_n (r := 13) (by omega), opM_o (r := 14) (by omega) (by omega), opM_o (r := 16) (by omega) (by omega), h14, h16, show 20 + 2 * M 0 1 + 1 = 21 + 2 * M 0 1 by omega]
    rfl
  rw [va_up_ne _ _ q2]
  refine (cX_cg q (fun h => absurd h q0) (fun _ j _ => opM_o (by omega) (by omega)) (fun h => absurd h q3) (fun i _ _ => ⟨opM_o (by omega) (by omega), opM_o (by omega) (by omega), opM_o (by omega) (by omega), opM_o (by omega) (by omega), rfl, rfl⟩) (fun i r _ _ _ j _ => opM_o (by omega) (by omega)) (fun c hc => ?_) (fun c hc j _ => opM_o (by omega) (by omega))).symm
  have hne : c ≠ M 0 1 := by omega
  exact ⟨opM_o (by omega) (by omega), opM_o (by omega) (by omega), opM_o (by omega) (by omega), opM_o (by omega) (by omega), opM_o (by omega) (by omega), opM_o (by omega) (by omega), opM_o (by omega) (by omega)⟩
set_option maxRecDepth 100000 in
set_option maxHeartbeats 1000000 in
theorem c_X2_open (l : Launch) (hfl : l.stackTraces = false) (sa : Nat → Nat) (D : va_G) (k : Nat → ClassId) (ad : Nat → Nat) (M : Nat → Nat → Nat) (O : Nat → Nat → Int32) (sz : Nat) (hI : zInv M) (p0 p1 p2 : Int32) : vx_Met l yX2_open wsX2_open ({ frames := 8, cells := 6, slots := 35, locals := 124 }) (va_Pc [.ref (ad 0), .int p0, .int p1, .int p2] (zPre D k ad M O sz sa)) (zQop D k ad M (opM M (ix p0) (ix p1) (ix p2)) (O) (va_A (zw (20 + 2 * M 0 1) ad (cX k ad M O)) sz) (x3 (zI 4 p0 ∧ zI 4 p1) (nI 0 ≤ p2 ∧ p2 ≤ nI 2) (M 0 1 < 40)) (nI (M 0 1))) (zX (fun E => exC E (x3 (zI 4 p0 ∧ zI 4 p1) (nI 0 ≤ p2 ∧ p2 ≤ nI 2) (M 0 1 < 40)))) 6 35 (va_A (zw (20 + 2 * M 0 1) ad (cX k ad M O)) sz) := by
  refine vx_ofW (cc := cX2_open) (maxL := 6) (ret := (some .int)) (by decide) rfl ?_
  intro p e s m args below meth c s₁ B hml hnox hv
  obtain ⟨rfl, ⟨hsz, ⟨hP, hK⟩, hD0⟩, hE⟩ := hv
  have hx := B.exec
  have hb := B.bytes
  have hr := B.returns
  have hts := atoms_spec (ws := wsX2_open) B.pre
  have hown : s.vm.findClass RX2 = some m.cls := findClass_of_methodNamed B.named
  have hlocks := B.notSynchronized
  have F : CallFix p m c cX2_open 6 s _ wsX2_open RX2 := ⟨hx, hb, hml, hown, hts⟩
  subst hsz
  have hD := hD0.self (sz := s.heap.size)
  generalize hAe : va_A (zw (20 + 2 * M 0 1) ad (cX k ad M O)) s.heap.size = A at hD hE ⊢
  have hA : ∀ q : Nat, s.heap.size ≤ q → A q := fun q h => by rw [← hAe]; exact Or.inr h
  have hS0 : va_S noA s.heap s.heap [] := va_S.rf
  obtain ⟨hI1, hI2, hI3, hI4, hI5, hI6, hI7⟩ := id hI
  have hl := lv_entry ([.ref (ad 0), .int p0, .int p1, .int p2]) (n := 6) (Nat.le_of_ble_eq_true rfl)
  rw [lg_entry_eq]
  generalize (lg_sl ([.ref (ad 0), .int p0, .int p1, .int p2]) ++ List.replicate (6 - (lg_sl ([.ref (ad 0), .int p0, .int p1, .int p2])).length) Slot.unset).toArray = ls at hl ⊢
  have hl : lv_has ls 6 [(0, .ref (ad 0)), (1, .int p0), (2, .int p1), (3, .int p2)] := hl
  have hi2 : ∀ w ∈ u_ws RX2 TX2 5, w ∈ wsX2_open := by decide +kernel
  have hi0 : ∀ w ∈ u_ws RX0 TX0 8, w ∈ wsX2_open := by decide +kernel
  refine lv_aload_n hx hb dX2_open_0 rfl (lv_at hl 0 rfl) ?_
  refine lv_iload_n hx hb dX2_open_1 rfl (lv_at hl 1 rfl) ?_
  refine z_xVq (qc := (RX2, TX2, 5)) (As := [.int p0]) (rest := []) (0) F (c_X2_siteAt l hfl sa D k ad M O p0) (cwV 1 hts gX2_open_X2_siteAt rfl rfl rfl (by decide +kernel) ⟨Nat.le_of_ble_eq_true rfl, Nat.le_of_ble_eq_true rfl⟩) hK hP (by omega) cX_0 rfl hE hS0 hnox hlocks rfl hl.1 rfl (Nat.le_of_ble_eq_true rfl) dX2_open_2 ⟨Nat.le_of_ble_eq_true rfl, Nat.le_of_ble_eq_true rfl⟩ (Nat.le_of_ble_eq_true rfl) (Nat.le_of_ble_eq_true rfl) (fun E hpx => by obtain ⟨rfl, zz1⟩ := hpx; exact exC_1 (fun zz2 => zz1 zz2.1)) (fun a9 ha9 H1 locs1 hz1 hk1 hS0 => ?_)
  replace hP := z_keptP hP hk1
  obtain ⟨i, hi, rfl, rfl⟩ := ha9
  try rw [ix_nI (show i < 2 ^ 31 by omega)]
  have xa : zI 4 (nI i) := ⟨i, hi, rfl⟩
  obtain ⟨hs, ho⟩ := hI3 i hi
  obtain ⟨hd1, hd2, hd3, hd4⟩ := id hs
  refine lv_astore (lv' := [(4, .ref (ad (4 + 4 * i))), (0, .ref (ad 0)), (1, .int (nI i)), (2, .int p1), (3, .int p2)]) hx hb dX2_open_5 hl (by decide) rfl (fun ls hl => ?_)
  refine lv_iload_n hx hb dX2_open_7 rfl (lv_at hl 3 rfl) ?_
  refine z_xS (As := [.int p1]) (rest := []) F (c_X2_checkKind l hfl sa p1) (va_cwS 1 hts gX2_open_X2_checkKind rfl rfl rfl (by decide +kernel) ⟨Nat.le_of_ble_eq_true rfl, Nat.le_of_ble_eq_true rfl⟩) hE hS0 hnox hlocks rfl hl.1 rfl (Nat.le_of_ble_eq_true rfl) dX2_open_8 ⟨Nat.le_of_ble_eq_true rfl, Nat.le_of_ble_eq_true rfl⟩ (Nat.le_of_ble_eq_true rfl) (Nat.le_of_ble_eq_true rfl) (fun E hpx => by obtain ⟨rfl, zz1⟩ := hpx; exact exC_1 (fun zz2 => zz1 zz2.2)) (fun c1 H1 locs1 hz1 hk1 hS0 => ?_)
  replace hP := z_keptP hP hk1
  obtain ⟨kd, hkd, rfl⟩ := id c1
  try rw [ix_nI (show kd < 2 ^ 31 by omega)]
  refine lv_iload_n hx hb dX2_open_11 rfl (lv_at hl 4 rfl) ?_
  refine lv_iconst (v := nI 0) hx hb dX2_open_12 (by decide) ?_
  refine lv_iconst (v := nI 2) hx hb dX2_open_13 (by decide) ?_
  refine z_xS (As := [.int p2, .int (nI 0), .int (nI 2)]) (rest := []) F (c_X2_checkRange l hfl sa (p2) (nI 0) (nI 2)) (va_cwS 3 hts gX2_open_X2_checkRange rfl rfl rfl (by decide +kernel) ⟨Nat.le_of_ble_eq_true rfl, Nat.le_of_ble_eq_true rfl⟩) hE hS0 hnox hlocks rfl hl.1 rfl (Nat.le_of_ble_eq_true rfl) dX2_open_14 ⟨Nat.le_of_ble_eq_true rfl, Nat.le_of_ble_eq_true rfl⟩ (Nat.le_of_ble_eq_true rfl) (Nat.le_of_ble_eq_true rfl) (fun E hpx => by obtain ⟨rfl, zz1⟩ := hpx; exact exC_2 ⟨xa, c1⟩ (fun zz2 => zz1 zz2)) (fun c2 H1 locs1 hz1 hk1 hS0 => ?_)
  replace hP := z_keptP hP hk1
  obtain ⟨gr, hgr0, hgr, rfl⟩ := (zB_iff (by omega) (by decide)).mp c2
  try rw [ix_nI (show gr < 2 ^ 31 by omega)]
  refine lv_aload_n hx hb dX2_open_17 rfl (lv_at hl 1 rfl) ?_
  refine z_get (C := RX2) (T := TX2) (N := 5) (ci := 2) (v := .int (nI (M 0 1))) F hK hP hi2 rfl (0) 3 (by omega) cX_0 (by decide) rfl (by decide +kernel) dX2_open_18 ?_
  refine lv_bipush (v := nI 40) hx hb dX2_open_21 (by decide) ?_
  refine z_icmp_ge (tgt := 30) F (by omega) (by omega) dX2_open_23 (by decide) (fun c3 => ?_) (fun c3 => ?_)
  · refine lv_iconst (v := nI 0) hx hb dX2_open_30 (by decide) ?_
    refine z_top (show nI 0 = bI (M 0 1 < 40) from (bI_f (fun zz1 => absurd zz1 (by omega))).symm) ?_
    refine z_xS (As := [.int (bI (M 0 1 < 40))]) (rest := []) F (c_X2_checkState l hfl sa (M 0 1 < 40)) (va_cwS 1 hts gX2_open_X2_checkState rfl rfl rfl (by decide +kernel) ⟨Nat.le_of_ble_eq_true rfl, Nat.le_of_ble_eq_true rfl⟩) hE hS0 hnox hlocks rfl hl.1 rfl (Nat.le_of_ble_eq_true rfl) dX2_open_31 ⟨Nat.le_of_ble_eq_true rfl, Nat.le_of_ble_eq_true rfl⟩ (Nat.le_of_ble_eq_true rfl) (Nat.le_of_ble_eq_true rfl) (fun E hpx => by obtain ⟨rfl, zz1⟩ := hpx; exact exC_3 ⟨xa, c1⟩ c2 zz1) (fun c4 H1 locs1 hz1 hk1 hS0 => ?_)
    replace hP := z_keptP hP hk1
    have hS := zS_mono (B := A) hS0 noA_le
    refine lv_aload_n hx hb dX2_open_34 rfl (lv_at hl 1 rfl) ?_
    refine z_get (C := RX2) (T := TX2) (N := 5) (ci := 2) (v := .int (nI (M 0 1))) F hK hP hi2 rfl (0) 3 (by omega) cX_0 (by decide) rfl (by decide +kernel) dX2_open_35 ?_
    refine lv_istore (lv' := [(5, .int (nI (M 0 1))), (4, .ref (ad (4 + 4 * i))), (0, .ref (ad 0)), (1, .int (nI i)), (2, .int (nI kd)), (3, .int (nI gr))]) hx hb dX2_open_38 hl (by decide) rfl (fun ls hl => ?_)
    refine lv_aload_n hx hb dX2_open_40 rfl (lv_at hl 2 rfl) ?_
    refine z_get (C := RX2) (T := TX2) (N := 5) (ci := 2) (v := .ref (ad 3)) F hK hP hi2 rfl (0) 2 (by omega) cX_0 (by decide) rfl (by decide +kernel) dX2_open_41 ?_
    refine lv_iload hx hb dX2_open_44 (lv_at hl 0 rfl) ?_
    obtain ⟨szH, hz⟩ : ∃ zs : Nat, H1.size = zs := ⟨_, rfl⟩
    obtain ⟨bd, hb0, hb1, hb2⟩ : ∃ bd : Nat → Nat, (∀ j, j < 20 + 2 * M 0 1 → bd j = ad j) ∧ bd (20 + 2 * M 0 1) = szH ∧ bd (20 + 2 * M 0 1 + 1) = szH + 1 := ⟨fun j => if j < 20 + 2 * M 0 1 then ad j else szH + (j - (20 + 2 * M 0 1)), fun j hj => if_pos hj, by show (if _ then _ else _) = _; rw [if_neg (by omega)]; omega, by show (if _ then _ else _) = _; rw [if_neg (by omega)]; omega⟩
    replace hP := zP_ad hI5 hb0 hP
    replace hD := zD_ad (g := cX k bd M O) hb0 hD
    rw [← hb0 0 (by omega), ← hb0 (4 + 4 * i) (by omega)] at hl
    refine z_stk (rest := [.int (nI (M 0 1)), .ref (bd 3)]) (by rw [hb0 3 (by omega)]) ?_
    refine z_new F (C := RX0) (T := TX0) (N := 8) (ci := 0) (fs := [.null, .int (nI 0), .int (nI 0), .int (nI 0), .int (nI 0), .null, .int (nI 0), .null]) hi0 tyX0 tyX0_ok (by decide +kernel) (by decide +kernel) (by decide +kernel) hK hP hD hS hA rfl (by decide) (by rw [hb1, hz]) (Nat.le_of_ble_eq_true rfl) (Nat.le_of_ble_eq_true rfl) dX2_open_46 (fun H zz9 hP hD hS => ?_)
    replace hz := zz9.trans (congrArg (· + 1) hz)
    refine lv_dup hx hb dX2_open_49 rfl ?_
    refine lv_aload hx hb dX2_open_50 (lv_at hl 1 rfl) ?_
    refine lv_iload_n hx hb dX2_open_52 rfl (lv_at hl 4 rfl) ?_
    refine lv_iload_n hx hb dX2_open_53 rfl (lv_at hl 5 rfl) ?_
    refine z_mI (As := [.ref (bd (4 + 4 * i)), .int (nI kd), .int (nI gr)]) (rest := [.ref (bd (20 + 2 * M 0 1)), .int (nI (M 0 1)), .ref (bd 3)]) (20 + 2 * M 0 1) F (c_X0_init l D k bd H.size (cX k bd M O) (20 + 2 * M 0 1) (bd (4 + 4 * i)) (nI kd) (nI gr) (by rw [hb2, hz])) (cwI 3 hts gX2_open_X0_init rfl rfl rfl (hts (.initialized RX0) (by decide +kernel)) (hts (.methodLink RX2 81 yX0_init) (by decide +kernel)) (hts (.instanceMethod yX0_init) (by decide +kernel)) rfl (by decide +kernel) ⟨Nat.le_of_ble_eq_true rfl, Nat.le_of_ble_eq_true rfl⟩) hK hP hD hS hA rfl hl.1 rfl (Nat.le_of_ble_eq_true rfl) dX2_open_54 ⟨Nat.le_of_ble_eq_true rfl, Nat.le_of_ble_eq_true rfl⟩ (fun H locs zz9 hP hD hS => ?_)
    replace hz := zz9.trans (congrArg (· + 1) hz)
    refine z_astqS (f' := (va_up (va_up (va_up (cX k bd M O) (20 + 2 * M 0 1) (.inr (0, [.ref (bd (4 + 4 * i)), .int (nI kd), .int (nI gr), .int (nI 0), .int (nI 0), .null, .int (nI 0), .ref (bd (20 + 2 * M 0 1 + 1))]))) (20 + 2 * M 0 1 + 1) (.inl (k 0, 3, .inl (fun _ => 0)))) 3 (.inl (k 3, 40, .inr (.inr (.inr (.inr (va_up (fun c => if c < M 0 1 then some (bd (20 + 2 * c)) else none) (M 0 1) (some (bd (20 + 2 * M 0 1))))))))))) F hK hP hD hS (3) 3 (20 + 2 * M 0 1) 0 (by omega) (by rw [va_up_ne _ _ (by omega), va_up_ne _ _ (by omega)]; exact cX_3) rfl (by omega) (by rw [va_up_ne _ _ (by omega), va_up_self]) rfl (i := nI (M 0 1)) (M 0 1) rfl (by omega) (by decide) rfl dX2_open_57 (fun H locs zz9 hP hD hS => ?_)
    replace hz := zz9.trans hz
    refine lv_aload_n hx hb dX2_open_58 rfl (lv_at hl 2 rfl) ?_
    refine lv_dup hx hb dX2_open_59 rfl ?_
    refine z_get (C := RX2) (T := TX2) (N := 5) (ci := 2) (fs := [.ref (bd 1), .ref (bd 2), .ref (bd 3), .int (nI (M 0 1)), .int (nI (M 0 0))]) (v := .int (nI (M 0 1))) F hK hP hi2 rfl (0) 3 (by omega) (by rw [va_up_ne _ _ (by omega), va_up_ne _ _ (by omega), va_up_ne _ _ (by omega)]; exact cX_0) (by decide) rfl (by decide +kernel) dX2_open_60 ?_
    refine lv_iconst (v := nI 1) hx hb dX2_open_63 (by decide) ?_
    refine z_add F dX2_open_64 ?_
    refine z_putS (C := RX2) (T := TX2) (N := 5) (ci := 2) (fs := [.ref (bd 1), .ref (bd 2), .ref (bd 3), .int (nI (M 0 1)), .int (nI (M 0 0))]) (f' := (va_up (va_up (va_up (va_up (cX k bd M O) (20 + 2 * M 0 1) (.inr (0, [.ref (bd (4 + 4 * i)), .int (nI kd), .int (nI gr), .int (nI 0), .int (nI 0), .null, .int (nI 0), .ref (bd (20 + 2 * M 0 1 + 1))]))) (20 + 2 * M 0 1 + 1) (.inl (k 0, 3, .inl (fun _ => 0)))) 3 (.inl (k 3, 40, .inr (.inr (.inr (.inr (va_up (fun c => if c < M 0 1 then some (bd (20 + 2 * c)) else none) (M 0 1) (some (bd (20 + 2 * M 0 1)))))))))) 0 (.inr (2, [.ref (bd 1), .ref (bd 2), .ref (bd 3), .int (nI ((M 0 1) + 1)), .int (nI (M 0 0))])))) F hK hP hD hS hi2 rfl tyX2 tyX2_ok nmX2 (0) 3 (by omega) (by rw [va_up_ne _ _ (by omega), va_up_ne _ _ (by omega), va_up_ne _ _ (by omega)]; exact cX_0) (by decide) (Nat.le_of_ble_eq_true rfl) (by decide +kernel) rfl rfl rfl rfl rfl dX2_open_65 (fun H locs zz9 hP hD hS => ?_)
    replace hz := zz9.trans hz
    refine lv_iload hx hb dX2_open_68 (lv_at hl 0 rfl) ?_
    have h7 := hI7 (M 0 1) (by omega) (Nat.le_refl _)
    have e1 := opX (k := k) (bd := bd) (O := O) (i := i) (kd := kd) (g := gr) h7.1 h7.2.1 h7.2.2
    have e3 : 20 + 2 * opM M i kd gr 0 1 = 20 + 2 * M 0 1 + 1 + 1 := by rw [opM_01]; omega
    replace hP : va_P D vwCl (zw (20 + 2 * M 0 1 + 1 + 1) bd (cX k bd (opM M i kd gr) O)) H := e1 ▸ hP
    replace hD : va_D A (zw (20 + 2 * M 0 1 + 1 + 1) bd (cX k bd (opM M i kd gr) O)) := e1 ▸ hD
    rw [← e3] at hP hD
    refine vx_ret (mc := 6) (ms := 35) (W.widen (k := 6) (n := 35) (Nat.le_of_ble_eq_true rfl) (Nat.le_of_ble_eq_true rfl) ?_)
    exact W.iret (v := nI (M 0 1)) hx hb hr (fun t ht hW => ⟨⟨nI (M 0 1), bd, rfl, ⟨x3_0 ⟨xa, c1⟩ c2 c4, rfl⟩, ⟨⟨by rw [ht]; exact hP, va_K.moved hW.alike hK⟩, hD⟩, hb0⟩, hS.F ht⟩) hS.2.2 dX2_open_70
  · refine lv_iconst (v := nI 1) hx hb dX2_open_26 (by decide) ?_
    refine lv_goto (tgt := 31) hx hb dX2_open_27 (by decide) ?_
    refine z_top (show nI 1 = bI (M 0 1 < 40) from (bI_t (c3)).symm) ?_
    refine z_xS (As := [.int (bI (M 0 1 < 40))]) (rest := []) F (c_X2_checkState l hfl sa (M 0 1 < 40)) (va_cwS 1 hts gX2_open_X2_checkState rfl rfl rfl (by decide +kernel) ⟨Nat.le_of_ble_eq_true rfl, Nat.le_of_ble_eq_true rfl⟩) hE hS0 hnox hlocks rfl hl.1 rfl (Nat.le_of_ble_eq_true rfl) dX2_open_31 ⟨Nat.le_of_ble_eq_true rfl, Nat.le_of_ble_eq_true rfl⟩ (Nat.le_of_ble_eq_true rfl) (Nat.le_of_ble_eq_true rfl) (fun E hpx => by obtain ⟨rfl, zz1⟩ := hpx; exact exC_3 ⟨xa, c1⟩ c2 zz1) (fun c5 H1 locs1 hz1 hk1 hS0 => ?_)
    replace hP := z_keptP hP hk1
    have hS := zS_mono (B := A) hS0 noA_le
    refine lv_aload_n hx hb dX2_open_34 rfl (lv_at hl 1 rfl) ?_
    refine z_get (C := RX2) (T := TX2) (N := 5) (ci := 2) (v := .int (nI (M 0 1))) F hK hP hi2 rfl (0) 3 (by omega) cX_0 (by decide) rfl (by decide +kernel) dX2_open_35 ?_
    refine lv_istore (lv' := [(5, .int (nI (M 0 1))), (4, .ref (ad (4 + 4 * i))), (0, .ref (ad 0)), (1, .int (nI i)), (2, .int (nI kd)), (3, .int (nI gr))]) hx hb dX2_open_38 hl (by decide) rfl (fun ls hl => ?_)
    refine lv_aload_n hx hb dX2_open_40 rfl (lv_at hl 2 rfl) ?_
    refine z_get (C := RX2) (T := TX2) (N := 5) (ci := 2) (v := .ref (ad 3)) F hK hP hi2 rfl (0) 2 (by omega) cX_0 (by decide) rfl (by decide +kernel) dX2_open_41 ?_
    refine lv_iload hx hb dX2_open_44 (lv_at hl 0 rfl) ?_
    obtain ⟨szH, hz⟩ : ∃ zs : Nat, H1.size = zs := ⟨_, rfl⟩
    obtain ⟨bd, hb0, hb1, hb2⟩ : ∃ bd : Nat → Nat, (∀ j, j < 20 + 2 * M 0 1 → bd j = ad j) ∧ bd (20 + 2 * M 0 1) = szH ∧ bd (20 + 2 * M 0 1 + 1) = szH + 1 := ⟨fun j => if j < 20 + 2 * M 0 1 then ad j else szH + (j - (20 + 2 * M 0 1)), fun j hj => if_pos hj, by show (if _ then _ else _) = _; rw [if_neg (by omega)]; omega, by show (if _ then _ else _) = _; rw [if_neg (by omega)]; omega⟩
    replace hP := zP_ad hI5 hb0 hP
    replace hD := zD_ad (g := cX k bd M O) hb0 hD
    rw [← hb0 0 (by omega), ← hb0 (4 + 4 * i) (by omega)] at hl
    refine z_stk (rest := [.int (nI (M 0 1)), .ref (bd 3)]) (by rw [hb0 3 (by omega)]) ?_
    refine z_new F (C := RX0) (T := TX0) (N := 8) (ci := 0) (fs := [.null, .int (nI 0), .int (nI 0), .int (nI 0), .int (nI 0), .null, .int (nI 0), .null]) hi0 tyX0 tyX0_ok (by decide +kernel) (by decide +kernel) (by decide +kernel) hK hP hD hS hA rfl (by decide) (by rw [hb1, hz]) (Nat.le_of_ble_eq_true rfl) (Nat.le_of_ble_eq_true rfl) dX2_open_46 (fun H zz9 hP hD hS => ?_)
    replace hz := zz9.trans (congrArg (· + 1) hz)
    refine lv_dup hx hb dX2_open_49 rfl ?_
    refine lv_aload hx hb dX2_open_50 (lv_at hl 1 rfl) ?_
    refine lv_iload_n hx hb dX2_open_52 rfl (lv_at hl 4 rfl) ?_
    refine lv_iload_n hx hb dX2_open_53 rfl (lv_at hl 5 rfl) ?_
    refine z_mI (As := [.ref (bd (4 + 4 * i)), .int (nI kd), .int (nI gr)]) (rest := [.ref (bd (20 + 2 * M 0 1)), .int (nI (M 0 1)), .ref (bd 3)]) (20 + 2 * M 0 1) F (c_X0_init l D k bd H.size (cX k bd M O) (20 + 2 * M 0 1) (bd (4 + 4 * i)) (nI kd) (nI gr) (by rw [hb2, hz])) (cwI 3 hts gX2_open_X0_init rfl rfl rfl (hts (.initialized RX0) (by decide +kernel)) (hts (.methodLink RX2 81 yX0_init) (by decide +kernel)) (hts (.instanceMethod yX0_init) (by decide +kernel)) rfl (by decide +kernel) ⟨Nat.le_of_ble_eq_true rfl, Nat.le_of_ble_eq_true rfl⟩) hK hP hD hS hA rfl hl.1 rfl (Nat.le_of_ble_eq_true rfl) dX2_open_54 ⟨Nat.le_of_ble_eq_true rfl, Nat.le_of_ble_eq_true rfl⟩ (fun H locs zz9 hP hD hS => ?_)
    replace hz := zz9.trans (congrArg (· + 1) hz)
    refine z_astqS (f' := (va_up (va_up (va_up (cX k bd M O) (20 + 2 * M 0 1) (.inr (0, [.ref (bd (4 + 4 * i)), .int (nI kd), .int (nI gr), .int (nI 0), .int (nI 0), .null, .int (nI 0), .ref (bd (20 + 2 * M 0 1 + 1))]))) (20 + 2 * M 0 1 + 1) (.inl (k 0, 3, .inl (fun _ => 0)))) 3 (.inl (k 3, 40, .inr (.inr (.inr (.inr (va_up (fun c => if c < M 0 1 then some (bd (20 + 2 * c)) else none) (M 0 1) (some (bd (20 + 2 * M 0 1))))))))))) F hK hP hD hS (3) 3 (20 + 2 * M 0 1) 0 (by omega) (by rw [va_up_ne _ _ (by omega), va_up_ne _ _ (by omega)]; exact cX_3) rfl (by omega) (by rw [va_up_ne _ _ (by omega), va_up_self]) rfl (i := nI (M 0 1)) (M 0 1) rfl (by omega) (by decide) rfl dX2_open_57 (fun H locs zz9 hP hD hS => ?_)
    replace hz := zz9.trans hz
    refine lv_aload_n hx hb dX2_open_58 rfl (lv_at hl 2 rfl) ?_
    refine lv_dup hx hb dX2_open_59 rfl ?_
    refine z_get (C := RX2) (T := TX2) (N := 5) (ci := 2) (fs := [.ref (bd 1), .ref (bd 2), .ref (bd 3), .int (nI (M 0 1)), .int (nI (M 0 0))]) (v := .int (nI (M 0 1))) F hK hP hi2 rfl (0) 3 (by omega) (by rw [va_up_ne _ _ (by omega), va_up_ne _ _ (by omega), va_up_ne _ _ (by omega)]; exact cX_0) (by decide) rfl (by decide +kernel) dX2_open_60 ?_
    refine lv_iconst (v := nI 1) hx hb dX2_open_63 (by decide) ?_
    refine z_add F dX2_open_64 ?_
    refine z_putS (C := RX2) (T := TX2) (N := 5) (ci := 2) (fs := [.ref (bd 1), .ref (bd 2), .ref (bd 3), .int (nI (M 0 1)), .int (nI (M 0 0))]) (f' := (va_up (va_up (va_up (va_up (cX k bd M O) (20 + 2 * M 0 1) (.inr (0, [.ref (bd (4 + 4 * i)), .int (nI kd), .int (nI gr), .int (nI 0), .int (nI 0), .null, .int (nI 0), .ref (bd (20 + 2 * M 0 1 + 1))]))) (20 + 2 * M 0 1 + 1) (.inl (k 0, 3, .inl (fun _ => 0)))) 3 (.inl (k 3, 40, .inr (.inr (.inr (.inr (va_up (fun c => if c < M 0 1 then some (bd (20 + 2 * c)) else none) (M 0 1) (some (bd (20 + 2 * M 0 1)))))))))) 0 (.inr (2, [.ref (bd 1), .ref (bd 2), .ref (bd 3), .int (nI ((M 0 1) + 1)), .int (nI (M 0 0))])))) F hK hP hD hS hi2 rfl tyX2 tyX2_ok nmX2 (0) 3 (by omega) (by rw [va_up_ne _ _ (by omega), va_up_ne _ _ (by omega), va_up_ne _ _ (by omega)]; exact cX_0) (by decide) (Nat.le_of_ble_eq_true rfl) (by decide +kernel) rfl rfl rfl rfl rfl dX2_open_65 (fun H locs zz9 hP hD hS => ?_)
    replace hz := zz9.trans hz
    refine lv_iload hx hb dX2_open_68 (lv_at hl 0 rfl) ?_
    have h7 := hI7 (M 0 1) (by omega) (Nat.le_refl _)
    have e1 := opX (k := k) (bd := bd) (O := O) (i := i) (kd := kd) (g := gr) h7.1 h7.2.1 h7.2.2
    have e3 : 20 + 2 * opM M i kd gr 0 1 = 20 + 2 * M 0 1 + 1 + 1 := by rw [opM_01]; omega
    replace hP : va_P D vwCl (zw (20 + 2 * M 0 1 + 1 + 1) bd (cX k bd (opM M i kd gr) O)) H := e1 ▸ hP
    replace hD : va_D A (zw (20 + 2 * M 0 1 + 1 + 1) bd (cX k bd (opM M i kd gr) O)) := e1 ▸ hD
    rw [← e3] at hP hD
    refine vx_ret (mc := 6) (ms := 35) (W.widen (k := 6) (n := 35) (Nat.le_of_ble_eq_true rfl) (Nat.le_of_ble_eq_true rfl) ?_)
    exact W.iret (v := nI (M 0 1)) hx hb hr (fun t ht hW => ⟨⟨nI (M 0 1), bd, rfl, ⟨x3_0 ⟨xa, c1⟩ c2 c5, rfl⟩, ⟨⟨by rw [ht]; exact hP, va_K.moved hW.alike hK⟩, hD⟩, hb0⟩, hS.F ht⟩) hS.2.2 dX2_open_70
