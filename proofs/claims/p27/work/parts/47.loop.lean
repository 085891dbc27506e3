/-! THE LAW'S BODY: the roads of a case, the switch, what is compared behind each call, the loop. -/
set_option maxRecDepth 100000 in
set_option maxHeartbeats 2000000 in
theorem lp_d0 {p : Program} {l : Launch} {e : Env} {s : State} {m : MethodId} {args : Array Value} {below : List Frame} {meth : Method} {c : Code} {cells slots : Nat} {Q : State → Prop} {D : va_G} {k : Nat → ClassId} {sa : Nat → Nat} {b g i st v : Nat} {ad bd : Nat → Nat} {M N : Nat → Nat → Nat} {O P : Nat → Nat → Int32} {cs : Int32} {H : Heap} {locs : List Loc} {ls : Array Slot} (F : CallFix p m c cL_law 16 s args wsL_law RL) (hK : va_K D vwCl (tyL k) s) (hN : lwN s) (hE : zE (fun q => s.heap.size ≤ q) sa s s.heap) (hfl : l.stackTraces = false) (hv : v < 1073741824) (hst : st < 4) (hy : Sy g M O N P) (hI : zInv M) (hJ : zInv N) (hP : va_P D vwCl (zw (20 + 2 * M 0 1) ad (cX k ad M O) ++ zw (20 + 2 * N 0 1) bd (cX k bd N P)) H) (hD : va_D (fun q => s.heap.size ≤ q) (zw (20 + 2 * M 0 1) ad (cX k ad M O) ++ zw (20 + 2 * N 0 1) bd (cX k bd N P))) (hS : va_S (fun q => s.heap.size ≤ q) s.heap H locs) (hl : lv_has ls 16 [(0, .ref b), (1, .ref (ad 0)), (2, .ref (bd 0)), (3, .int (nI g)), (4, .int cs), (5, .int (nI 1)), (6, .int (nI i)), (8, .int (nI 17)), (9, .int (nI v)), (10, .int (nI st)), (11, .int (nI (sg g st))), (12, .int (nI (v / 4 % 40)))])
    (hc1 : cells + 12 ≤ 623114) (hc2 : slots + 70 ≤ 7232282) (nx : ∀ (M N : Nat → Nat → Nat) (O P : Nat → Nat → Int32) (ad bd : Nat → Nat) (cs : Int32) (H : Heap) (locs : List Loc) (ls : Array Slot), Sy g M O N P → zInv M → zInv N → va_P D vwCl (zw (20 + 2 * M 0 1) ad (cX k ad M O) ++ zw (20 + 2 * N 0 1) bd (cX k bd N P)) H → va_D (fun q => s.heap.size ≤ q) (zw (20 + 2 * M 0 1) ad (cX k ad M O) ++ zw (20 + 2 * N 0 1) bd (cX k bd N P)) → va_S (fun q => s.heap.size ≤ q) s.heap H locs → lv_has ls 16 [(0, .ref b), (1, .ref (ad 0)), (2, .ref (bd 0)), (3, .int (nI g)), (4, .int cs), (5, .int (nI 1)), (6, .int (nI i)), (9, .int (nI v)), (10, .int (nI st)), (11, .int (nI (sg g st))), (12, .int (nI (v / 4 % 40)))] → W p l e room_1 s m args below meth c H locs (cells + 12) (slots + 70) Q (F0 m 634 ls [])) : W p l e room_1 s m args below meth c H locs cells slots Q (F0 m 112 ls []) := by
  have hx := F.1
  have hb := F.2.1
  have hts := F.2.2.2.2
  have hA : ∀ q : Nat, s.heap.size ≤ q → (fun q => s.heap.size ≤ q) q := fun _ h => h
  refine lv_iload hx hb dL_law_112 (lv_at hl 7 rfl) ?_
  refine lv_iconst (v := nI 2) hx hb dL_law_114 (by decide) ?_
  refine z_icmp_ge (tgt := 238) F (by omega) (by omega) dL_law_115 (by decide) (fun _ => ?_) (fun zc => absurd zc (by decide))
  refine lv_iload hx hb dL_law_238 (lv_at hl 7 rfl) ?_
  refine lv_iconst (v := nI 2) hx hb dL_law_240 (by decide) ?_
  refine z_icmp_ne (tgt := 309) F (by omega) (by omega) dL_law_241 (by decide) (fun _ => ?_) (fun zc => absurd zc (by decide))
  refine lv_iload hx hb dL_law_309 (lv_at hl 7 rfl) ?_
  refine lv_bipush (v := nI 7) hx hb dL_law_311 (by decide) ?_
  refine z_icmp_ge (tgt := 383) F (by omega) (by omega) dL_law_313 (by decide) (fun _ => ?_) (fun zc => absurd zc (by decide))
  refine lv_iload hx hb dL_law_383 (lv_at hl 7 rfl) ?_
  refine lv_bipush (v := nI 7) hx hb dL_law_385 (by decide) ?_
  refine z_icmp_ne (tgt := 429) F (by omega) (by omega) dL_law_387 (by decide) (fun _ => ?_) (fun zc => absurd zc (by decide))
  refine lv_iload hx hb dL_law_429 (lv_at hl 7 rfl) ?_
  refine lv_bipush (v := nI 11) hx hb dL_law_431 (by decide) ?_
  refine z_icmp_lt (tgt := 441) F (by omega) (by omega) dL_law_433 (by decide) (fun zc => absurd zc (by decide)) (fun _ => ?_)
  refine lv_iload hx hb dL_law_436 (lv_at hl 4 rfl) ?_
  refine lv_if_ne (tgt := 515) hx hb dL_law_438 (by decide) (fun c1 => ?_) (fun c1 => ?_)
  · refine lv_iload hx hb dL_law_515 (lv_at hl 7 rfl) ?_
    refine lv_bipush (v := nI 17) hx hb dL_law_517 (by decide) ?_
    refine z_icmp_ne (tgt := 526) F (by omega) (by omega) dL_law_519 (by decide) (fun zc => absurd zc (by decide)) (fun _ => ?_)
    refine lv_iconst (v := nI 0) hx hb dL_law_522 (by decide) ?_
    refine lv_goto (tgt := 531) hx hb dL_law_523 (by decide) ?_
    refine lv_istore (lv' := [(13, .int (nI 0)), (0, .ref b), (1, .ref (ad 0)), (2, .ref (bd 0)), (3, .int (nI g)), (4, .int cs), (5, .int (nI 1)), (6, .int (nI i)), (8, .int (nI 17)), (9, .int (nI v)), (10, .int (nI st)), (11, .int (nI (sg g st))), (12, .int (nI (v / 4 % 40)))]) hx hb dL_law_531 hl (by decide) rfl (fun ls hl => ?_)
    refine lv_iload hx hb dL_law_533 (lv_at hl 0 rfl) ?_
    refine lv_iconst (v := nI 3) hx hb dL_law_535 (by decide) ?_
    refine z_icmp_ne (tgt := 551) F (by omega) (by omega) dL_law_536 (by decide) (fun _ => ?_) (fun zc => absurd zc (by decide))
    refine lv_iload hx hb dL_law_551 (lv_at hl 0 rfl) ?_
    refine lv_iconst (v := nI 1) hx hb dL_law_553 (by decide) ?_
    refine z_icmp_ne (tgt := 568) F (by omega) (by omega) dL_law_554 (by decide) (fun _ => ?_) (fun zc => absurd zc (by decide))
    refine lv_iload hx hb dL_law_568 (lv_at hl 0 rfl) ?_
    refine lv_iconst (v := nI 5) hx hb dL_law_570 (by decide) ?_
    refine z_icmp_ne (tgt := 588) F (by omega) (by omega) dL_law_571 (by decide) (fun _ => ?_) (fun zc => absurd zc (by decide))
    refine lv_iload hx hb dL_law_588 (lv_at hl 9 rfl) ?_
    refine lv_sipush (v := nI 160) hx hb dL_law_590 (by decide) ?_
    refine z_div F (by omega) (by omega) (by omega) dL_law_593 ?_
    refine lv_iconst (v := nI 3) hx hb dL_law_594 (by decide) ?_
    refine z_rem F (by omega) (by omega) (by omega) dL_law_595 ?_
    refine lv_istore (lv' := [(14, .int (nI ((v / 160) % 3))), (13, .int (nI 0)), (0, .ref b), (1, .ref (ad 0)), (2, .ref (bd 0)), (3, .int (nI g)), (4, .int cs), (5, .int (nI 1)), (6, .int (nI i)), (8, .int (nI 17)), (9, .int (nI v)), (10, .int (nI st)), (11, .int (nI (sg g st))), (12, .int (nI (v / 4 % 40)))]) hx hb dL_law_596 hl (by decide) rfl (fun ls hl => ?_)
    refine lv_aload_n hx hb dL_law_598 rfl (lv_at hl 3 rfl) ?_
    refine lv_iload hx hb dL_law_599 (lv_at hl 1 rfl) ?_
    refine lv_iload hx hb dL_law_601 (lv_at hl 13 rfl) ?_
    refine lv_iload hx hb dL_law_603 (lv_at hl 6 rfl) ?_
    refine lv_irem hx hb dL_law_605 c1 ?_
    refine lv_iload hx hb dL_law_606 (lv_at hl 0 rfl) ?_
    refine tw_call (As := [.ref (ad 0), .int (nI 0), .int ((nI (v / 4 % 40)) - (nI (v / 4 % 40)) / cs * cs), .int (nI ((v / 160) % 3))]) (rest := []) F (c_L_does l hfl sa D k ad M O _ hI 0 (by decide) ((nI (v / 4 % 40)) - (nI (v / 4 % 40)) / cs * cs) (nI ((v / 160) % 3))) (vx_cwSW 4 hts gL_law_L_does rfl rfl rfl (by decide +kernel) ⟨Nat.le_of_ble_eq_true rfl, Nat.le_of_ble_eq_true rfl⟩) hK hN hE hP hD hS hA rfl hl.1 rfl (Nat.le_of_ble_eq_true rfl) dL_law_608 ⟨by show _ ≤ 623114; omega, by show _ ≤ 7232282; omega⟩ (fun ad1 H locs had hP hD hS => ?_)
    rw [← had 0 (by omega)] at hl
    refine lv_aload_n hx hb dL_law_611 rfl (lv_at hl 4 rfl) ?_
    refine lv_iload hx hb dL_law_612 (lv_at hl 1 rfl) ?_
    refine lv_iload hx hb dL_law_614 (lv_at hl 13 rfl) ?_
    refine lv_iload hx hb dL_law_616 (lv_at hl 6 rfl) ?_
    refine lv_irem hx hb dL_law_618 c1 ?_
    refine lv_iload hx hb dL_law_619 (lv_at hl 0 rfl) ?_
    replace hP := wPs hP
    replace hD := wDs hD
    refine tw_call (As := [.ref (bd 0), .int (nI 0), .int ((nI (v / 4 % 40)) - (nI (v / 4 % 40)) / cs * cs), .int (nI ((v / 160) % 3))]) (rest := [.int (rV (tdX M O 0 ((nI (v / 4 % 40)) - (nI (v / 4 % 40)) / cs * cs) (nI ((v / 160) % 3))) (tdV M O 0 ((nI (v / 4 % 40)) - (nI (v / 4 % 40)) / cs * cs) (nI ((v / 160) % 3))))]) F (c_L_does l hfl sa D k bd N P _ hJ 0 (by decide) ((nI (v / 4 % 40)) - (nI (v / 4 % 40)) / cs * cs) (nI ((v / 160) % 3))) (vx_cwSW 4 hts gL_law_L_does rfl rfl rfl (by decide +kernel) ⟨Nat.le_of_ble_eq_true rfl, Nat.le_of_ble_eq_true rfl⟩) hK hN hE hP hD hS hA rfl hl.1 rfl (Nat.le_of_ble_eq_true rfl) dL_law_621 ⟨by show _ ≤ 623114; omega, by show _ ≤ 7232282; omega⟩ (fun bd2 H locs had hP hD hS => ?_)
    rw [← had 0 (by omega)] at hl
    replace hP := wPs hP
    replace hD := wDs hD
    obtain ⟨hv1, hy1, hI1, hJ1⟩ := sy_does2 hy hI hJ (w := 0) (by decide) ((nI (v / 4 % 40)) - (nI (v / 4 % 40)) / cs * cs) (nI ((v / 160) % 3))
    refine lv_icmp_ne (tgt := 631) hx hb dL_law_624 (by decide) (fun zc => absurd (hv1.symm) zc) (fun _ => ?_)
    refine lv_iconst (v := nI 1) hx hb dL_law_627 (by decide) ?_
    refine lv_goto (tgt := 632) hx hb dL_law_628 (by decide) ?_
    refine lv_istore (lv' := [(5, .int (nI 1)), (14, .int (nI ((v / 160) % 3))), (13, .int (nI 0)), (0, .ref b), (1, .ref (ad1 0)), (2, .ref (bd2 0)), (3, .int (nI g)), (4, .int cs), (6, .int (nI i)), (8, .int (nI 17)), (9, .int (nI v)), (10, .int (nI st)), (11, .int (nI (sg g st))), (12, .int (nI (v / 4 % 40)))]) hx hb dL_law_632 hl (by decide) rfl (fun ls hl => ?_)
    refine W.widen (k := cells + 12) (n := slots + 70) (by omega) (by omega) ?_
    exact nx _ _ _ _ _ _ _ _ _ _ hy1 hI1 hJ1 hP hD hS (lv_sub hl [3, 4, 5, 6, 7, 0, 8, 10, 11, 12, 13] rfl)
  · exact lp_open F hK hN hE hfl hv hst hy hI hJ hP hD hS (lv_sub hl [0, 1, 2, 3, 4, 5, 6, 8, 9, 10, 11] rfl) hc1 hc2 nx
set_option maxRecDepth 100000 in
set_option maxHeartbeats 2000000 in
theorem lp_d1 {p : Program} {l : Launch} {e : Env} {s : State} {m : MethodId} {args : Array Value} {below : List Frame} {meth : Method} {c : Code} {cells slots : Nat} {Q : State → Prop} {D : va_G} {k : Nat → ClassId} {sa : Nat → Nat} {b g i st v : Nat} {ad bd : Nat → Nat} {M N : Nat → Nat → Nat} {O P : Nat → Nat → Int32} {cs : Int32} {H : Heap} {locs : List Loc} {ls : Array Slot} (F : CallFix p m c cL_law 16 s args wsL_law RL) (hK : va_K D vwCl (tyL k) s) (hN : lwN s) (hE : zE (fun q => s.heap.size ≤ q) sa s s.heap) (hfl : l.stackTraces = false) (hv : v < 1073741824) (hst : st < 4) (hy : Sy g M O N P) (hI : zInv M) (hJ : zInv N) (hP : va_P D vwCl (zw (20 + 2 * M 0 1) ad (cX k ad M O) ++ zw (20 + 2 * N 0 1) bd (cX k bd N P)) H) (hD : va_D (fun q => s.heap.size ≤ q) (zw (20 + 2 * M 0 1) ad (cX k ad M O) ++ zw (20 + 2 * N 0 1) bd (cX k bd N P))) (hS : va_S (fun q => s.heap.size ≤ q) s.heap H locs) (hl : lv_has ls 16 [(0, .ref b), (1, .ref (ad 0)), (2, .ref (bd 0)), (3, .int (nI g)), (4, .int cs), (5, .int (nI 1)), (6, .int (nI i)), (8, .int (nI 12)), (9, .int (nI v)), (10, .int (nI st)), (11, .int (nI (sg g st))), (12, .int (nI (v / 4 % 40)))])
    (hc1 : cells + 12 ≤ 623114) (hc2 : slots + 70 ≤ 7232282) (nx : ∀ (M N : Nat → Nat → Nat) (O P : Nat → Nat → Int32) (ad bd : Nat → Nat) (cs : Int32) (H : Heap) (locs : List Loc) (ls : Array Slot), Sy g M O N P → zInv M → zInv N → va_P D vwCl (zw (20 + 2 * M 0 1) ad (cX k ad M O) ++ zw (20 + 2 * N 0 1) bd (cX k bd N P)) H → va_D (fun q => s.heap.size ≤ q) (zw (20 + 2 * M 0 1) ad (cX k ad M O) ++ zw (20 + 2 * N 0 1) bd (cX k bd N P)) → va_S (fun q => s.heap.size ≤ q) s.heap H locs → lv_has ls 16 [(0, .ref b), (1, .ref (ad 0)), (2, .ref (bd 0)), (3, .int (nI g)), (4, .int cs), (5, .int (nI 1)), (6, .int (nI i)), (9, .int (nI v)), (10, .int (nI st)), (11, .int (nI (sg g st))), (12, .int (nI (v / 4 % 40)))] → W p l e room_1 s m args below meth c H locs (cells + 12) (slots + 70) Q (F0 m 634 ls [])) : W p l e room_1 s m args below meth c H locs cells slots Q (F0 m 112 ls []) := by
  have hx := F.1
  have hb := F.2.1
  have hts := F.2.2.2.2
  have hA : ∀ q : Nat, s.heap.size ≤ q → (fun q => s.heap.size ≤ q) q := fun _ h => h
  refine lv_iload hx hb dL_law_112 (lv_at hl 7 rfl) ?_
  refine lv_iconst (v := nI 2) hx hb dL_law_114 (by decide) ?_
  refine z_icmp_ge (tgt := 238) F (by omega) (by omega) dL_law_115 (by decide) (fun _ => ?_) (fun zc => absurd zc (by decide))
  refine lv_iload hx hb dL_law_238 (lv_at hl 7 rfl) ?_
  refine lv_iconst (v := nI 2) hx hb dL_law_240 (by decide) ?_
  refine z_icmp_ne (tgt := 309) F (by omega) (by omega) dL_law_241 (by decide) (fun _ => ?_) (fun zc => absurd zc (by decide))
  refine lv_iload hx hb dL_law_309 (lv_at hl 7 rfl) ?_
  refine lv_bipush (v := nI 7) hx hb dL_law_311 (by decide) ?_
  refine z_icmp_ge (tgt := 383) F (by omega) (by omega) dL_law_313 (by decide) (fun _ => ?_) (fun zc => absurd zc (by decide))
  refine lv_iload hx hb dL_law_383 (lv_at hl 7 rfl) ?_
  refine lv_bipush (v := nI 7) hx hb dL_law_385 (by decide) ?_
  refine z_icmp_ne (tgt := 429) F (by omega) (by omega) dL_law_387 (by decide) (fun _ => ?_) (fun zc => absurd zc (by decide))
  refine lv_iload hx hb dL_law_429 (lv_at hl 7 rfl) ?_
  refine lv_bipush (v := nI 11) hx hb dL_law_431 (by decide) ?_
  refine z_icmp_lt (tgt := 441) F (by omega) (by omega) dL_law_433 (by decide) (fun zc => absurd zc (by decide)) (fun _ => ?_)
  refine lv_iload hx hb dL_law_436 (lv_at hl 4 rfl) ?_
  refine lv_if_ne (tgt := 515) hx hb dL_law_438 (by decide) (fun c2 => ?_) (fun c2 => ?_)
  · refine lv_iload hx hb dL_law_515 (lv_at hl 7 rfl) ?_
    refine lv_bipush (v := nI 17) hx hb dL_law_517 (by decide) ?_
    refine z_icmp_ne (tgt := 526) F (by omega) (by omega) dL_law_519 (by decide) (fun _ => ?_) (fun zc => absurd zc (by decide))
    refine lv_iload hx hb dL_law_526 (lv_at hl 7 rfl) ?_
    refine lv_bipush (v := nI 11) hx hb dL_law_528 (by decide) ?_
    refine z_sub F (by omega) dL_law_530 ?_
    refine z_top (show nI (12 - 11) = nI 1 from rfl) ?_
    refine lv_istore (lv' := [(13, .int (nI 1)), (0, .ref b), (1, .ref (ad 0)), (2, .ref (bd 0)), (3, .int (nI g)), (4, .int cs), (5, .int (nI 1)), (6, .int (nI i)), (8, .int (nI 12)), (9, .int (nI v)), (10, .int (nI st)), (11, .int (nI (sg g st))), (12, .int (nI (v / 4 % 40)))]) hx hb dL_law_531 hl (by decide) rfl (fun ls hl => ?_)
    refine lv_iload hx hb dL_law_533 (lv_at hl 0 rfl) ?_
    refine lv_iconst (v := nI 3) hx hb dL_law_535 (by decide) ?_
    refine z_icmp_ne (tgt := 551) F (by omega) (by omega) dL_law_536 (by decide) (fun _ => ?_) (fun zc => absurd zc (by decide))
    refine lv_iload hx hb dL_law_551 (lv_at hl 0 rfl) ?_
    refine lv_iconst (v := nI 1) hx hb dL_law_553 (by decide) ?_
    refine z_icmp_ne (tgt := 568) F (by omega) (by omega) dL_law_554 (by decide) (fun zc => absurd zc (by decide)) (fun _ => ?_)
    refine lv_iload hx hb dL_law_557 (lv_at hl 9 rfl) ?_
    refine lv_sipush (v := nI 160) hx hb dL_law_559 (by decide) ?_
    refine z_div F (by omega) (by omega) (by omega) dL_law_562 ?_
    refine lv_iconst (v := nI 2) hx hb dL_law_563 (by decide) ?_
    refine z_rem F (by omega) (by omega) (by omega) dL_law_564 ?_
    refine lv_goto (tgt := 596) hx hb dL_law_565 (by decide) ?_
    refine lv_istore (lv' := [(14, .int (nI ((v / 160) % 2))), (13, .int (nI 1)), (0, .ref b), (1, .ref (ad 0)), (2, .ref (bd 0)), (3, .int (nI g)), (4, .int cs), (5, .int (nI 1)), (6, .int (nI i)), (8, .int (nI 12)), (9, .int (nI v)), (10, .int (nI st)), (11, .int (nI (sg g st))), (12, .int (nI (v / 4 % 40)))]) hx hb dL_law_596 hl (by decide) rfl (fun ls hl => ?_)
    refine lv_aload_n hx hb dL_law_598 rfl (lv_at hl 3 rfl) ?_
    refine lv_iload hx hb dL_law_599 (lv_at hl 1 rfl) ?_
    refine lv_iload hx hb dL_law_601 (lv_at hl 13 rfl) ?_
    refine lv_iload hx hb dL_law_603 (lv_at hl 6 rfl) ?_
    refine lv_irem hx hb dL_law_605 c2 ?_
    refine lv_iload hx hb dL_law_606 (lv_at hl 0 rfl) ?_
    refine tw_call (As := [.ref (ad 0), .int (nI 1), .int ((nI (v / 4 % 40)) - (nI (v / 4 % 40)) / cs * cs), .int (nI ((v / 160) % 2))]) (rest := []) F (c_L_does l hfl sa D k ad M O _ hI 1 (by decide) ((nI (v / 4 % 40)) - (nI (v / 4 % 40)) / cs * cs) (nI ((v / 160) % 2))) (vx_cwSW 4 hts gL_law_L_does rfl rfl rfl (by decide +kernel) ⟨Nat.le_of_ble_eq_true rfl, Nat.le_of_ble_eq_true rfl⟩) hK hN hE hP hD hS hA rfl hl.1 rfl (Nat.le_of_ble_eq_true rfl) dL_law_608 ⟨by show _ ≤ 623114; omega, by show _ ≤ 7232282; omega⟩ (fun ad3 H locs had hP hD hS => ?_)
    rw [← had 0 (by omega)] at hl
    refine lv_aload_n hx hb dL_law_611 rfl (lv_at hl 4 rfl) ?_
    refine lv_iload hx hb dL_law_612 (lv_at hl 1 rfl) ?_
    refine lv_iload hx hb dL_law_614 (lv_at hl 13 rfl) ?_
    refine lv_iload hx hb dL_law_616 (lv_at hl 6 rfl) ?_
    refine lv_irem hx hb dL_law_618 c2 ?_
    refine lv_iload hx hb dL_law_619 (lv_at hl 0 rfl) ?_
    replace hP := wPs hP
    replace hD := wDs hD
    refine tw_call (As := [.ref (bd 0), .int (nI 1), .int ((nI (v / 4 % 40)) - (nI (v / 4 % 40)) / cs * cs), .int (nI ((v / 160) % 2))]) (rest := [.int (rV (tdX M O 1 ((nI (v / 4 % 40)) - (nI (v / 4 % 40)) / cs * cs) (nI ((v / 160) % 2))) (tdV M O 1 ((nI (v / 4 % 40)) - (nI (v / 4 % 40)) / cs * cs) (nI ((v / 160) % 2))))]) F (c_L_does l hfl sa D k bd N P _ hJ 1 (by decide) ((nI (v / 4 % 40)) - (nI (v / 4 % 40)) / cs * cs) (nI ((v / 160) % 2))) (vx_cwSW 4 hts gL_law_L_does rfl rfl rfl (by decide +kernel) ⟨Nat.le_of_ble_eq_true rfl, Nat.le_of_ble_eq_true rfl⟩) hK hN hE hP hD hS hA rfl hl.1 rfl (Nat.le_of_ble_eq_true rfl) dL_law_621 ⟨by show _ ≤ 623114; omega, by show _ ≤ 7232282; omega⟩ (fun bd4 H locs had hP hD hS => ?_)
    rw [← had 0 (by omega)] at hl
    replace hP := wPs hP
    replace hD := wDs hD
    obtain ⟨hv1, hy1, hI1, hJ1⟩ := sy_does2 hy hI hJ (w := 1) (by decide) ((nI (v / 4 % 40)) - (nI (v / 4 % 40)) / cs * cs) (nI ((v / 160) % 2))
    refine lv_icmp_ne (tgt := 631) hx hb dL_law_624 (by decide) (fun zc => absurd (hv1.symm) zc) (fun _ => ?_)
    refine lv_iconst (v := nI 1) hx hb dL_law_627 (by decide) ?_
    refine lv_goto (tgt := 632) hx hb dL_law_628 (by decide) ?_
    refine lv_istore (lv' := [(5, .int (nI 1)), (14, .int (nI ((v / 160) % 2))), (13, .int (nI 1)), (0, .ref b), (1, .ref (ad3 0)), (2, .ref (bd4 0)), (3, .int (nI g)), (4, .int cs), (6, .int (nI i)), (8, .int (nI 12)), (9, .int (nI v)), (10, .int (nI st)), (11, .int (nI (sg g st))), (12, .int (nI (v / 4 % 40)))]) hx hb dL_law_632 hl (by decide) rfl (fun ls hl => ?_)
    refine W.widen (k := cells + 12) (n := slots + 70) (by omega) (by omega) ?_
    exact nx _ _ _ _ _ _ _ _ _ _ hy1 hI1 hJ1 hP hD hS (lv_sub hl [3, 4, 5, 6, 7, 0, 8, 10, 11, 12, 13] rfl)
  · exact lp_open F hK hN hE hfl hv hst hy hI hJ hP hD hS (lv_sub hl [0, 1, 2, 3, 4, 5, 6, 8, 9, 10, 11] rfl) hc1 hc2 nx
set_option maxRecDepth 100000 in
set_option maxHeartbeats 2000000 in
theorem lp_d2 {p : Program} {l : Launch} {e : Env} {s : State} {m : MethodId} {args : Array Value} {below : List Frame} {meth : Method} {c : Code} {cells slots : Nat} {Q : State → Prop} {D : va_G} {k : Nat → ClassId} {sa : Nat → Nat} {b g i st v : Nat} {ad bd : Nat → Nat} {M N : Nat → Nat → Nat} {O P : Nat → Nat → Int32} {cs : Int32} {H : Heap} {locs : List Loc} {ls : Array Slot} (F : CallFix p m c cL_law 16 s args wsL_law RL) (hK : va_K D vwCl (tyL k) s) (hN : lwN s) (hE : zE (fun q => s.heap.size ≤ q) sa s s.heap) (hfl : l.stackTraces = false) (hv : v < 1073741824) (hst : st < 4) (hy : Sy g M O N P) (hI : zInv M) (hJ : zInv N) (hP : va_P D vwCl (zw (20 + 2 * M 0 1) ad (cX k ad M O) ++ zw (20 + 2 * N 0 1) bd (cX k bd N P)) H) (hD : va_D (fun q => s.heap.size ≤ q) (zw (20 + 2 * M 0 1) ad (cX k ad M O) ++ zw (20 + 2 * N 0 1) bd (cX k bd N P))) (hS : va_S (fun q => s.heap.size ≤ q) s.heap H locs) (hl : lv_has ls 16 [(0, .ref b), (1, .ref (ad 0)), (2, .ref (bd 0)), (3, .int (nI g)), (4, .int cs), (5, .int (nI 1)), (6, .int (nI i)), (8, .int (nI 13)), (9, .int (nI v)), (10, .int (nI st)), (11, .int (nI (sg g st))), (12, .int (nI (v / 4 % 40)))])
    (hc1 : cells + 12 ≤ 623114) (hc2 : slots + 70 ≤ 7232282) (nx : ∀ (M N : Nat → Nat → Nat) (O P : Nat → Nat → Int32) (ad bd : Nat → Nat) (cs : Int32) (H : Heap) (locs : List Loc) (ls : Array Slot), Sy g M O N P → zInv M → zInv N → va_P D vwCl (zw (20 + 2 * M 0 1) ad (cX k ad M O) ++ zw (20 + 2 * N 0 1) bd (cX k bd N P)) H → va_D (fun q => s.heap.size ≤ q) (zw (20 + 2 * M 0 1) ad (cX k ad M O) ++ zw (20 + 2 * N 0 1) bd (cX k bd N P)) → va_S (fun q => s.heap.size ≤ q) s.heap H locs → lv_has ls 16 [(0, .ref b), (1, .ref (ad 0)), (2, .ref (bd 0)), (3, .int (nI g)), (4, .int cs), (5, .int (nI 1)), (6, .int (nI i)), (9, .int (nI v)), (10, .int (nI st)), (11, .int (nI (sg g st))), (12, .int (nI (v / 4 % 40)))] → W p l e room_1 s m args below meth c H locs (cells + 12) (slots + 70) Q (F0 m 634 ls [])) : W p l e room_1 s m args below meth c H locs cells slots Q (F0 m 112 ls []) := by
  have hx := F.1
  have hb := F.2.1
  have hts := F.2.2.2.2
  have hA : ∀ q : Nat, s.heap.size ≤ q → (fun q => s.heap.size ≤ q) q := fun _ h => h
  refine lv_iload hx hb dL_law_112 (lv_at hl 7 rfl) ?_
  refine lv_iconst (v := nI 2) hx hb dL_law_114 (by decide) ?_
  refine z_icmp_ge (tgt := 238) F (by omega) (by omega) dL_law_115 (by decide) (fun _ => ?_) (fun zc => absurd zc (by decide))
  refine lv_iload hx hb dL_law_238 (lv_at hl 7 rfl) ?_
  refine lv_iconst (v := nI 2) hx hb dL_law_240 (by decide) ?_
  refine z_icmp_ne (tgt := 309) F (by omega) (by omega) dL_law_241 (by decide) (fun _ => ?_) (fun zc => absurd zc (by decide))
  refine lv_iload hx hb dL_law_309 (lv_at hl 7 rfl) ?_
  refine lv_bipush (v := nI 7) hx hb dL_law_311 (by decide) ?_
  refine z_icmp_ge (tgt := 383) F (by omega) (by omega) dL_law_313 (by decide) (fun _ => ?_) (fun zc => absurd zc (by decide))
  refine lv_iload hx hb dL_law_383 (lv_at hl 7 rfl) ?_
  refine lv_bipush (v := nI 7) hx hb dL_law_385 (by decide) ?_
  refine z_icmp_ne (tgt := 429) F (by omega) (by omega) dL_law_387 (by decide) (fun _ => ?_) (fun zc => absurd zc (by decide))
  refine lv_iload hx hb dL_law_429 (lv_at hl 7 rfl) ?_
  refine lv_bipush (v := nI 11) hx hb dL_law_431 (by decide) ?_
  refine z_icmp_lt (tgt := 441) F (by omega) (by omega) dL_law_433 (by decide) (fun zc => absurd zc (by decide)) (fun _ => ?_)
  refine lv_iload hx hb dL_law_436 (lv_at hl 4 rfl) ?_
  refine lv_if_ne (tgt := 515) hx hb dL_law_438 (by decide) (fun c3 => ?_) (fun c3 => ?_)
  · refine lv_iload hx hb dL_law_515 (lv_at hl 7 rfl) ?_
    refine lv_bipush (v := nI 17) hx hb dL_law_517 (by decide) ?_
    refine z_icmp_ne (tgt := 526) F (by omega) (by omega) dL_law_519 (by decide) (fun _ => ?_) (fun zc => absurd zc (by decide))
    refine lv_iload hx hb dL_law_526 (lv_at hl 7 rfl) ?_
    refine lv_bipush (v := nI 11) hx hb dL_law_528 (by decide) ?_
    refine z_sub F (by omega) dL_law_530 ?_
    refine z_top (show nI (13 - 11) = nI 2 from rfl) ?_
    refine lv_istore (lv' := [(13, .int (nI 2)), (0, .ref b), (1, .ref (ad 0)), (2, .ref (bd 0)), (3, .int (nI g)), (4, .int cs), (5, .int (nI 1)), (6, .int (nI i)), (8, .int (nI 13)), (9, .int (nI v)), (10, .int (nI st)), (11, .int (nI (sg g st))), (12, .int (nI (v / 4 % 40)))]) hx hb dL_law_531 hl (by decide) rfl (fun ls hl => ?_)
    refine lv_iload hx hb dL_law_533 (lv_at hl 0 rfl) ?_
    refine lv_iconst (v := nI 3) hx hb dL_law_535 (by decide) ?_
    refine z_icmp_ne (tgt := 551) F (by omega) (by omega) dL_law_536 (by decide) (fun _ => ?_) (fun zc => absurd zc (by decide))
    refine lv_iload hx hb dL_law_551 (lv_at hl 0 rfl) ?_
    refine lv_iconst (v := nI 1) hx hb dL_law_553 (by decide) ?_
    refine z_icmp_ne (tgt := 568) F (by omega) (by omega) dL_law_554 (by decide) (fun _ => ?_) (fun zc => absurd zc (by decide))
    refine lv_iload hx hb dL_law_568 (lv_at hl 0 rfl) ?_
    refine lv_iconst (v := nI 5) hx hb dL_law_570 (by decide) ?_
    refine z_icmp_ne (tgt := 588) F (by omega) (by omega) dL_law_571 (by decide) (fun _ => ?_) (fun zc => absurd zc (by decide))
    refine lv_iload hx hb dL_law_588 (lv_at hl 9 rfl) ?_
    refine lv_sipush (v := nI 160) hx hb dL_law_590 (by decide) ?_
    refine z_div F (by omega) (by omega) (by omega) dL_law_593 ?_
    refine lv_iconst (v := nI 3) hx hb dL_law_594 (by decide) ?_
    refine z_rem F (by omega) (by omega) (by omega) dL_law_595 ?_
    refine lv_istore (lv' := [(14, .int (nI ((v / 160) % 3))), (13, .int (nI 2)), (0, .ref b), (1, .ref (ad 0)), (2, .ref (bd 0)), (3, .int (nI g)), (4, .int cs), (5, .int (nI 1)), (6, .int (nI i)), (8, .int (nI 13)), (9, .int (nI v)), (10, .int (nI st)), (11, .int (nI (sg g st))), (12, .int (nI (v / 4 % 40)))]) hx hb dL_law_596 hl (by decide) rfl (fun ls hl => ?_)
    refine lv_aload_n hx hb dL_law_598 rfl (lv_at hl 3 rfl) ?_
    refine lv_iload hx hb dL_law_599 (lv_at hl 1 rfl) ?_
    refine lv_iload hx hb dL_law_601 (lv_at hl 13 rfl) ?_
    refine lv_iload hx hb dL_law_603 (lv_at hl 6 rfl) ?_
    refine lv_irem hx hb dL_law_605 c3 ?_
    refine lv_iload hx hb dL_law_606 (lv_at hl 0 rfl) ?_
    refine tw_call (As := [.ref (ad 0), .int (nI 2), .int ((nI (v / 4 % 40)) - (nI (v / 4 % 40)) / cs * cs), .int (nI ((v / 160) % 3))]) (rest := []) F (c_L_does l hfl sa D k ad M O _ hI 2 (by decide) ((nI (v / 4 % 40)) - (nI (v / 4 % 40)) / cs * cs) (nI ((v / 160) % 3))) (vx_cwSW 4 hts gL_law_L_does rfl rfl rfl (by decide +kernel) ⟨Nat.le_of_ble_eq_true rfl, Nat.le_of_ble_eq_true rfl⟩) hK hN hE hP hD hS hA rfl hl.1 rfl (Nat.le_of_ble_eq_true rfl) dL_law_608 ⟨by show _ ≤ 623114; omega, by show _ ≤ 7232282; omega⟩ (fun ad5 H locs had hP hD hS => ?_)
    rw [← had 0 (by omega)] at hl
    refine lv_aload_n hx hb dL_law_611 rfl (lv_at hl 4 rfl) ?_
    refine lv_iload hx hb dL_law_612 (lv_at hl 1 rfl) ?_
    refine lv_iload hx hb dL_law_614 (lv_at hl 13 rfl) ?_
    refine lv_iload hx hb dL_law_616 (lv_at hl 6 rfl) ?_
    refine lv_irem hx hb dL_law_618 c3 ?_
    refine lv_iload hx hb dL_law_619 (lv_at hl 0 rfl) ?_
    replace hP := wPs hP
    replace hD := wDs hD
    refine tw_call (As := [.ref (bd 0), .int (nI 2), .int ((nI (v / 4 % 40)) - (nI (v / 4 % 40)) / cs * cs), .int (nI ((v / 160) % 3))]) (rest := [.int (rV (tdX M O 2 ((nI (v / 4 % 40)) - (nI (v / 4 % 40)) / cs * cs) (nI ((v / 160) % 3))) (tdV M O 2 ((nI (v / 4 % 40)) - (nI (v / 4 % 40)) / cs * cs) (nI ((v / 160) % 3))))]) F (c_L_does l hfl sa D k bd N P _ hJ 2 (by decide) ((nI (v / 4 % 40)) - (nI (v / 4 % 40)) / cs * cs) (nI ((v / 160) % 3))) (vx_cwSW 4 hts gL_law_L_does rfl rfl rfl (by decide +kernel) ⟨Nat.le_of_ble_eq_true rfl, Nat.le_of_ble_eq_true rfl⟩) hK hN hE hP hD hS hA rfl hl.1 rfl (Nat.le_of_ble_eq_true rfl) dL_law_621 ⟨by show _ ≤ 623114; omega, by show _ ≤ 7232282; omega⟩ (fun bd6 H locs had hP hD hS => ?_)
    rw [← had 0 (by omega)] at hl
    replace hP := wPs hP
    replace hD := wDs hD
    obtain ⟨hv1, hy1, hI1, hJ1⟩ := sy_does2 hy hI hJ (w := 2) (by decide) ((nI (v / 4 % 40)) - (nI (v / 4 % 40)) / cs * cs) (nI ((v / 160) % 3))
    refine lv_icmp_ne (tgt := 631) hx hb dL_law_624 (by decide) (fun zc => absurd (hv1.symm) zc) (fun _ => ?_)
    refine lv_iconst (v := nI 1) hx hb dL_law_627 (by decide) ?_
    refine lv_goto (tgt := 632) hx hb dL_law_628 (by decide) ?_
    refine lv_istore (lv' := [(5, .int (nI 1)), (14, .int (nI ((v / 160) % 3))), (13, .int (nI 2)), (0, .ref b), (1, .ref (ad5 0)), (2, .ref (bd6 0)), (3, .int (nI g)), (4, .int cs), (6, .int (nI i)), (8, .int (nI 13)), (9, .int (nI v)), (10, .int (nI st)), (11, .int (nI (sg g st))), (12, .int (nI (v / 4 % 40)))]) hx hb dL_law_632 hl (by decide) rfl (fun ls hl => ?_)
    refine W.widen (k := cells + 12) (n := slots + 70) (by omega) (by omega) ?_
    exact nx _ _ _ _ _ _ _ _ _ _ hy1 hI1 hJ1 hP hD hS (lv_sub hl [3, 4, 5, 6, 7, 0, 8, 10, 11, 12, 13] rfl)
  · exact lp_open F hK hN hE hfl hv hst hy hI hJ hP hD hS (lv_sub hl [0, 1, 2, 3, 4, 5, 6, 8, 9, 10, 11] rfl) hc1 hc2 nx
set_option maxRecDepth 100000 in
set_option maxHeartbeats 2000000 in
theorem lp_d3 {p : Program} {l : Launch} {e : Env} {s : State} {m : MethodId} {args : Array Value} {below : List Frame} {meth : Method} {c : Code} {cells slots : Nat} {Q : State → Prop} {D : va_G} {k : Nat → ClassId} {sa : Nat → Nat} {b g i st v : Nat} {ad bd : Nat → Nat} {M N : Nat → Nat → Nat} {O P : Nat → Nat → Int32} {cs : Int32} {H : Heap} {locs : List Loc} {ls : Array Slot} (F : CallFix p m c cL_law 16 s args wsL_law RL) (hK : va_K D vwCl (tyL k) s) (hN : lwN s) (hE : zE (fun q => s.heap.size ≤ q) sa s s.heap) (hfl : l.stackTraces = false) (hv : v < 1073741824) (hst : st < 4) (hy : Sy g M O N P) (hI : zInv M) (hJ : zInv N) (hP : va_P D vwCl (zw (20 + 2 * M 0 1) ad (cX k ad M O) ++ zw (20 + 2 * N 0 1) bd (cX k bd N P)) H) (hD : va_D (fun q => s.heap.size ≤ q) (zw (20 + 2 * M 0 1) ad (cX k ad M O) ++ zw (20 + 2 * N 0 1) bd (cX k bd N P))) (hS : va_S (fun q => s.heap.size ≤ q) s.heap H locs) (hl : lv_has ls 16 [(0, .ref b), (1, .ref (ad 0)), (2, .ref (bd 0)), (3, .int (nI g)), (4, .int cs), (5, .int (nI 1)), (6, .int (nI i)), (8, .int (nI 14)), (9, .int (nI v)), (10, .int (nI st)), (11, .int (nI (sg g st))), (12, .int (nI (v / 4 % 40)))])
    (hc1 : cells + 12 ≤ 623114) (hc2 : slots + 70 ≤ 7232282) (nx : ∀ (M N : Nat → Nat → Nat) (O P : Nat → Nat → Int32) (ad bd : Nat → Nat) (cs : Int32) (H : Heap) (locs : List Loc) (ls : Array Slot), Sy g M O N P → zInv M → zInv N → va_P D vwCl (zw (20 + 2 * M 0 1) ad (cX k ad M O) ++ zw (20 + 2 * N 0 1) bd (cX k bd N P)) H → va_D (fun q => s.heap.size ≤ q) (zw (20 + 2 * M 0 1) ad (cX k ad M O) ++ zw (20 + 2 * N 0 1) bd (cX k bd N P)) → va_S (fun q => s.heap.size ≤ q) s.heap H locs → lv_has ls 16 [(0, .ref b), (1, .ref (ad 0)), (2, .ref (bd 0)), (3, .int (nI g)), (4, .int cs), (5, .int (nI 1)), (6, .int (nI i)), (9, .int (nI v)), (10, .int (nI st)), (11, .int (nI (sg g st))), (12, .int (nI (v / 4 % 40)))] → W p l e room_1 s m args below meth c H locs (cells + 12) (slots + 70) Q (F0 m 634 ls [])) : W p l e room_1 s m args below meth c H locs cells slots Q (F0 m 112 ls []) := by
  have hx := F.1
  have hb := F.2.1
  have hts := F.2.2.2.2
  have hA : ∀ q : Nat, s.heap.size ≤ q → (fun q => s.heap.size ≤ q) q := fun _ h => h
  refine lv_iload hx hb dL_law_112 (lv_at hl 7 rfl) ?_
  refine lv_iconst (v := nI 2) hx hb dL_law_114 (by decide) ?_
  refine z_icmp_ge (tgt := 238) F (by omega) (by omega) dL_law_115 (by decide) (fun _ => ?_) (fun zc => absurd zc (by decide))
  refine lv_iload hx hb dL_law_238 (lv_at hl 7 rfl) ?_
  refine lv_iconst (v := nI 2) hx hb dL_law_240 (by decide) ?_
  refine z_icmp_ne (tgt := 309) F (by omega) (by omega) dL_law_241 (by decide) (fun _ => ?_) (fun zc => absurd zc (by decide))
  refine lv_iload hx hb dL_law_309 (lv_at hl 7 rfl) ?_
  refine lv_bipush (v := nI 7) hx hb dL_law_311 (by decide) ?_
  refine z_icmp_ge (tgt := 383) F (by omega) (by omega) dL_law_313 (by decide) (fun _ => ?_) (fun zc => absurd zc (by decide))
  refine lv_iload hx hb dL_law_383 (lv_at hl 7 rfl) ?_
  refine lv_bipush (v := nI 7) hx hb dL_law_385 (by decide) ?_
  refine z_icmp_ne (tgt := 429) F (by omega) (by omega) dL_law_387 (by decide) (fun _ => ?_) (fun zc => absurd zc (by decide))
  refine lv_iload hx hb dL_law_429 (lv_at hl 7 rfl) ?_
  refine lv_bipush (v := nI 11) hx hb dL_law_431 (by decide) ?_
  refine z_icmp_lt (tgt := 441) F (by omega) (by omega) dL_law_433 (by decide) (fun zc => absurd zc (by decide)) (fun _ => ?_)
  refine lv_iload hx hb dL_law_436 (lv_at hl 4 rfl) ?_
  refine lv_if_ne (tgt := 515) hx hb dL_law_438 (by decide) (fun c4 => ?_) (fun c4 => ?_)
  · refine lv_iload hx hb dL_law_515 (lv_at hl 7 rfl) ?_
    refine lv_bipush (v := nI 17) hx hb dL_law_517 (by decide) ?_
    refine z_icmp_ne (tgt := 526) F (by omega) (by omega) dL_law_519 (by decide) (fun _ => ?_) (fun zc => absurd zc (by decide))
    refine lv_iload hx hb dL_law_526 (lv_at hl 7 rfl) ?_
    refine lv_bipush (v := nI 11) hx hb dL_law_528 (by decide) ?_
    refine z_sub F (by omega) dL_law_530 ?_
    refine z_top (show nI (14 - 11) = nI 3 from rfl) ?_
    refine lv_istore (lv' := [(13, .int (nI 3)), (0, .ref b), (1, .ref (ad 0)), (2, .ref (bd 0)), (3, .int (nI g)), (4, .int cs), (5, .int (nI 1)), (6, .int (nI i)), (8, .int (nI 14)), (9, .int (nI v)), (10, .int (nI st)), (11, .int (nI (sg g st))), (12, .int (nI (v / 4 % 40)))]) hx hb dL_law_531 hl (by decide) rfl (fun ls hl => ?_)
    refine lv_iload hx hb dL_law_533 (lv_at hl 0 rfl) ?_
    refine lv_iconst (v := nI 3) hx hb dL_law_535 (by decide) ?_
    refine z_icmp_ne (tgt := 551) F (by omega) (by omega) dL_law_536 (by decide) (fun zc => absurd zc (by decide)) (fun _ => ?_)
    refine lv_iload hx hb dL_law_539 (lv_at hl 9 rfl) ?_
    refine lv_sipush (v := nI 160) hx hb dL_law_541 (by decide) ?_
    refine z_div F (by omega) (by omega) (by omega) dL_law_544 ?_
    refine lv_iload hx hb dL_law_545 (lv_at hl 5 rfl) ?_
    refine lv_irem hx hb dL_law_547 c4 ?_
    refine lv_goto (tgt := 596) hx hb dL_law_548 (by decide) ?_
    refine lv_istore (lv' := [(14, .int ((nI (v / 160)) - (nI (v / 160)) / cs * cs)), (13, .int (nI 3)), (0, .ref b), (1, .ref (ad 0)), (2, .ref (bd 0)), (3, .int (nI g)), (4, .int cs), (5, .int (nI 1)), (6, .int (nI i)), (8, .int (nI 14)), (9, .int (nI v)), (10, .int (nI st)), (11, .int (nI (sg g st))), (12, .int (nI (v / 4 % 40)))]) hx hb dL_law_596 hl (by decide) rfl (fun ls hl => ?_)
    refine lv_aload_n hx hb dL_law_598 rfl (lv_at hl 3 rfl) ?_
    refine lv_iload hx hb dL_law_599 (lv_at hl 1 rfl) ?_
    refine lv_iload hx hb dL_law_601 (lv_at hl 13 rfl) ?_
    refine lv_iload hx hb dL_law_603 (lv_at hl 6 rfl) ?_
    refine lv_irem hx hb dL_law_605 c4 ?_
    refine lv_iload hx hb dL_law_606 (lv_at hl 0 rfl) ?_
    refine tw_call (As := [.ref (ad 0), .int (nI 3), .int ((nI (v / 4 % 40)) - (nI (v / 4 % 40)) / cs * cs), .int ((nI (v / 160)) - (nI (v / 160)) / cs * cs)]) (rest := []) F (c_L_does l hfl sa D k ad M O _ hI 3 (by decide) ((nI (v / 4 % 40)) - (nI (v / 4 % 40)) / cs * cs) ((nI (v / 160)) - (nI (v / 160)) / cs * cs)) (vx_cwSW 4 hts gL_law_L_does rfl rfl rfl (by decide +kernel) ⟨Nat.le_of_ble_eq_true rfl, Nat.le_of_ble_eq_true rfl⟩) hK hN hE hP hD hS hA rfl hl.1 rfl (Nat.le_of_ble_eq_true rfl) dL_law_608 ⟨by show _ ≤ 623114; omega, by show _ ≤ 7232282; omega⟩ (fun ad7 H locs had hP hD hS => ?_)
    rw [← had 0 (by omega)] at hl
    refine lv_aload_n hx hb dL_law_611 rfl (lv_at hl 4 rfl) ?_
    refine lv_iload hx hb dL_law_612 (lv_at hl 1 rfl) ?_
    refine lv_iload hx hb dL_law_614 (lv_at hl 13 rfl) ?_
    refine lv_iload hx hb dL_law_616 (lv_at hl 6 rfl) ?_
    refine lv_irem hx hb dL_law_618 c4 ?_
    refine lv_iload hx hb dL_law_619 (lv_at hl 0 rfl) ?_
    replace hP := wPs hP
    replace hD := wDs hD
    refine tw_call (As := [.ref (bd 0), .int (nI 3), .int ((nI (v / 4 % 40)) - (nI (v / 4 % 40)) / cs * cs), .int ((nI (v / 160)) - (nI (v / 160)) / cs * cs)]) (rest := [.int (rV (tdX M O 3 ((nI (v / 4 % 40)) - (nI (v / 4 % 40)) / cs * cs) ((nI (v / 160)) - (nI (v / 160)) / cs * cs)) (tdV M O 3 ((nI (v / 4 % 40)) - (nI (v / 4 % 40)) / cs * cs) ((nI (v / 160)) - (nI (v / 160)) / cs * cs)))]) F (c_L_does l hfl sa D k bd N P _ hJ 3 (by decide) ((nI (v / 4 % 40)) - (nI (v / 4 % 40)) / cs * cs) ((nI (v / 160)) - (nI (v / 160)) / cs * cs)) (vx_cwSW 4 hts gL_law_L_does rfl rfl rfl (by decide +kernel) ⟨Nat.le_of_ble_eq_true rfl, Nat.le_of_ble_eq_true rfl⟩) hK hN hE hP hD hS hA rfl hl.1 rfl (Nat.le_of_ble_eq_true rfl) dL_law_621 ⟨by show _ ≤ 623114; omega, by show _ ≤ 7232282; omega⟩ (fun bd8 H locs had hP hD hS => ?_)
    rw [← had 0 (by omega)] at hl
    replace hP := wPs hP
    replace hD := wDs hD
    obtain ⟨hv1, hy1, hI1, hJ1⟩ := sy_does2 hy hI hJ (w := 3) (by decide) ((nI (v / 4 % 40)) - (nI (v / 4 % 40)) / cs * cs) ((nI (v / 160)) - (nI (v / 160)) / cs * cs)
    refine lv_icmp_ne (tgt := 631) hx hb dL_law_624 (by decide) (fun zc => absurd (hv1.symm) zc) (fun _ => ?_)
    refine lv_iconst (v := nI 1) hx hb dL_law_627 (by decide) ?_
    refine lv_goto (tgt := 632) hx hb dL_law_628 (by decide) ?_
    refine lv_istore (lv' := [(5, .int (nI 1)), (14, .int ((nI (v / 160)) - (nI (v / 160)) / cs * cs)), (13, .int (nI 3)), (0, .ref b), (1, .ref (ad7 0)), (2, .ref (bd8 0)), (3, .int (nI g)), (4, .int cs), (6, .int (nI i)), (8, .int (nI 14)), (9, .int (nI v)), (10, .int (nI st)), (11, .int (nI (sg g st))), (12, .int (nI (v / 4 % 40)))]) hx hb dL_law_632 hl (by decide) rfl (fun ls hl => ?_)
    refine W.widen (k := cells + 12) (n := slots + 70) (by omega) (by omega) ?_
    exact nx _ _ _ _ _ _ _ _ _ _ hy1 hI1 hJ1 hP hD hS (lv_sub hl [3, 4, 5, 6, 7, 0, 8, 10, 11, 12, 13] rfl)
  · exact lp_open F hK hN hE hfl hv hst hy hI hJ hP hD hS (lv_sub hl [0, 1, 2, 3, 4, 5, 6, 8, 9, 10, 11] rfl) hc1 hc2 nx
set_option maxRecDepth 100000 in
set_option maxHeartbeats 2000000 in
theorem lp_d4 {p : Program} {l : Launch} {e : Env} {s : State} {m : MethodId} {args : Array Value} {below : List Frame} {meth : Method} {c : Code} {cells slots : Nat} {Q : State → Prop} {D : va_G} {k : Nat → ClassId} {sa : Nat → Nat} {b g i st v : Nat} {ad bd : Nat → Nat} {M N : Nat → Nat → Nat} {O P : Nat → Nat → Int32} {cs : Int32} {H : Heap} {locs : List Loc} {ls : Array Slot} (F : CallFix p m c cL_law 16 s args wsL_law RL) (hK : va_K D vwCl (tyL k) s) (hN : lwN s) (hE : zE (fun q => s.heap.size ≤ q) sa s s.heap) (hfl : l.stackTraces = false) (hv : v < 1073741824) (hst : st < 4) (hy : Sy g M O N P) (hI : zInv M) (hJ : zInv N) (hP : va_P D vwCl (zw (20 + 2 * M 0 1) ad (cX k ad M O) ++ zw (20 + 2 * N 0 1) bd (cX k bd N P)) H) (hD : va_D (fun q => s.heap.size ≤ q) (zw (20 + 2 * M 0 1) ad (cX k ad M O) ++ zw (20 + 2 * N 0 1) bd (cX k bd N P))) (hS : va_S (fun q => s.heap.size ≤ q) s.heap H locs) (hl : lv_has ls 16 [(0, .ref b), (1, .ref (ad 0)), (2, .ref (bd 0)), (3, .int (nI g)), (4, .int cs), (5, .int (nI 1)), (6, .int (nI i)), (8, .int (nI 15)), (9, .int (nI v)), (10, .int (nI st)), (11, .int (nI (sg g st))), (12, .int (nI (v / 4 % 40)))])
    (hc1 : cells + 12 ≤ 623114) (hc2 : slots + 70 ≤ 7232282) (nx : ∀ (M N : Nat → Nat → Nat) (O P : Nat → Nat → Int32) (ad bd : Nat → Nat) (cs : Int32) (H : Heap) (locs : List Loc) (ls : Array Slot), Sy g M O N P → zInv M → zInv N → va_P D vwCl (zw (20 + 2 * M 0 1) ad (cX k ad M O) ++ zw (20 + 2 * N 0 1) bd (cX k bd N P)) H → va_D (fun q => s.heap.size ≤ q) (zw (20 + 2 * M 0 1) ad (cX k ad M O) ++ zw (20 + 2 * N 0 1) bd (cX k bd N P)) → va_S (fun q => s.heap.size ≤ q) s.heap H locs → lv_has ls 16 [(0, .ref b), (1, .ref (ad 0)), (2, .ref (bd 0)), (3, .int (nI g)), (4, .int cs), (5, .int (nI 1)), (6, .int (nI i)), (9, .int (nI v)), (10, .int (nI st)), (11, .int (nI (sg g st))), (12, .int (nI (v / 4 % 40)))] → W p l e room_1 s m args below meth c H locs (cells + 12) (slots + 70) Q (F0 m 634 ls [])) : W p l e room_1 s m args below meth c H locs cells slots Q (F0 m 112 ls []) := by
  have hx := F.1
  have hb := F.2.1
  have hts := F.2.2.2.2
  have hA : ∀ q : Nat, s.heap.size ≤ q → (fun q => s.heap.size ≤ q) q := fun _ h => h
  refine lv_iload hx hb dL_law_112 (lv_at hl 7 rfl) ?_
  refine lv_iconst (v := nI 2) hx hb dL_law_114 (by decide) ?_
  refine z_icmp_ge (tgt := 238) F (by omega) (by omega) dL_law_115 (by decide) (fun _ => ?_) (fun zc => absurd zc (by decide))
  refine lv_iload hx hb dL_law_238 (lv_at hl 7 rfl) ?_
  refine lv_iconst (v := nI 2) hx hb dL_law_240 (by decide) ?_
  refine z_icmp_ne (tgt := 309) F (by omega) (by omega) dL_law_241 (by decide) (fun _ => ?_) (fun zc => absurd zc (by decide))
  refine lv_iload hx hb dL_law_309 (lv_at hl 7 rfl) ?_
  refine lv_bipush (v := nI 7) hx hb dL_law_311 (by decide) ?_
  refine z_icmp_ge (tgt := 383) F (by omega) (by omega) dL_law_313 (by decide) (fun _ => ?_) (fun zc => absurd zc (by decide))
  refine lv_iload hx hb dL_law_383 (lv_at hl 7 rfl) ?_
  refine lv_bipush (v := nI 7) hx hb dL_law_385 (by decide) ?_
  refine z_icmp_ne (tgt := 429) F (by omega) (by omega) dL_law_387 (by decide) (fun _ => ?_) (fun zc => absurd zc (by decide))
  refine lv_iload hx hb dL_law_429 (lv_at hl 7 rfl) ?_
  refine lv_bipush (v := nI 11) hx hb dL_law_431 (by decide) ?_
  refine z_icmp_lt (tgt := 441) F (by omega) (by omega) dL_law_433 (by decide) (fun zc => absurd zc (by decide)) (fun _ => ?_)
  refine lv_iload hx hb dL_law_436 (lv_at hl 4 rfl) ?_
  refine lv_if_ne (tgt := 515) hx hb dL_law_438 (by decide) (fun c5 => ?_) (fun c5 => ?_)
  · refine lv_iload hx hb dL_law_515 (lv_at hl 7 rfl) ?_
    refine lv_bipush (v := nI 17) hx hb dL_law_517 (by decide) ?_
    refine z_icmp_ne (tgt := 526) F (by omega) (by omega) dL_law_519 (by decide) (fun _ => ?_) (fun zc => absurd zc (by decide))
    refine lv_iload hx hb dL_law_526 (lv_at hl 7 rfl) ?_
    refine lv_bipush (v := nI 11) hx hb dL_law_528 (by decide) ?_
    refine z_sub F (by omega) dL_law_530 ?_
    refine z_top (show nI (15 - 11) = nI 4 from rfl) ?_
    refine lv_istore (lv' := [(13, .int (nI 4)), (0, .ref b), (1, .ref (ad 0)), (2, .ref (bd 0)), (3, .int (nI g)), (4, .int cs), (5, .int (nI 1)), (6, .int (nI i)), (8, .int (nI 15)), (9, .int (nI v)), (10, .int (nI st)), (11, .int (nI (sg g st))), (12, .int (nI (v / 4 % 40)))]) hx hb dL_law_531 hl (by decide) rfl (fun ls hl => ?_)
    refine lv_iload hx hb dL_law_533 (lv_at hl 0 rfl) ?_
    refine lv_iconst (v := nI 3) hx hb dL_law_535 (by decide) ?_
    refine z_icmp_ne (tgt := 551) F (by omega) (by omega) dL_law_536 (by decide) (fun _ => ?_) (fun zc => absurd zc (by decide))
    refine lv_iload hx hb dL_law_551 (lv_at hl 0 rfl) ?_
    refine lv_iconst (v := nI 1) hx hb dL_law_553 (by decide) ?_
    refine z_icmp_ne (tgt := 568) F (by omega) (by omega) dL_law_554 (by decide) (fun _ => ?_) (fun zc => absurd zc (by decide))
    refine lv_iload hx hb dL_law_568 (lv_at hl 0 rfl) ?_
    refine lv_iconst (v := nI 5) hx hb dL_law_570 (by decide) ?_
    refine z_icmp_ne (tgt := 588) F (by omega) (by omega) dL_law_571 (by decide) (fun _ => ?_) (fun zc => absurd zc (by decide))
    refine lv_iload hx hb dL_law_588 (lv_at hl 9 rfl) ?_
    refine lv_sipush (v := nI 160) hx hb dL_law_590 (by decide) ?_
    refine z_div F (by omega) (by omega) (by omega) dL_law_593 ?_
    refine lv_iconst (v := nI 3) hx hb dL_law_594 (by decide) ?_
    refine z_rem F (by omega) (by omega) (by omega) dL_law_595 ?_
    refine lv_istore (lv' := [(14, .int (nI ((v / 160) % 3))), (13, .int (nI 4)), (0, .ref b), (1, .ref (ad 0)), (2, .ref (bd 0)), (3, .int (nI g)), (4, .int cs), (5, .int (nI 1)), (6, .int (nI i)), (8, .int (nI 15)), (9, .int (nI v)), (10, .int (nI st)), (11, .int (nI (sg g st))), (12, .int (nI (v / 4 % 40)))]) hx hb dL_law_596 hl (by decide) rfl (fun ls hl => ?_)
    refine lv_aload_n hx hb dL_law_598 rfl (lv_at hl 3 rfl) ?_
    refine lv_iload hx hb dL_law_599 (lv_at hl 1 rfl) ?_
    refine lv_iload hx hb dL_law_601 (lv_at hl 13 rfl) ?_
    refine lv_iload hx hb dL_law_603 (lv_at hl 6 rfl) ?_
    refine lv_irem hx hb dL_law_605 c5 ?_
    refine lv_iload hx hb dL_law_606 (lv_at hl 0 rfl) ?_
    refine tw_call (As := [.ref (ad 0), .int (nI 4), .int ((nI (v / 4 % 40)) - (nI (v / 4 % 40)) / cs * cs), .int (nI ((v / 160) % 3))]) (rest := []) F (c_L_does l hfl sa D k ad M O _ hI 4 (by decide) ((nI (v / 4 % 40)) - (nI (v / 4 % 40)) / cs * cs) (nI ((v / 160) % 3))) (vx_cwSW 4 hts gL_law_L_does rfl rfl rfl (by decide +kernel) ⟨Nat.le_of_ble_eq_true rfl, Nat.le_of_ble_eq_true rfl⟩) hK hN hE hP hD hS hA rfl hl.1 rfl (Nat.le_of_ble_eq_true rfl) dL_law_608 ⟨by show _ ≤ 623114; omega, by show _ ≤ 7232282; omega⟩ (fun ad9 H locs had hP hD hS => ?_)
    rw [← had 0 (by omega)] at hl
    refine lv_aload_n hx hb dL_law_611 rfl (lv_at hl 4 rfl) ?_
    refine lv_iload hx hb dL_law_612 (lv_at hl 1 rfl) ?_
    refine lv_iload hx hb dL_law_614 (lv_at hl 13 rfl) ?_
    refine lv_iload hx hb dL_law_616 (lv_at hl 6 rfl) ?_
    refine lv_irem hx hb dL_law_618 c5 ?_
    refine lv_iload hx hb dL_law_619 (lv_at hl 0 rfl) ?_
    replace hP := wPs hP
    replace hD := wDs hD
    refine tw_call (As := [.ref (bd 0), .int (nI 4), .int ((nI (v / 4 % 40)) - (nI (v / 4 % 40)) / cs * cs), .int (nI ((v / 160) % 3))]) (rest := [.int (rV (tdX M O 4 ((nI (v / 4 % 40)) - (nI (v / 4 % 40)) / cs * cs) (nI ((v / 160) % 3))) (tdV M O 4 ((nI (v / 4 % 40)) - (nI (v / 4 % 40)) / cs * cs) (nI ((v / 160) % 3))))]) F (c_L_does l hfl sa D k bd N P _ hJ 4 (by decide) ((nI (v / 4 % 40)) - (nI (v / 4 % 40)) / cs * cs) (nI ((v / 160) % 3))) (vx_cwSW 4 hts gL_law_L_does rfl rfl rfl (by decide +kernel) ⟨Nat.le_of_ble_eq_true rfl, Nat.le_of_ble_eq_true rfl⟩) hK hN hE hP hD hS hA rfl hl.1 rfl (Nat.le_of_ble_eq_true rfl) dL_law_621 ⟨by show _ ≤ 623114; omega, by show _ ≤ 7232282; omega⟩ (fun bd10 H locs had hP hD hS => ?_)
    rw [← had 0 (by omega)] at hl
    replace hP := wPs hP
    replace hD := wDs hD
    obtain ⟨hv1, hy1, hI1, hJ1⟩ := sy_does2 hy hI hJ (w := 4) (by decide) ((nI (v / 4 % 40)) - (nI (v / 4 % 40)) / cs * cs) (nI ((v / 160) % 3))
    refine lv_icmp_ne (tgt := 631) hx hb dL_law_624 (by decide) (fun zc => absurd (hv1.symm) zc) (fun _ => ?_)
    refine lv_iconst (v := nI 1) hx hb dL_law_627 (by decide) ?_
    refine lv_goto (tgt := 632) hx hb dL_law_628 (by decide) ?_
    refine lv_istore (lv' := [(5, .int (nI 1)), (14, .int (nI ((v / 160) % 3))), (13, .int (nI 4)), (0, .ref b), (1, .ref (ad9 0)), (2, .ref (bd10 0)), (3, .int (nI g)), (4, .int cs), (6, .int (nI i)), (8, .int (nI 15)), (9, .int (nI v)), (10, .int (nI st)), (11, .int (nI (sg g st))), (12, .int (nI (v / 4 % 40)))]) hx hb dL_law_632 hl (by decide) rfl (fun ls hl => ?_)
    refine W.widen (k := cells + 12) (n := slots + 70) (by omega) (by omega) ?_
    exact nx _ _ _ _ _ _ _ _ _ _ hy1 hI1 hJ1 hP hD hS (lv_sub hl [3, 4, 5, 6, 7, 0, 8, 10, 11, 12, 13] rfl)
  · exact lp_open F hK hN hE hfl hv hst hy hI hJ hP hD hS (lv_sub hl [0, 1, 2, 3, 4, 5, 6, 8, 9, 10, 11] rfl) hc1 hc2 nx
set_option maxRecDepth 100000 in
set_option maxHeartbeats 2000000 in
theorem lp_d5 {p : Program} {l : Launch} {e : Env} {s : State} {m : MethodId} {args : Array Value} {below : List Frame} {meth : Method} {c : Code} {cells slots : Nat} {Q : State → Prop} {D : va_G} {k : Nat → ClassId} {sa : Nat → Nat} {b g i st v : Nat} {ad bd : Nat → Nat} {M N : Nat → Nat → Nat} {O P : Nat → Nat → Int32} {cs : Int32} {H : Heap} {locs : List Loc} {ls : Array Slot} (F : CallFix p m c cL_law 16 s args wsL_law RL) (hK : va_K D vwCl (tyL k) s) (hN : lwN s) (hE : zE (fun q => s.heap.size ≤ q) sa s s.heap) (hfl : l.stackTraces = false) (hv : v < 1073741824) (hst : st < 4) (hy : Sy g M O N P) (hI : zInv M) (hJ : zInv N) (hP : va_P D vwCl (zw (20 + 2 * M 0 1) ad (cX k ad M O) ++ zw (20 + 2 * N 0 1) bd (cX k bd N P)) H) (hD : va_D (fun q => s.heap.size ≤ q) (zw (20 + 2 * M 0 1) ad (cX k ad M O) ++ zw (20 + 2 * N 0 1) bd (cX k bd N P))) (hS : va_S (fun q => s.heap.size ≤ q) s.heap H locs) (hl : lv_has ls 16 [(0, .ref b), (1, .ref (ad 0)), (2, .ref (bd 0)), (3, .int (nI g)), (4, .int cs), (5, .int (nI 1)), (6, .int (nI i)), (8, .int (nI 16)), (9, .int (nI v)), (10, .int (nI st)), (11, .int (nI (sg g st))), (12, .int (nI (v / 4 % 40)))])
    (hc1 : cells + 12 ≤ 623114) (hc2 : slots + 70 ≤ 7232282) (nx : ∀ (M N : Nat → Nat → Nat) (O P : Nat → Nat → Int32) (ad bd : Nat → Nat) (cs : Int32) (H : Heap) (locs : List Loc) (ls : Array Slot), Sy g M O N P → zInv M → zInv N → va_P D vwCl (zw (20 + 2 * M 0 1) ad (cX k ad M O) ++ zw (20 + 2 * N 0 1) bd (cX k bd N P)) H → va_D (fun q => s.heap.size ≤ q) (zw (20 + 2 * M 0 1) ad (cX k ad M O) ++ zw (20 + 2 * N 0 1) bd (cX k bd N P)) → va_S (fun q => s.heap.size ≤ q) s.heap H locs → lv_has ls 16 [(0, .ref b), (1, .ref (ad 0)), (2, .ref (bd 0)), (3, .int (nI g)), (4, .int cs), (5, .int (nI 1)), (6, .int (nI i)), (9, .int (nI v)), (10, .int (nI st)), (11, .int (nI (sg g st))), (12, .int (nI (v / 4 % 40)))] → W p l e room_1 s m args below meth c H locs (cells + 12) (slots + 70) Q (F0 m 634 ls [])) : W p l e room_1 s m args below meth c H locs cells slots Q (F0 m 112 ls []) := by
  have hx := F.1
  have hb := F.2.1
  have hts := F.2.2.2.2
  have hA : ∀ q : Nat, s.heap.size ≤ q → (fun q => s.heap.size ≤ q) q := fun _ h => h
  refine lv_iload hx hb dL_law_112 (lv_at hl 7 rfl) ?_
  refine lv_iconst (v := nI 2) hx hb dL_law_114 (by decide) ?_
  refine z_icmp_ge (tgt := 238) F (by omega) (by omega) dL_law_115 (by decide) (fun _ => ?_) (fun zc => absurd zc (by decide))
  refine lv_iload hx hb dL_law_238 (lv_at hl 7 rfl) ?_
  refine lv_iconst (v := nI 2) hx hb dL_law_240 (by decide) ?_
  refine z_icmp_ne (tgt := 309) F (by omega) (by omega) dL_law_241 (by decide) (fun _ => ?_) (fun zc => absurd zc (by decide))
  refine lv_iload hx hb dL_law_309 (lv_at hl 7 rfl) ?_
  refine lv_bipush (v := nI 7) hx hb dL_law_311 (by decide) ?_
  refine z_icmp_ge (tgt := 383) F (by omega) (by omega) dL_law_313 (by decide) (fun _ => ?_) (fun zc => absurd zc (by decide))
  refine lv_iload hx hb dL_law_383 (lv_at hl 7 rfl) ?_
  refine lv_bipush (v := nI 7) hx hb dL_law_385 (by decide) ?_
  refine z_icmp_ne (tgt := 429) F (by omega) (by omega) dL_law_387 (by decide) (fun _ => ?_) (fun zc => absurd zc (by decide))
  refine lv_iload hx hb dL_law_429 (lv_at hl 7 rfl) ?_
  refine lv_bipush (v := nI 11) hx hb dL_law_431 (by decide) ?_
  refine z_icmp_lt (tgt := 441) F (by omega) (by omega) dL_law_433 (by decide) (fun zc => absurd zc (by decide)) (fun _ => ?_)
  refine lv_iload hx hb dL_law_436 (lv_at hl 4 rfl) ?_
  refine lv_if_ne (tgt := 515) hx hb dL_law_438 (by decide) (fun c6 => ?_) (fun c6 => ?_)
  · refine lv_iload hx hb dL_law_515 (lv_at hl 7 rfl) ?_
    refine lv_bipush (v := nI 17) hx hb dL_law_517 (by decide) ?_
    refine z_icmp_ne (tgt := 526) F (by omega) (by omega) dL_law_519 (by decide) (fun _ => ?_) (fun zc => absurd zc (by decide))
    refine lv_iload hx hb dL_law_526 (lv_at hl 7 rfl) ?_
    refine lv_bipush (v := nI 11) hx hb dL_law_528 (by decide) ?_
    refine z_sub F (by omega) dL_law_530 ?_
    refine z_top (show nI (16 - 11) = nI 5 from rfl) ?_
    refine lv_istore (lv' := [(13, .int (nI 5)), (0, .ref b), (1, .ref (ad 0)), (2, .ref (bd 0)), (3, .int (nI g)), (4, .int cs), (5, .int (nI 1)), (6, .int (nI i)), (8, .int (nI 16)), (9, .int (nI v)), (10, .int (nI st)), (11, .int (nI (sg g st))), (12, .int (nI (v / 4 % 40)))]) hx hb dL_law_531 hl (by decide) rfl (fun ls hl => ?_)
    refine lv_iload hx hb dL_law_533 (lv_at hl 0 rfl) ?_
    refine lv_iconst (v := nI 3) hx hb dL_law_535 (by decide) ?_
    refine z_icmp_ne (tgt := 551) F (by omega) (by omega) dL_law_536 (by decide) (fun _ => ?_) (fun zc => absurd zc (by decide))
    refine lv_iload hx hb dL_law_551 (lv_at hl 0 rfl) ?_
    refine lv_iconst (v := nI 1) hx hb dL_law_553 (by decide) ?_
    refine z_icmp_ne (tgt := 568) F (by omega) (by omega) dL_law_554 (by decide) (fun _ => ?_) (fun zc => absurd zc (by decide))
    refine lv_iload hx hb dL_law_568 (lv_at hl 0 rfl) ?_
    refine lv_iconst (v := nI 5) hx hb dL_law_570 (by decide) ?_
    refine z_icmp_ne (tgt := 588) F (by omega) (by omega) dL_law_571 (by decide) (fun zc => absurd zc (by decide)) (fun _ => ?_)
    refine lv_iconst (v := nI 1) hx hb dL_law_574 (by decide) ?_
    refine lv_iload hx hb dL_law_575 (lv_at hl 9 rfl) ?_
    refine lv_sipush (v := nI 160) hx hb dL_law_577 (by decide) ?_
    refine z_div F (by omega) (by omega) (by omega) dL_law_580 ?_
    refine lv_bipush (v := nI 30) hx hb dL_law_581 (by decide) ?_
    refine z_rem F (by omega) (by omega) (by omega) dL_law_583 ?_
    refine z_add F dL_law_584 ?_
    refine lv_goto (tgt := 596) hx hb dL_law_585 (by decide) ?_
    refine lv_istore (lv' := [(14, .int (nI (1 + ((v / 160) % 30)))), (13, .int (nI 5)), (0, .ref b), (1, .ref (ad 0)), (2, .ref (bd 0)), (3, .int (nI g)), (4, .int cs), (5, .int (nI 1)), (6, .int (nI i)), (8, .int (nI 16)), (9, .int (nI v)), (10, .int (nI st)), (11, .int (nI (sg g st))), (12, .int (nI (v / 4 % 40)))]) hx hb dL_law_596 hl (by decide) rfl (fun ls hl => ?_)
    refine lv_aload_n hx hb dL_law_598 rfl (lv_at hl 3 rfl) ?_
    refine lv_iload hx hb dL_law_599 (lv_at hl 1 rfl) ?_
    refine lv_iload hx hb dL_law_601 (lv_at hl 13 rfl) ?_
    refine lv_iload hx hb dL_law_603 (lv_at hl 6 rfl) ?_
    refine lv_irem hx hb dL_law_605 c6 ?_
    refine lv_iload hx hb dL_law_606 (lv_at hl 0 rfl) ?_
    refine tw_call (As := [.ref (ad 0), .int (nI 5), .int ((nI (v / 4 % 40)) - (nI (v / 4 % 40)) / cs * cs), .int (nI (1 + ((v / 160) % 30)))]) (rest := []) F (c_L_does l hfl sa D k ad M O _ hI 5 (by decide) ((nI (v / 4 % 40)) - (nI (v / 4 % 40)) / cs * cs) (nI (1 + ((v / 160) % 30)))) (vx_cwSW 4 hts gL_law_L_does rfl rfl rfl (by decide +kernel) ⟨Nat.le_of_ble_eq_true rfl, Nat.le_of_ble_eq_true rfl⟩) hK hN hE hP hD hS hA rfl hl.1 rfl (Nat.le_of_ble_eq_true rfl) dL_law_608 ⟨by show _ ≤ 623114; omega, by show _ ≤ 7232282; omega⟩ (fun ad11 H locs had hP hD hS => ?_)
    rw [← had 0 (by omega)] at hl
    refine lv_aload_n hx hb dL_law_611 rfl (lv_at hl 4 rfl) ?_
    refine lv_iload hx hb dL_law_612 (lv_at hl 1 rfl) ?_
    refine lv_iload hx hb dL_law_614 (lv_at hl 13 rfl) ?_
    refine lv_iload hx hb dL_law_616 (lv_at hl 6 rfl) ?_
    refine lv_irem hx hb dL_law_618 c6 ?_
    refine lv_iload hx hb dL_law_619 (lv_at hl 0 rfl) ?_
    replace hP := wPs hP
    replace hD := wDs hD
    refine tw_call (As := [.ref (bd 0), .int (nI 5), .int ((nI (v / 4 % 40)) - (nI (v / 4 % 40)) / cs * cs), .int (nI (1 + ((v / 160) % 30)))]) (rest := [.int (rV (tdX M O 5 ((nI (v / 4 % 40)) - (nI (v / 4 % 40)) / cs * cs) (nI (1 + ((v / 160) % 30)))) (tdV M O 5 ((nI (v / 4 % 40)) - (nI (v / 4 % 40)) / cs * cs) (nI (1 + ((v / 160) % 30)))))]) F (c_L_does l hfl sa D k bd N P _ hJ 5 (by decide) ((nI (v / 4 % 40)) - (nI (v / 4 % 40)) / cs * cs) (nI (1 + ((v / 160) % 30)))) (vx_cwSW 4 hts gL_law_L_does rfl rfl rfl (by decide +kernel) ⟨Nat.le_of_ble_eq_true rfl, Nat.le_of_ble_eq_true rfl⟩) hK hN hE hP hD hS hA rfl hl.1 rfl (Nat.le_of_ble_eq_true rfl) dL_law_621 ⟨by show _ ≤ 623114; omega, by show _ ≤ 7232282; omega⟩ (fun bd12 H locs had hP hD hS => ?_)
    rw [← had 0 (by omega)] at hl
    replace hP := wPs hP
    replace hD := wDs hD
    obtain ⟨hv1, hy1, hI1, hJ1⟩ := sy_does2 hy hI hJ (w := 5) (by decide) ((nI (v / 4 % 40)) - (nI (v / 4 % 40)) / cs * cs) (nI (1 + ((v / 160) % 30)))
    refine lv_icmp_ne (tgt := 631) hx hb dL_law_624 (by decide) (fun zc => absurd (hv1.symm) zc) (fun _ => ?_)
    refine lv_iconst (v := nI 1) hx hb dL_law_627 (by decide) ?_
    refine lv_goto (tgt := 632) hx hb dL_law_628 (by decide) ?_
    refine lv_istore (lv' := [(5, .int (nI 1)), (14, .int (nI (1 + ((v / 160) % 30)))), (13, .int (nI 5)), (0, .ref b), (1, .ref (ad11 0)), (2, .ref (bd12 0)), (3, .int (nI g)), (4, .int cs), (6, .int (nI i)), (8, .int (nI 16)), (9, .int (nI v)), (10, .int (nI st)), (11, .int (nI (sg g st))), (12, .int (nI (v / 4 % 40)))]) hx hb dL_law_632 hl (by decide) rfl (fun ls hl => ?_)
    refine W.widen (k := cells + 12) (n := slots + 70) (by omega) (by omega) ?_
    exact nx _ _ _ _ _ _ _ _ _ _ hy1 hI1 hJ1 hP hD hS (lv_sub hl [3, 4, 5, 6, 7, 0, 8, 10, 11, 12, 13] rfl)
  · exact lp_open F hK hN hE hfl hv hst hy hI hJ hP hD hS (lv_sub hl [0, 1, 2, 3, 4, 5, 6, 8, 9, 10, 11] rfl) hc1 hc2 nx
set_option maxRecDepth 100000 in
set_option maxHeartbeats 2000000 in
theorem lp_d11 {p : Program} {l : Launch} {e : Env} {s : State} {m : MethodId} {args : Array Value} {below : List Frame} {meth : Method} {c : Code} {cells slots : Nat} {Q : State → Prop} {D : va_G} {k : Nat → ClassId} {sa : Nat → Nat} {b g i st v : Nat} {ad bd : Nat → Nat} {M N : Nat → Nat → Nat} {O P : Nat → Nat → Int32} {cs : Int32} {H : Heap} {locs : List Loc} {ls : Array Slot} (F : CallFix p m c cL_law 16 s args wsL_law RL) (hK : va_K D vwCl (tyL k) s) (hN : lwN s) (hE : zE (fun q => s.heap.size ≤ q) sa s s.heap) (hfl : l.stackTraces = false) (hv : v < 1073741824) (hst : st < 4) (hy : Sy g M O N P) (hI : zInv M) (hJ : zInv N) (hP : va_P D vwCl (zw (20 + 2 * M 0 1) ad (cX k ad M O) ++ zw (20 + 2 * N 0 1) bd (cX k bd N P)) H) (hD : va_D (fun q => s.heap.size ≤ q) (zw (20 + 2 * M 0 1) ad (cX k ad M O) ++ zw (20 + 2 * N 0 1) bd (cX k bd N P))) (hS : va_S (fun q => s.heap.size ≤ q) s.heap H locs) (hl : lv_has ls 16 [(0, .ref b), (1, .ref (ad 0)), (2, .ref (bd 0)), (3, .int (nI g)), (4, .int cs), (5, .int (nI 1)), (6, .int (nI i)), (8, .int (nI 11)), (9, .int (nI v)), (10, .int (nI st)), (11, .int (nI (sg g st))), (12, .int (nI (v / 4 % 40)))])
    (hc1 : cells + 12 ≤ 623114) (hc2 : slots + 70 ≤ 7232282) (nx : ∀ (M N : Nat → Nat → Nat) (O P : Nat → Nat → Int32) (ad bd : Nat → Nat) (cs : Int32) (H : Heap) (locs : List Loc) (ls : Array Slot), Sy g M O N P → zInv M → zInv N → va_P D vwCl (zw (20 + 2 * M 0 1) ad (cX k ad M O) ++ zw (20 + 2 * N 0 1) bd (cX k bd N P)) H → va_D (fun q => s.heap.size ≤ q) (zw (20 + 2 * M 0 1) ad (cX k ad M O) ++ zw (20 + 2 * N 0 1) bd (cX k bd N P)) → va_S (fun q => s.heap.size ≤ q) s.heap H locs → lv_has ls 16 [(0, .ref b), (1, .ref (ad 0)), (2, .ref (bd 0)), (3, .int (nI g)), (4, .int cs), (5, .int (nI 1)), (6, .int (nI i)), (9, .int (nI v)), (10, .int (nI st)), (11, .int (nI (sg g st))), (12, .int (nI (v / 4 % 40)))] → W p l e room_1 s m args below meth c H locs (cells + 12) (slots + 70) Q (F0 m 634 ls [])) : W p l e room_1 s m args below meth c H locs cells slots Q (F0 m 112 ls []) := by
  have hx := F.1
  have hb := F.2.1
  have hts := F.2.2.2.2
  have hA : ∀ q : Nat, s.heap.size ≤ q → (fun q => s.heap.size ≤ q) q := fun _ h => h
  refine lv_iload hx hb dL_law_112 (lv_at hl 7 rfl) ?_
  refine lv_iconst (v := nI 2) hx hb dL_law_114 (by decide) ?_
  refine z_icmp_ge (tgt := 238) F (by omega) (by omega) dL_law_115 (by decide) (fun _ => ?_) (fun zc => absurd zc (by decide))
  refine lv_iload hx hb dL_law_238 (lv_at hl 7 rfl) ?_
  refine lv_iconst (v := nI 2) hx hb dL_law_240 (by decide) ?_
  refine z_icmp_ne (tgt := 309) F (by omega) (by omega) dL_law_241 (by decide) (fun _ => ?_) (fun zc => absurd zc (by decide))
  refine lv_iload hx hb dL_law_309 (lv_at hl 7 rfl) ?_
  refine lv_bipush (v := nI 7) hx hb dL_law_311 (by decide) ?_
  refine z_icmp_ge (tgt := 383) F (by omega) (by omega) dL_law_313 (by decide) (fun _ => ?_) (fun zc => absurd zc (by decide))
  refine lv_iload hx hb dL_law_383 (lv_at hl 7 rfl) ?_
  refine lv_bipush (v := nI 7) hx hb dL_law_385 (by decide) ?_
  refine z_icmp_ne (tgt := 429) F (by omega) (by omega) dL_law_387 (by decide) (fun _ => ?_) (fun zc => absurd zc (by decide))
  refine lv_iload hx hb dL_law_429 (lv_at hl 7 rfl) ?_
  refine lv_bipush (v := nI 11) hx hb dL_law_431 (by decide) ?_
  refine z_icmp_lt (tgt := 441) F (by omega) (by omega) dL_law_433 (by decide) (fun zc => absurd zc (by decide)) (fun _ => ?_)
  refine lv_iload hx hb dL_law_436 (lv_at hl 4 rfl) ?_
  refine lv_if_ne (tgt := 515) hx hb dL_law_438 (by decide) (fun c7 => ?_) (fun c7 => ?_)
  · refine lv_iload hx hb dL_law_515 (lv_at hl 7 rfl) ?_
    refine lv_bipush (v := nI 17) hx hb dL_law_517 (by decide) ?_
    refine z_icmp_ne (tgt := 526) F (by omega) (by omega) dL_law_519 (by decide) (fun _ => ?_) (fun zc => absurd zc (by decide))
    refine lv_iload hx hb dL_law_526 (lv_at hl 7 rfl) ?_
    refine lv_bipush (v := nI 11) hx hb dL_law_528 (by decide) ?_
    refine z_sub F (by omega) dL_law_530 ?_
    refine z_top (show nI (11 - 11) = nI 0 from rfl) ?_
    refine lv_istore (lv' := [(13, .int (nI 0)), (0, .ref b), (1, .ref (ad 0)), (2, .ref (bd 0)), (3, .int (nI g)), (4, .int cs), (5, .int (nI 1)), (6, .int (nI i)), (8, .int (nI 11)), (9, .int (nI v)), (10, .int (nI st)), (11, .int (nI (sg g st))), (12, .int (nI (v / 4 % 40)))]) hx hb dL_law_531 hl (by decide) rfl (fun ls hl => ?_)
    refine lv_iload hx hb dL_law_533 (lv_at hl 0 rfl) ?_
    refine lv_iconst (v := nI 3) hx hb dL_law_535 (by decide) ?_
    refine z_icmp_ne (tgt := 551) F (by omega) (by omega) dL_law_536 (by decide) (fun _ => ?_) (fun zc => absurd zc (by decide))
    refine lv_iload hx hb dL_law_551 (lv_at hl 0 rfl) ?_
    refine lv_iconst (v := nI 1) hx hb dL_law_553 (by decide) ?_
    refine z_icmp_ne (tgt := 568) F (by omega) (by omega) dL_law_554 (by decide) (fun _ => ?_) (fun zc => absurd zc (by decide))
    refine lv_iload hx hb dL_law_568 (lv_at hl 0 rfl) ?_
    refine lv_iconst (v := nI 5) hx hb dL_law_570 (by decide) ?_
    refine z_icmp_ne (tgt := 588) F (by omega) (by omega) dL_law_571 (by decide) (fun _ => ?_) (fun zc => absurd zc (by decide))
    refine lv_iload hx hb dL_law_588 (lv_at hl 9 rfl) ?_
    refine lv_sipush (v := nI 160) hx hb dL_law_590 (by decide) ?_
    refine z_div F (by omega) (by omega) (by omega) dL_law_593 ?_
    refine lv_iconst (v := nI 3) hx hb dL_law_594 (by decide) ?_
    refine z_rem F (by omega) (by omega) (by omega) dL_law_595 ?_
    refine lv_istore (lv' := [(14, .int (nI ((v / 160) % 3))), (13, .int (nI 0)), (0, .ref b), (1, .ref (ad 0)), (2, .ref (bd 0)), (3, .int (nI g)), (4, .int cs), (5, .int (nI 1)), (6, .int (nI i)), (8, .int (nI 11)), (9, .int (nI v)), (10, .int (nI st)), (11, .int (nI (sg g st))), (12, .int (nI (v / 4 % 40)))]) hx hb dL_law_596 hl (by decide) rfl (fun ls hl => ?_)
    refine lv_aload_n hx hb dL_law_598 rfl (lv_at hl 3 rfl) ?_
    refine lv_iload hx hb dL_law_599 (lv_at hl 1 rfl) ?_
    refine lv_iload hx hb dL_law_601 (lv_at hl 13 rfl) ?_
    refine lv_iload hx hb dL_law_603 (lv_at hl 6 rfl) ?_
    refine lv_irem hx hb dL_law_605 c7 ?_
    refine lv_iload hx hb dL_law_606 (lv_at hl 0 rfl) ?_
    refine tw_call (As := [.ref (ad 0), .int (nI 0), .int ((nI (v / 4 % 40)) - (nI (v / 4 % 40)) / cs * cs), .int (nI ((v / 160) % 3))]) (rest := []) F (c_L_does l hfl sa D k ad M O _ hI 0 (by decide) ((nI (v / 4 % 40)) - (nI (v / 4 % 40)) / cs * cs) (nI ((v / 160) % 3))) (vx_cwSW 4 hts gL_law_L_does rfl rfl rfl (by decide +kernel) ⟨Nat.le_of_ble_eq_true rfl, Nat.le_of_ble_eq_true rfl⟩) hK hN hE hP hD hS hA rfl hl.1 rfl (Nat.le_of_ble_eq_true rfl) dL_law_608 ⟨by show _ ≤ 623114; omega, by show _ ≤ 7232282; omega⟩ (fun ad13 H locs had hP hD hS => ?_)
    rw [← had 0 (by omega)] at hl
    refine lv_aload_n hx hb dL_law_611 rfl (lv_at hl 4 rfl) ?_
    refine lv_iload hx hb dL_law_612 (lv_at hl 1 rfl) ?_
    refine lv_iload hx hb dL_law_614 (lv_at hl 13 rfl) ?_
    refine lv_iload hx hb dL_law_616 (lv_at hl 6 rfl) ?_
    refine lv_irem hx hb dL_law_618 c7 ?_
    refine lv_iload hx hb dL_law_619 (lv_at hl 0 rfl) ?_
    replace hP := wPs hP
    replace hD := wDs hD
    refine tw_call (As := [.ref (bd 0), .int (nI 0), .int ((nI (v / 4 % 40)) - (nI (v / 4 % 40)) / cs * cs), .int (nI ((v / 160) % 3))]) (rest := [.int (rV (tdX M O 0 ((nI (v / 4 % 40)) - (nI (v / 4 % 40)) / cs * cs) (nI ((v / 160) % 3))) (tdV M O 0 ((nI (v / 4 % 40)) - (nI (v / 4 % 40)) / cs * cs) (nI ((v / 160) % 3))))]) F (c_L_does l hfl sa D k bd N P _ hJ 0 (by decide) ((nI (v / 4 % 40)) - (nI (v / 4 % 40)) / cs * cs) (nI ((v / 160) % 3))) (vx_cwSW 4 hts gL_law_L_does rfl rfl rfl (by decide +kernel) ⟨Nat.le_of_ble_eq_true rfl, Nat.le_of_ble_eq_true rfl⟩) hK hN hE hP hD hS hA rfl hl.1 rfl (Nat.le_of_ble_eq_true rfl) dL_law_621 ⟨by show _ ≤ 623114; omega, by show _ ≤ 7232282; omega⟩ (fun bd14 H locs had hP hD hS => ?_)
    rw [← had 0 (by omega)] at hl
    replace hP := wPs hP
    replace hD := wDs hD
    obtain ⟨hv1, hy1, hI1, hJ1⟩ := sy_does2 hy hI hJ (w := 0) (by decide) ((nI (v / 4 % 40)) - (nI (v / 4 % 40)) / cs * cs) (nI ((v / 160) % 3))
    refine lv_icmp_ne (tgt := 631) hx hb dL_law_624 (by decide) (fun zc => absurd (hv1.symm) zc) (fun _ => ?_)
    refine lv_iconst (v := nI 1) hx hb dL_law_627 (by decide) ?_
    refine lv_goto (tgt := 632) hx hb dL_law_628 (by decide) ?_
    refine lv_istore (lv' := [(5, .int (nI 1)), (14, .int (nI ((v / 160) % 3))), (13, .int (nI 0)), (0, .ref b), (1, .ref (ad13 0)), (2, .ref (bd14 0)), (3, .int (nI g)), (4, .int cs), (6, .int (nI i)), (8, .int (nI 11)), (9, .int (nI v)), (10, .int (nI st)), (11, .int (nI (sg g st))), (12, .int (nI (v / 4 % 40)))]) hx hb dL_law_632 hl (by decide) rfl (fun ls hl => ?_)
    refine W.widen (k := cells + 12) (n := slots + 70) (by omega) (by omega) ?_
    exact nx _ _ _ _ _ _ _ _ _ _ hy1 hI1 hJ1 hP hD hS (lv_sub hl [3, 4, 5, 6, 7, 0, 8, 10, 11, 12, 13] rfl)
  · exact lp_open F hK hN hE hfl hv hst hy hI hJ hP hD hS (lv_sub hl [0, 1, 2, 3, 4, 5, 6, 8, 9, 10, 11] rfl) hc1 hc2 nx
set_option maxRecDepth 100000 in
set_option maxHeartbeats 2000000 in
theorem lp_8 {p : Program} {l : Launch} {e : Env} {s : State} {m : MethodId} {args : Array Value} {below : List Frame} {meth : Method} {c : Code} {cells slots : Nat} {Q : State → Prop} {D : va_G} {k : Nat → ClassId} {sa : Nat → Nat} {b g i st v : Nat} {ad bd : Nat → Nat} {M N : Nat → Nat → Nat} {O P : Nat → Nat → Int32} {cs : Int32} {H : Heap} {locs : List Loc} {ls : Array Slot} (F : CallFix p m c cL_law 16 s args wsL_law RL) (hK : va_K D vwCl (tyL k) s) (hN : lwN s) (hE : zE (fun q => s.heap.size ≤ q) sa s s.heap) (hfl : l.stackTraces = false) {kd : Nat} (hk1 : 8 ≤ kd) (hk2 : kd < 11) (hv : v < 1073741824) (hst : st < 4) (hy : Sy g M O N P) (hI : zInv M) (hJ : zInv N) (hP : va_P D vwCl (zw (20 + 2 * M 0 1) ad (cX k ad M O) ++ zw (20 + 2 * N 0 1) bd (cX k bd N P)) H) (hD : va_D (fun q => s.heap.size ≤ q) (zw (20 + 2 * M 0 1) ad (cX k ad M O) ++ zw (20 + 2 * N 0 1) bd (cX k bd N P))) (hS : va_S (fun q => s.heap.size ≤ q) s.heap H locs) (hl : lv_has ls 16 [(0, .ref b), (1, .ref (ad 0)), (2, .ref (bd 0)), (3, .int (nI g)), (4, .int cs), (5, .int (nI 1)), (6, .int (nI i)), (8, .int (nI kd)), (9, .int (nI v)), (10, .int (nI st)), (11, .int (nI (sg g st))), (12, .int (nI (v / 4 % 40)))])
    (hc1 : cells + 12 ≤ 623114) (hc2 : slots + 70 ≤ 7232282) (nx : ∀ (M N : Nat → Nat → Nat) (O P : Nat → Nat → Int32) (ad bd : Nat → Nat) (cs : Int32) (H : Heap) (locs : List Loc) (ls : Array Slot), Sy g M O N P → zInv M → zInv N → va_P D vwCl (zw (20 + 2 * M 0 1) ad (cX k ad M O) ++ zw (20 + 2 * N 0 1) bd (cX k bd N P)) H → va_D (fun q => s.heap.size ≤ q) (zw (20 + 2 * M 0 1) ad (cX k ad M O) ++ zw (20 + 2 * N 0 1) bd (cX k bd N P)) → va_S (fun q => s.heap.size ≤ q) s.heap H locs → lv_has ls 16 [(0, .ref b), (1, .ref (ad 0)), (2, .ref (bd 0)), (3, .int (nI g)), (4, .int cs), (5, .int (nI 1)), (6, .int (nI i)), (9, .int (nI v)), (10, .int (nI st)), (11, .int (nI (sg g st))), (12, .int (nI (v / 4 % 40)))] → W p l e room_1 s m args below meth c H locs (cells + 12) (slots + 70) Q (F0 m 634 ls [])) : W p l e room_1 s m args below meth c H locs cells slots Q (F0 m 112 ls []) := by
  have hx := F.1
  have hb := F.2.1
  have hts := F.2.2.2.2
  have hA : ∀ q : Nat, s.heap.size ≤ q → (fun q => s.heap.size ≤ q) q := fun _ h => h
  refine lv_iload hx hb dL_law_112 (lv_at hl 7 rfl) ?_
  refine lv_iconst (v := nI 2) hx hb dL_law_114 (by decide) ?_
  refine z_icmp_ge (tgt := 238) F (by omega) (by omega) dL_law_115 (by decide) (fun _ => ?_) (fun zc => absurd zc (by omega))
  refine lv_iload hx hb dL_law_238 (lv_at hl 7 rfl) ?_
  refine lv_iconst (v := nI 2) hx hb dL_law_240 (by decide) ?_
  refine z_icmp_ne (tgt := 309) F (by omega) (by omega) dL_law_241 (by decide) (fun _ => ?_) (fun zc => absurd zc (by omega))
  refine lv_iload hx hb dL_law_309 (lv_at hl 7 rfl) ?_
  refine lv_bipush (v := nI 7) hx hb dL_law_311 (by decide) ?_
  refine z_icmp_ge (tgt := 383) F (by omega) (by omega) dL_law_313 (by decide) (fun _ => ?_) (fun zc => absurd zc (by omega))
  refine lv_iload hx hb dL_law_383 (lv_at hl 7 rfl) ?_
  refine lv_bipush (v := nI 7) hx hb dL_law_385 (by decide) ?_
  refine z_icmp_ne (tgt := 429) F (by omega) (by omega) dL_law_387 (by decide) (fun _ => ?_) (fun zc => absurd zc (by omega))
  refine lv_iload hx hb dL_law_429 (lv_at hl 7 rfl) ?_
  refine lv_bipush (v := nI 11) hx hb dL_law_431 (by decide) ?_
  refine z_icmp_lt (tgt := 441) F (by omega) (by omega) dL_law_433 (by decide) (fun _ => ?_) (fun zc => absurd zc (by omega))
  exact lp_open F hK hN hE hfl hv hst hy hI hJ hP hD hS (lv_sub hl [0, 1, 2, 3, 4, 5, 6, 8, 9, 10, 11] rfl) hc1 hc2 nx
set_option maxRecDepth 100000 in
set_option maxHeartbeats 2000000 in
theorem lp_switch {p : Program} {l : Launch} {e : Env} {s : State} {m : MethodId} {args : Array Value} {below : List Frame} {meth : Method} {c : Code} {cells slots : Nat} {Q : State → Prop} {D : va_G} {k : Nat → ClassId} {sa : Nat → Nat} {b g i st v : Nat} {ad bd : Nat → Nat} {M N : Nat → Nat → Nat} {O P : Nat → Nat → Int32} {cs : Int32} {H : Heap} {locs : List Loc} {ls : Array Slot} (F : CallFix p m c cL_law 16 s args wsL_law RL) (hK : va_K D vwCl (tyL k) s) (hN : lwN s) (hE : zE (fun q => s.heap.size ≤ q) sa s s.heap) (hfl : l.stackTraces = false) {kd : Nat} (hkd : kd < 18) (hv : v < 1073741824) (hst : st < 4) (hy : Sy g M O N P) (hI : zInv M) (hJ : zInv N) (hP : va_P D vwCl (zw (20 + 2 * M 0 1) ad (cX k ad M O) ++ zw (20 + 2 * N 0 1) bd (cX k bd N P)) H) (hD : va_D (fun q => s.heap.size ≤ q) (zw (20 + 2 * M 0 1) ad (cX k ad M O) ++ zw (20 + 2 * N 0 1) bd (cX k bd N P))) (hS : va_S (fun q => s.heap.size ≤ q) s.heap H locs) (hl : lv_has ls 16 [(0, .ref b), (1, .ref (ad 0)), (2, .ref (bd 0)), (3, .int (nI g)), (4, .int cs), (5, .int (nI 1)), (6, .int (nI i)), (8, .int (nI kd)), (9, .int (nI v)), (10, .int (nI st)), (11, .int (nI (sg g st))), (12, .int (nI (v / 4 % 40)))])
    (hc1 : cells + 12 ≤ 623114) (hc2 : slots + 70 ≤ 7232282) (nx : ∀ (M N : Nat → Nat → Nat) (O P : Nat → Nat → Int32) (ad bd : Nat → Nat) (cs : Int32) (H : Heap) (locs : List Loc) (ls : Array Slot), Sy g M O N P → zInv M → zInv N → va_P D vwCl (zw (20 + 2 * M 0 1) ad (cX k ad M O) ++ zw (20 + 2 * N 0 1) bd (cX k bd N P)) H → va_D (fun q => s.heap.size ≤ q) (zw (20 + 2 * M 0 1) ad (cX k ad M O) ++ zw (20 + 2 * N 0 1) bd (cX k bd N P)) → va_S (fun q => s.heap.size ≤ q) s.heap H locs → lv_has ls 16 [(0, .ref b), (1, .ref (ad 0)), (2, .ref (bd 0)), (3, .int (nI g)), (4, .int cs), (5, .int (nI 1)), (6, .int (nI i)), (9, .int (nI v)), (10, .int (nI st)), (11, .int (nI (sg g st))), (12, .int (nI (v / 4 % 40)))] → W p l e room_1 s m args below meth c H locs (cells + 12) (slots + 70) Q (F0 m 634 ls [])) : W p l e room_1 s m args below meth c H locs cells slots Q (F0 m 112 ls []) := by
  rcases (show kd = 0 ∨ kd = 1 ∨ kd = 2 ∨ kd = 7 ∨ kd = 11 ∨ kd = 12 ∨ kd = 13 ∨ kd = 14 ∨ kd = 15 ∨ kd = 16 ∨ kd = 17 ∨ (3 ≤ kd ∧ kd < 7) ∨ (8 ≤ kd ∧ kd < 11) by omega) with rfl | rfl | rfl | rfl | rfl | rfl | rfl | rfl | rfl | rfl | rfl | ⟨hk1, hk2⟩ | ⟨hk1, hk2⟩
  · exact lp_0 F hK hN hE hfl hv hst hy hI hJ hP hD hS hl hc1 hc2 nx
  · exact lp_1 F hK hN hE hfl hv hst hy hI hJ hP hD hS hl hc1 hc2 nx
  · exact lp_2 F hK hN hE hfl hv hst hy hI hJ hP hD hS hl hc1 hc2 nx
  · exact lp_7 F hK hN hE hfl hv hst hy hI hJ hP hD hS hl hc1 hc2 nx
  · exact lp_d11 F hK hN hE hfl hv hst hy hI hJ hP hD hS hl hc1 hc2 nx
  · exact lp_d1 F hK hN hE hfl hv hst hy hI hJ hP hD hS hl hc1 hc2 nx
  · exact lp_d2 F hK hN hE hfl hv hst hy hI hJ hP hD hS hl hc1 hc2 nx
  · exact lp_d3 F hK hN hE hfl hv hst hy hI hJ hP hD hS hl hc1 hc2 nx
  · exact lp_d4 F hK hN hE hfl hv hst hy hI hJ hP hD hS hl hc1 hc2 nx
  · exact lp_d5 F hK hN hE hfl hv hst hy hI hJ hP hD hS hl hc1 hc2 nx
  · exact lp_d0 F hK hN hE hfl hv hst hy hI hJ hP hD hS hl hc1 hc2 nx
  · exact lp_3 F hK hN hE hfl hk1 hk2 hv hst hy hI hJ hP hD hS hl hc1 hc2 nx
  · exact lp_8 F hK hN hE hfl hk1 hk2 hv hst hy hI hJ hP hD hS hl hc1 hc2 nx
set_option maxRecDepth 100000 in
set_option maxHeartbeats 2000000 in
theorem lp_of {p : Program} {l : Launch} {e : Env} {s : State} {m : MethodId} {args : Array Value} {below : List Frame} {meth : Method} {c : Code} {Q : State → Prop} {D : va_G} {k : Nat → ClassId} {sa : Nat → Nat} {b g i st v : Nat} {M N : Nat → Nat → Nat} {O P : Nat → Nat → Int32} {cs : Int32} (F : CallFix p m c cL_law 16 s args wsL_law RL) (hK : va_K D vwCl (tyL k) s) (hN : lwN s) (hE : zE (fun q => s.heap.size ≤ q) sa s s.heap) (hfl : l.stackTraces = false) (hy : Sy g M O N P) (hI : zInv M) (hJ : zInv N) (C Sl : Nat) (hC : C ≤ 623114) (hSl : Sl ≤ 7232282) (kend : ∀ (ad bd : Nat → Nat) (H : Heap) (locs : List Loc) (ls : Array Slot), va_P D vwCl (zw (20 + 2 * M 0 1) ad (cX k ad M O) ++ zw (20 + 2 * N 0 1) bd (cX k bd N P)) H → va_D (fun q => s.heap.size ≤ q) (zw (20 + 2 * M 0 1) ad (cX k ad M O) ++ zw (20 + 2 * N 0 1) bd (cX k bd N P)) → va_S (fun q => s.heap.size ≤ q) s.heap H locs → lv_has ls 16 [(0, .ref b), (1, .ref (ad 0)), (2, .ref (bd 0)), (3, .int (nI g)), (4, .int cs), (5, .int (nI 1)), (6, .int (nI i)), (9, .int (nI v)), (10, .int (nI st)), (11, .int (nI (sg g st))), (12, .int (nI (v / 4 % 40)))] → W p l e room_1 s m args below meth c H locs C Sl Q (F0 m 726 ls [])) :
    ∀ (n wt cells slots : Nat) (ad bd : Nat → Nat) (H : Heap) (locs : List Loc) (ls : Array Slot), wt + n = 8 → cells + 4 * n ≤ C → slots + 24 * n ≤ Sl → va_P D vwCl (zw (20 + 2 * M 0 1) ad (cX k ad M O) ++ zw (20 + 2 * N 0 1) bd (cX k bd N P)) H → va_D (fun q => s.heap.size ≤ q) (zw (20 + 2 * M 0 1) ad (cX k ad M O) ++ zw (20 + 2 * N 0 1) bd (cX k bd N P)) → va_S (fun q => s.heap.size ≤ q) s.heap H locs → lv_has ls 16 [(0, .ref b), (1, .ref (ad 0)), (2, .ref (bd 0)), (3, .int (nI g)), (4, .int cs), (5, .int (nI 1)), (6, .int (nI i)), (13, .int (nI wt)), (9, .int (nI v)), (10, .int (nI st)), (11, .int (nI (sg g st))), (12, .int (nI (v / 4 % 40)))] → W p l e room_1 s m args below meth c H locs cells slots Q (F0 m 671 ls []) := by
  have hx := F.1
  have hb := F.2.1
  have hts := F.2.2.2.2
  have hA : ∀ q : Nat, s.heap.size ≤ q → (fun q => s.heap.size ≤ q) q := fun _ h => h
  intro n
  induction n with
  | zero =>
    intro wt cells slots ad bd H locs ls hn hc1 hc2 hP hD hS hl
    refine lv_iload hx hb dL_law_671 (lv_at hl 7 rfl) ?_
    refine lv_bipush (v := nI 8) hx hb dL_law_673 (by decide) ?_
    refine z_icmp_ge (tgt := 726) F (by omega) (by omega) dL_law_675 (by decide) (fun _ => ?_) (fun zc => absurd zc (by omega))
    refine W.widen (k := C) (n := Sl) (by omega) (by omega) ?_
    exact kend _ _ _ _ _ hP hD hS (lv_sub hl [0, 1, 2, 3, 4, 5, 6, 8, 9, 10, 11] rfl)
  | succ fu ih =>
    intro wt cells slots ad bd H locs ls hn hc1 hc2 hP hD hS hl
    refine lv_iload hx hb dL_law_671 (lv_at hl 7 rfl) ?_
    refine lv_bipush (v := nI 8) hx hb dL_law_673 (by decide) ?_
    refine z_icmp_ge (tgt := 726) F (by omega) (by omega) dL_law_675 (by decide) (fun zc => absurd zc (by omega)) (fun _ => ?_)
    refine lv_iload hx hb dL_law_678 (lv_at hl 5 rfl) ?_
    refine z_ifn_eqF (tgt := 726) F (by decide) dL_law_680 (by decide) ?_
    refine lv_iload hx hb dL_law_683 (lv_at hl 4 rfl) ?_
    refine lv_if_le (tgt := 726) hx hb dL_law_685 (by decide) (fun c9 => ?_) (fun c9 => ?_)
    · refine W.widen (k := C) (n := Sl) (by omega) (by omega) ?_
      exact kend _ _ _ _ _ hP hD hS (lv_sub hl [0, 1, 2, 3, 4, 5, 6, 8, 9, 10, 11] rfl)
    · refine lv_aload_n hx hb dL_law_688 rfl (lv_at hl 1 rfl) ?_
      refine lv_iload hx hb dL_law_689 (lv_at hl 7 rfl) ?_
      refine lv_iload hx hb dL_law_691 (lv_at hl 11 rfl) ?_
      refine lv_iload hx hb dL_law_693 (lv_at hl 4 rfl) ?_
      refine lv_irem hx hb dL_law_695 (fun zc => c9 (by rw [zc]; decide)) ?_
      refine tw_call (As := [.ref (ad 0), .int (nI wt), .int ((nI (v / 4 % 40)) - (nI (v / 4 % 40)) / cs * cs)]) (rest := []) F (c_L_of l hfl sa D k ad M O _ hI wt (show wt < 8 by omega) ((nI (v / 4 % 40)) - (nI (v / 4 % 40)) / cs * cs)) (vx_cwSW 3 hts gL_law_L_of rfl rfl rfl (by decide +kernel) ⟨Nat.le_of_ble_eq_true rfl, Nat.le_of_ble_eq_true rfl⟩) hK hN hE hP hD hS hA rfl hl.1 rfl (Nat.le_of_ble_eq_true rfl) dL_law_696 ⟨by show _ ≤ 623114; omega, by show _ ≤ 7232282; omega⟩ (fun ad15 H locs had hP hD hS => ?_)
      rw [← had 0 (by omega)] at hl
      refine lv_aload_n hx hb dL_law_699 rfl (lv_at hl 2 rfl) ?_
      refine lv_iload hx hb dL_law_700 (lv_at hl 7 rfl) ?_
      refine lv_iload hx hb dL_law_702 (lv_at hl 11 rfl) ?_
      refine lv_iload hx hb dL_law_704 (lv_at hl 4 rfl) ?_
      refine lv_irem hx hb dL_law_706 (fun zc => c9 (by rw [zc]; decide)) ?_
      replace hP := wPs hP
      replace hD := wDs hD
      refine tw_call (As := [.ref (bd 0), .int (nI wt), .int ((nI (v / 4 % 40)) - (nI (v / 4 % 40)) / cs * cs)]) (rest := [.int (rV (tfX M O wt ((nI (v / 4 % 40)) - (nI (v / 4 % 40)) / cs * cs)) (tfV M O wt ((nI (v / 4 % 40)) - (nI (v / 4 % 40)) / cs * cs)))]) F (c_L_of l hfl sa D k bd N P _ hJ wt (show wt < 8 by omega) ((nI (v / 4 % 40)) - (nI (v / 4 % 40)) / cs * cs)) (vx_cwSW 3 hts gL_law_L_of rfl rfl rfl (by decide +kernel) ⟨Nat.le_of_ble_eq_true rfl, Nat.le_of_ble_eq_true rfl⟩) hK hN hE hP hD hS hA rfl hl.1 rfl (Nat.le_of_ble_eq_true rfl) dL_law_707 ⟨by show _ ≤ 623114; omega, by show _ ≤ 7232282; omega⟩ (fun bd16 H locs had hP hD hS => ?_)
      rw [← had 0 (by omega)] at hl
      replace hP := wPs hP
      replace hD := wDs hD
      obtain ⟨hvX, hvV0⟩ := sy_of hy (w := wt) (by omega) ((nI (v / 4 % 40)) - (nI (v / 4 % 40)) / cs * cs)
      have hvV := fun (_ : tfX M O wt ((nI (v / 4 % 40)) - (nI (v / 4 % 40)) / cs * cs) = 0) => hvV0
      refine lv_icmp_ne (tgt := 717) hx hb dL_law_710 (by decide) (fun zc => absurd ((rV_cg hvX hvV).symm) zc) (fun _ => ?_)
      refine lv_iconst (v := nI 1) hx hb dL_law_713 (by decide) ?_
      refine lv_goto (tgt := 718) hx hb dL_law_714 (by decide) ?_
      refine lv_istore (lv' := [(5, .int (nI 1)), (0, .ref b), (1, .ref (ad15 0)), (2, .ref (bd16 0)), (3, .int (nI g)), (4, .int cs), (6, .int (nI i)), (13, .int (nI wt)), (9, .int (nI v)), (10, .int (nI st)), (11, .int (nI (sg g st))), (12, .int (nI (v / 4 % 40)))]) hx hb dL_law_718 hl (by decide) rfl (fun ls hl => ?_)
      refine lv_iinc (v := nI (wt + 1)) (lv' := [(13, .int (nI (wt + 1))), (5, .int (nI 1)), (0, .ref b), (1, .ref (ad15 0)), (2, .ref (bd16 0)), (3, .int (nI g)), (4, .int cs), (6, .int (nI i)), (9, .int (nI v)), (10, .int (nI st)), (11, .int (nI (sg g st))), (12, .int (nI (v / 4 % 40)))]) hx hb dL_law_720 hl (k := 7) rfl (nI_1 wt) (by decide) rfl (fun ls hl => ?_)
      refine lv_goto (tgt := 671) hx hb dL_law_723 (by decide) ?_
      exact ih (wt + 1) _ _ _ _ _ _ _ (by omega) (by omega) (by omega) hP hD hS (lv_sub hl [2, 3, 4, 5, 6, 1, 7, 0, 8, 9, 10, 11] rfl)
set_option maxRecDepth 100000 in
set_option maxHeartbeats 2000000 in
theorem lp_by {p : Program} {l : Launch} {e : Env} {s : State} {m : MethodId} {args : Array Value} {below : List Frame} {meth : Method} {c : Code} {Q : State → Prop} {D : va_G} {k : Nat → ClassId} {sa : Nat → Nat} {b g i st v : Nat} {M N : Nat → Nat → Nat} {O P : Nat → Nat → Int32} {cs : Int32} (F : CallFix p m c cL_law 16 s args wsL_law RL) (hK : va_K D vwCl (tyL k) s) (hN : lwN s) (hE : zE (fun q => s.heap.size ≤ q) sa s s.heap) (hfl : l.stackTraces = false) (hv : v < 1073741824) (hst : st < 4) (hi9 : i < 120) (hy : Sy g M O N P) (hI : zInv M) (hJ : zInv N) (C Sl : Nat) (hC : C ≤ 623114) (hSl : Sl ≤ 7232282) (kend : ∀ (ad bd : Nat → Nat) (H : Heap) (locs : List Loc) (ls : Array Slot), va_P D vwCl (zw (20 + 2 * M 0 1) ad (cX k ad M O) ++ zw (20 + 2 * N 0 1) bd (cX k bd N P)) H → va_D (fun q => s.heap.size ≤ q) (zw (20 + 2 * M 0 1) ad (cX k ad M O) ++ zw (20 + 2 * N 0 1) bd (cX k bd N P)) → va_S (fun q => s.heap.size ≤ q) s.heap H locs → lv_has ls 16 [(0, .ref b), (1, .ref (ad 0)), (2, .ref (bd 0)), (3, .int (nI g)), (4, .int cs), (5, .int (nI 1)), (6, .int (nI i)), (9, .int (nI v)), (10, .int (nI st)), (11, .int (nI (sg g st))), (12, .int (nI (v / 4 % 40)))] → W p l e room_1 s m args below meth c H locs C Sl Q (F0 m 825 ls [])) :
    ∀ (n wt cells slots : Nat) (ad bd : Nat → Nat) (H : Heap) (locs : List Loc) (ls : Array Slot), wt + n = 6 → cells + 6 * n ≤ C → slots + 36 * n ≤ Sl → va_P D vwCl (zw (20 + 2 * M 0 1) ad (cX k ad M O) ++ zw (20 + 2 * N 0 1) bd (cX k bd N P)) H → va_D (fun q => s.heap.size ≤ q) (zw (20 + 2 * M 0 1) ad (cX k ad M O) ++ zw (20 + 2 * N 0 1) bd (cX k bd N P)) → va_S (fun q => s.heap.size ≤ q) s.heap H locs → lv_has ls 16 [(0, .ref b), (1, .ref (ad 0)), (2, .ref (bd 0)), (3, .int (nI g)), (4, .int cs), (5, .int (nI 1)), (6, .int (nI i)), (13, .int (nI wt)), (9, .int (nI v)), (10, .int (nI st)), (11, .int (nI (sg g st))), (12, .int (nI (v / 4 % 40)))] → W p l e room_1 s m args below meth c H locs cells slots Q (F0 m 729 ls []) := by
  have hx := F.1
  have hb := F.2.1
  have hts := F.2.2.2.2
  have hA : ∀ q : Nat, s.heap.size ≤ q → (fun q => s.heap.size ≤ q) q := fun _ h => h
  intro n
  induction n with
  | zero =>
    intro wt cells slots ad bd H locs ls hn hc1 hc2 hP hD hS hl
    refine lv_iload hx hb dL_law_729 (lv_at hl 7 rfl) ?_
    refine lv_bipush (v := nI 6) hx hb dL_law_731 (by decide) ?_
    refine z_icmp_ge (tgt := 825) F (by omega) (by omega) dL_law_733 (by decide) (fun _ => ?_) (fun zc => absurd zc (by omega))
    refine W.widen (k := C) (n := Sl) (by omega) (by omega) ?_
    exact kend _ _ _ _ _ hP hD hS (lv_sub hl [0, 1, 2, 3, 4, 5, 6, 8, 9, 10, 11] rfl)
  | succ fu ih =>
    intro wt cells slots ad bd H locs ls hn hc1 hc2 hP hD hS hl
    refine lv_iload hx hb dL_law_729 (lv_at hl 7 rfl) ?_
    refine lv_bipush (v := nI 6) hx hb dL_law_731 (by decide) ?_
    refine z_icmp_ge (tgt := 825) F (by omega) (by omega) dL_law_733 (by decide) (fun zc => absurd zc (by omega)) (fun _ => ?_)
    refine lv_iload hx hb dL_law_736 (lv_at hl 5 rfl) ?_
    refine z_ifn_eqF (tgt := 825) F (by decide) dL_law_738 (by decide) ?_
    refine lv_iload hx hb dL_law_741 (lv_at hl 6 rfl) ?_
    refine lv_iconst (v := nI 4) hx hb dL_law_743 (by decide) ?_
    refine z_rem F (by omega) (by omega) (by omega) dL_law_744 ?_
    refine lv_iconst (v := nI 3) hx hb dL_law_745 (by decide) ?_
    refine z_icmp_ne (tgt := 825) F (by omega) (by omega) dL_law_746 (by decide) (fun c11 => ?_) (fun c11 => ?_)
    · refine W.widen (k := C) (n := Sl) (by omega) (by omega) ?_
      exact kend _ _ _ _ _ hP hD hS (lv_sub hl [0, 1, 2, 3, 4, 5, 6, 8, 9, 10, 11] rfl)
    · refine lv_aload_n hx hb dL_law_749 rfl (lv_at hl 1 rfl) ?_
      refine lv_iload hx hb dL_law_750 (lv_at hl 7 rfl) ?_
      refine lv_iload hx hb dL_law_752 (lv_at hl 9 rfl) ?_
      refine lv_iload hx hb dL_law_754 (lv_at hl 8 rfl) ?_
      refine lv_bipush (v := nI 9) hx hb dL_law_756 (by decide) ?_
      refine z_div F (by omega) (by omega) (by omega) dL_law_758 ?_
      refine lv_sipush (v := nI 3000) hx hb dL_law_759 (by decide) ?_
      refine z_rem F (by omega) (by omega) (by omega) dL_law_762 ?_
      refine lv_sipush (v := nI 3000) hx hb dL_law_763 (by decide) ?_
      refine lv_iload hx hb dL_law_766 (lv_at hl 8 rfl) ?_
      refine lv_bipush (v := nI 11) hx hb dL_law_768 (by decide) ?_
      refine z_div F (by omega) (by omega) (by omega) dL_law_770 ?_
      refine lv_sipush (v := nI 900) hx hb dL_law_771 (by decide) ?_
      refine z_rem F (by omega) (by omega) (by omega) dL_law_774 ?_
      refine z_add F dL_law_775 ?_
      refine tw_call (As := [.ref (ad 0), .int (nI wt), .int (nI st), .int (nI ((v / 9) % 3000)), .int (nI (3000 + ((v / 11) % 900)))]) (rest := []) F (c_L_by l hfl sa D k ad M O _ hI wt (show wt < 6 by omega) (nI st) (nI ((v / 9) % 3000)) (nI (3000 + ((v / 11) % 900)))) (vx_cwSW 5 hts gL_law_L_by rfl rfl rfl (by decide +kernel) ⟨Nat.le_of_ble_eq_true rfl, Nat.le_of_ble_eq_true rfl⟩) hK hN hE hP hD hS hA rfl hl.1 rfl (Nat.le_of_ble_eq_true rfl) dL_law_776 ⟨by show _ ≤ 623114; omega, by show _ ≤ 7232282; omega⟩ (fun ad17 H locs had hP hD hS => ?_)
      rw [← had 0 (by omega)] at hl
      refine lv_aload_n hx hb dL_law_779 rfl (lv_at hl 2 rfl) ?_
      refine lv_iload hx hb dL_law_780 (lv_at hl 7 rfl) ?_
      refine lv_iload hx hb dL_law_782 (lv_at hl 10 rfl) ?_
      refine lv_iload hx hb dL_law_784 (lv_at hl 8 rfl) ?_
      refine lv_bipush (v := nI 9) hx hb dL_law_786 (by decide) ?_
      refine z_div F (by omega) (by omega) (by omega) dL_law_788 ?_
      refine lv_sipush (v := nI 3000) hx hb dL_law_789 (by decide) ?_
      refine z_rem F (by omega) (by omega) (by omega) dL_law_792 ?_
      refine lv_sipush (v := nI 3000) hx hb dL_law_793 (by decide) ?_
      refine lv_iload hx hb dL_law_796 (lv_at hl 8 rfl) ?_
      refine lv_bipush (v := nI 11) hx hb dL_law_798 (by decide) ?_
      refine z_div F (by omega) (by omega) (by omega) dL_law_800 ?_
      refine lv_sipush (v := nI 900) hx hb dL_law_801 (by decide) ?_
      refine z_rem F (by omega) (by omega) (by omega) dL_law_804 ?_
      refine z_add F dL_law_805 ?_
      replace hP := wPs hP
      replace hD := wDs hD
      refine tw_call (As := [.ref (bd 0), .int (nI wt), .int (nI (sg g st)), .int (nI ((v / 9) % 3000)), .int (nI (3000 + ((v / 11) % 900)))]) (rest := [.int (rV (tbX M O wt (nI st) (nI ((v / 9) % 3000)) (nI (3000 + ((v / 11) % 900)))) (tbV M O wt (nI st) (nI ((v / 9) % 3000)) (nI (3000 + ((v / 11) % 900)))))]) F (c_L_by l hfl sa D k bd N P _ hJ wt (show wt < 6 by omega) (nI (sg g st)) (nI ((v / 9) % 3000)) (nI (3000 + ((v / 11) % 900)))) (vx_cwSW 5 hts gL_law_L_by rfl rfl rfl (by decide +kernel) ⟨Nat.le_of_ble_eq_true rfl, Nat.le_of_ble_eq_true rfl⟩) hK hN hE hP hD hS hA rfl hl.1 rfl (Nat.le_of_ble_eq_true rfl) dL_law_806 ⟨by show _ ≤ 623114; omega, by show _ ≤ 7232282; omega⟩ (fun bd18 H locs had hP hD hS => ?_)
      rw [← had 0 (by omega)] at hl
      replace hP := wPs hP
      replace hD := wDs hD
      obtain ⟨hvX, hvV⟩ := sy_by hy hI (w := wt) (by omega) hst (nI ((v / 9) % 3000)) (nI (3000 + ((v / 11) % 900)))
      refine lv_icmp_ne (tgt := 816) hx hb dL_law_809 (by decide) (fun zc => absurd ((rV_cg hvX hvV).symm) zc) (fun _ => ?_)
      refine lv_iconst (v := nI 1) hx hb dL_law_812 (by decide) ?_
      refine lv_goto (tgt := 817) hx hb dL_law_813 (by decide) ?_
      refine lv_istore (lv' := [(5, .int (nI 1)), (0, .ref b), (1, .ref (ad17 0)), (2, .ref (bd18 0)), (3, .int (nI g)), (4, .int cs), (6, .int (nI i)), (13, .int (nI wt)), (9, .int (nI v)), (10, .int (nI st)), (11, .int (nI (sg g st))), (12, .int (nI (v / 4 % 40)))]) hx hb dL_law_817 hl (by decide) rfl (fun ls hl => ?_)
      refine lv_iinc (v := nI (wt + 1)) (lv' := [(13, .int (nI (wt + 1))), (5, .int (nI 1)), (0, .ref b), (1, .ref (ad17 0)), (2, .ref (bd18 0)), (3, .int (nI g)), (4, .int cs), (6, .int (nI i)), (9, .int (nI v)), (10, .int (nI st)), (11, .int (nI (sg g st))), (12, .int (nI (v / 4 % 40)))]) hx hb dL_law_819 hl (k := 7) rfl (nI_1 wt) (by decide) rfl (fun ls hl => ?_)
      refine lv_goto (tgt := 729) hx hb dL_law_822 (by decide) ?_
      exact ih (wt + 1) _ _ _ _ _ _ _ (by omega) (by omega) (by omega) hP hD hS (lv_sub hl [2, 3, 4, 5, 6, 1, 7, 0, 8, 9, 10, 11] rfl)
set_option maxRecDepth 100000 in
set_option maxHeartbeats 2000000 in
theorem lp_tail {p : Program} {l : Launch} {e : Env} {s : State} {m : MethodId} {args : Array Value} {below : List Frame} {meth : Method} {c : Code} {cells slots : Nat} {Q : State → Prop} {D : va_G} {k : Nat → ClassId} {sa : Nat → Nat} {b g i st v : Nat} {ad bd : Nat → Nat} {M N : Nat → Nat → Nat} {O P : Nat → Nat → Int32} {cs : Int32} {H : Heap} {locs : List Loc} {ls : Array Slot} (F : CallFix p m c cL_law 16 s args wsL_law RL) (hK : va_K D vwCl (tyL k) s) (hN : lwN s) (hE : zE (fun q => s.heap.size ≤ q) sa s s.heap) (hfl : l.stackTraces = false) (hv : v < 1073741824) (hst : st < 4) (hi9 : i < 120) (hy : Sy g M O N P) (hI : zInv M) (hJ : zInv N) (hP : va_P D vwCl (zw (20 + 2 * M 0 1) ad (cX k ad M O) ++ zw (20 + 2 * N 0 1) bd (cX k bd N P)) H) (hD : va_D (fun q => s.heap.size ≤ q) (zw (20 + 2 * M 0 1) ad (cX k ad M O) ++ zw (20 + 2 * N 0 1) bd (cX k bd N P))) (hS : va_S (fun q => s.heap.size ≤ q) s.heap H locs) (hl : lv_has ls 16 [(0, .ref b), (1, .ref (ad 0)), (2, .ref (bd 0)), (3, .int (nI g)), (4, .int cs), (5, .int (nI 1)), (6, .int (nI i)), (9, .int (nI v)), (10, .int (nI st)), (11, .int (nI (sg g st))), (12, .int (nI (v / 4 % 40)))])
    (hc1 : cells + 70 ≤ 623114) (hc2 : slots + 410 ≤ 7232282) (nx : ∀ (M N : Nat → Nat → Nat) (O P : Nat → Nat → Int32) (ad bd : Nat → Nat) (cs : Int32) (H : Heap) (locs : List Loc) (ls : Array Slot), Sy g M O N P → zInv M → zInv N → va_P D vwCl (zw (20 + 2 * M 0 1) ad (cX k ad M O) ++ zw (20 + 2 * N 0 1) bd (cX k bd N P)) H → va_D (fun q => s.heap.size ≤ q) (zw (20 + 2 * M 0 1) ad (cX k ad M O) ++ zw (20 + 2 * N 0 1) bd (cX k bd N P)) → va_S (fun q => s.heap.size ≤ q) s.heap H locs → lv_has ls 16 [(0, .ref b), (1, .ref (ad 0)), (2, .ref (bd 0)), (3, .int (nI g)), (4, .int cs), (5, .int (nI 1)), (6, .int (nI (i + 1)))] → W p l e room_1 s m args below meth c H locs (cells + 70) (slots + 410) Q (F0 m 35 ls [])) : W p l e room_1 s m args below meth c H locs cells slots Q (F0 m 634 ls []) := by
  have hx := F.1
  have hb := F.2.1
  have hts := F.2.2.2.2
  have hA : ∀ q : Nat, s.heap.size ≤ q → (fun q => s.heap.size ≤ q) q := fun _ h => h
  refine lv_iload hx hb dL_law_634 (lv_at hl 5 rfl) ?_
  refine z_ifn_eqF (tgt := 665) F (by decide) dL_law_636 (by decide) ?_
  refine lv_aload_n hx hb dL_law_639 rfl (lv_at hl 1 rfl) ?_
  refine lx_call (As := []) (rest := []) F (c_X2_time l hfl sa D k ad M O _ hI) (cwV 0 hts gL_law_X2_time rfl rfl rfl (by decide +kernel) ⟨Nat.le_of_ble_eq_true rfl, Nat.le_of_ble_eq_true rfl⟩) hK hP hD hS hA hE rfl hl.1 rfl (Nat.le_of_ble_eq_true rfl) dL_law_640 ⟨by show _ ≤ 623114; omega, by show _ ≤ 7232282; omega⟩ (fun _ _ _ _ _ hEx _ _ _ _ _ => (ex_no hEx).elim) (fun ad19 H locs _ had hP hD hS => ?_)
  rw [← had 0 (by omega)] at hl
  refine lv_aload_n hx hb dL_law_643 rfl (lv_at hl 2 rfl) ?_
  replace hP := wPs hP
  replace hD := wDs hD
  refine lx_call (As := []) (rest := [.int (nI (M 0 0))]) F (c_X2_time l hfl sa D k bd N P _ hJ) (cwV 0 hts gL_law_X2_time rfl rfl rfl (by decide +kernel) ⟨Nat.le_of_ble_eq_true rfl, Nat.le_of_ble_eq_true rfl⟩) hK hP hD hS hA hE rfl hl.1 rfl (Nat.le_of_ble_eq_true rfl) dL_law_644 ⟨by show _ ≤ 623114; omega, by show _ ≤ 7232282; omega⟩ (fun _ _ _ _ _ hEx _ _ _ _ _ => (ex_no hEx).elim) (fun bd20 H locs _ had hP hD hS => ?_)
  rw [← had 0 (by omega)] at hl
  replace hP := wPs hP
  replace hD := wDs hD
  refine lv_icmp_ne (tgt := 665) hx hb dL_law_647 (by decide) (fun zc => absurd (congrArg nI (hy.1 0 0 (by omega) (by omega)).symm) zc) (fun _ => ?_)
  refine lv_aload_n hx hb dL_law_650 rfl (lv_at hl 1 rfl) ?_
  refine lx_call (As := []) (rest := []) F (c_X2_mostUrgent l hfl sa D k ad19 M O _ hI) (cwV 0 hts gL_law_X2_mostUrgent rfl rfl rfl (by decide +kernel) ⟨Nat.le_of_ble_eq_true rfl, Nat.le_of_ble_eq_true rfl⟩) hK hP hD hS hA hE rfl hl.1 rfl (Nat.le_of_ble_eq_true rfl) dL_law_651 ⟨by show _ ≤ 623114; omega, by show _ ≤ 7232282; omega⟩ (fun _ _ _ _ _ hEx _ _ _ _ _ => (ex_no hEx).elim) (fun ad21 H locs _ had hP hD hS => ?_)
  rw [← had 0 (by omega)] at hl
  refine lv_aload_n hx hb dL_law_654 rfl (lv_at hl 2 rfl) ?_
  replace hP := wPs hP
  replace hD := wDs hD
  refine lx_call (As := []) (rest := [.int (hdI (uB M (M 0 1)))]) F (c_X2_mostUrgent l hfl sa D k bd20 N P _ hJ) (cwV 0 hts gL_law_X2_mostUrgent rfl rfl rfl (by decide +kernel) ⟨Nat.le_of_ble_eq_true rfl, Nat.le_of_ble_eq_true rfl⟩) hK hP hD hS hA hE rfl hl.1 rfl (Nat.le_of_ble_eq_true rfl) dL_law_655 ⟨by show _ ≤ 623114; omega, by show _ ≤ 7232282; omega⟩ (fun _ _ _ _ _ hEx _ _ _ _ _ => (ex_no hEx).elim) (fun bd22 H locs _ had hP hD hS => ?_)
  rw [← had 0 (by omega)] at hl
  replace hP := wPs hP
  replace hD := wDs hD
  refine lv_icmp_ne (tgt := 665) hx hb dL_law_658 (by decide) (fun zc => absurd ((show hdI (uB M (M 0 1)) = hdI (uB N (N 0 1)) by rw [ot_uB hy.1, hy.1 0 1 (by omega) (by omega)])) zc) (fun _ => ?_)
  refine lv_iconst (v := nI 1) hx hb dL_law_661 (by decide) ?_
  refine lv_goto (tgt := 666) hx hb dL_law_662 (by decide) ?_
  refine lv_istore (lv' := [(5, .int (nI 1)), (0, .ref b), (1, .ref (ad21 0)), (2, .ref (bd22 0)), (3, .int (nI g)), (4, .int cs), (6, .int (nI i)), (9, .int (nI v)), (10, .int (nI st)), (11, .int (nI (sg g st))), (12, .int (nI (v / 4 % 40)))]) hx hb dL_law_666 hl (by decide) rfl (fun ls hl => ?_)
  refine lv_iconst (v := nI 0) hx hb dL_law_668 (by decide) ?_
  refine lv_istore (lv' := [(13, .int (nI 0)), (5, .int (nI 1)), (0, .ref b), (1, .ref (ad21 0)), (2, .ref (bd22 0)), (3, .int (nI g)), (4, .int cs), (6, .int (nI i)), (9, .int (nI v)), (10, .int (nI st)), (11, .int (nI (sg g st))), (12, .int (nI (v / 4 % 40)))]) hx hb dL_law_669 hl (by decide) rfl (fun ls hl => ?_)
  refine lp_of F hK hN hE hfl hy hI hJ (cells + 32) (slots + 192) (by omega) (by omega) (fun ad bd H locs ls hP hD hS hl => ?_) 8 0 _ _ _ _ _ _ _ (by omega) (by omega) (by omega) hP hD hS (lv_sub hl [2, 3, 4, 5, 6, 1, 7, 0, 8, 9, 10, 11] rfl)
  refine lv_iconst (v := nI 0) hx hb dL_law_726 (by decide) ?_
  refine lv_istore (lv' := [(13, .int (nI 0)), (0, .ref b), (1, .ref (ad 0)), (2, .ref (bd 0)), (3, .int (nI g)), (4, .int cs), (5, .int (nI 1)), (6, .int (nI i)), (9, .int (nI v)), (10, .int (nI st)), (11, .int (nI (sg g st))), (12, .int (nI (v / 4 % 40)))]) hx hb dL_law_727 hl (by decide) rfl (fun ls hl => ?_)
  refine lp_by F hK hN hE hfl hv hst hi9 hy hI hJ (cells + 70) (slots + 410) (by omega) (by omega) (fun ad bd H locs ls hP hD hS hl => ?_) 6 0 _ _ _ _ _ _ _ (by omega) (by omega) (by omega) hP hD hS (lv_sub hl [1, 2, 3, 4, 5, 6, 7, 0, 8, 9, 10, 11] rfl)
  refine lv_iinc (v := nI (i + 1)) (lv' := [(6, .int (nI (i + 1))), (0, .ref b), (1, .ref (ad 0)), (2, .ref (bd 0)), (3, .int (nI g)), (4, .int cs), (5, .int (nI 1)), (9, .int (nI v)), (10, .int (nI st)), (11, .int (nI (sg g st))), (12, .int (nI (v / 4 % 40)))]) hx hb dL_law_825 hl (k := 6) rfl (nI_1 i) (by decide) rfl (fun ls hl => ?_)
  refine lv_goto (tgt := 35) hx hb dL_law_828 (by decide) ?_
  exact nx _ _ _ _ _ _ _ _ _ _ hy hI hJ hP hD hS (lv_sub hl [1, 2, 3, 4, 5, 6, 0] rfl)
set_option maxRecDepth 100000 in
set_option maxHeartbeats 2000000 in
theorem lp_loop {p : Program} {l : Launch} {e : Env} {s : State} {m : MethodId} {args : Array Value} {below : List Frame} {meth : Method} {c : Code} {Q : State → Prop} {D : va_G} {k : Nat → ClassId} {sa : Nat → Nat} {b L g : Nat} {xs : Nat → Int32} (F : CallFix p m c cL_law 16 s args wsL_law RL) (hK : va_K D vwCl (tyL k) s) (hN : lwN s) (hE : zE (fun q => s.heap.size ≤ q) sa s s.heap) (hfl : l.stackTraces = false) (hX : va_X b L xs s s.heap) (hbl : b < s.heap.size) (hL : L ≤ 260) (hg4 : g < 4) (kend : ∀ (H : Heap) (locs : List Loc) (ls : Array Slot) (ad bd : Nat → Nat) (cs : Int32) (i : Nat), va_S (fun q => s.heap.size ≤ q) s.heap H locs → lv_has ls 16 [(0, .ref b), (1, .ref (ad 0)), (2, .ref (bd 0)), (3, .int (nI g)), (4, .int cs), (5, .int (nI 1)), (6, .int (nI i))] → W p l e room_1 s m args below meth c H locs 623114 7232282 Q (F0 m 831 ls [])) :
    ∀ (n i cells slots : Nat) (M N : Nat → Nat → Nat) (O P : Nat → Nat → Int32) (ad bd : Nat → Nat) (cs : Int32) (H : Heap) (locs : List Loc) (ls : Array Slot), i + n = 120 → cells + 90 * n ≤ 623114 → slots + 500 * n ≤ 7232282 → Sy g M O N P → zInv M → zInv N → va_P D vwCl (zw (20 + 2 * M 0 1) ad (cX k ad M O) ++ zw (20 + 2 * N 0 1) bd (cX k bd N P)) H → va_D (fun q => s.heap.size ≤ q) (zw (20 + 2 * M 0 1) ad (cX k ad M O) ++ zw (20 + 2 * N 0 1) bd (cX k bd N P)) → va_S (fun q => s.heap.size ≤ q) s.heap H locs → lv_has ls 16 [(0, .ref b), (1, .ref (ad 0)), (2, .ref (bd 0)), (3, .int (nI g)), (4, .int cs), (5, .int (nI 1)), (6, .int (nI i))] → W p l e room_1 s m args below meth c H locs cells slots Q (F0 m 35 ls []) := by
  have hx := F.1
  have hb := F.2.1
  have hts := F.2.2.2.2
  have hA : ∀ q : Nat, s.heap.size ≤ q → (fun q => s.heap.size ≤ q) q := fun _ h => h
  have hbA : ¬ (fun q => s.heap.size ≤ q) b := fun zz1 => absurd hbl (Nat.not_lt.mpr zz1)
  intro n
  induction n with
  | zero =>
    intro i cells slots M N O P ad bd cs H locs ls hn hc1 hc2 hy hI hJ hP hD hS hl
    refine lv_iload hx hb dL_law_35 (lv_at hl 6 rfl) ?_
    refine lv_bipush (v := nI 120) hx hb dL_law_37 (by decide) ?_
    refine z_icmp_ge (tgt := 831) F (by omega) (by omega) dL_law_39 (by decide) (fun _ => ?_) (fun zc => absurd zc (by omega))
    refine W.widen (k := 623114) (n := 7232282) (by omega) (by omega) ?_
    exact kend _ _ _ _ _ _ _ hS hl
  | succ fu ih =>
    intro i cells slots M N O P ad bd cs H locs ls hn hc1 hc2 hy hI hJ hP hD hS hl
    refine lv_iload hx hb dL_law_35 (lv_at hl 6 rfl) ?_
    refine lv_bipush (v := nI 120) hx hb dL_law_37 (by decide) ?_
    refine z_icmp_ge (tgt := 831) F (by omega) (by omega) dL_law_39 (by decide) (fun zc => absurd zc (by omega)) (fun _ => ?_)
    refine lv_iload hx hb dL_law_42 (lv_at hl 5 rfl) ?_
    refine z_ifn_eqF (tgt := 831) F (by decide) dL_law_44 (by decide) ?_
    refine lv_aload_n hx hb dL_law_47 rfl (lv_at hl 0 rfl) ?_
    refine lv_iload hx hb dL_law_48 (lv_at hl 6 rfl) ?_
    refine lv_bipush (v := nI 60) hx hb dL_law_50 (by decide) ?_
    refine z_rem F (by omega) (by omega) (by omega) dL_law_52 ?_
    refine tw_drawn (rest := []) F (c_L_drawn l (show i % 60 < 120 by omega) hL) (va_cwS 2 hts gL_law_L_drawn rfl rfl rfl (by decide +kernel) ⟨Nat.le_of_ble_eq_true rfl, Nat.le_of_ble_eq_true rfl⟩) hX hbl hbA hS rfl hl.1 rfl (Nat.le_of_ble_eq_true rfl) dL_law_53 ⟨by show _ ≤ 623114; omega, by show _ ≤ 7232282; omega⟩ (fun d hd => ?_)
    have hdz := Nat.div_le_self d (1 + i / 60)
    refine lv_iconst (v := nI 1) hx hb dL_law_56 (by decide) ?_
    refine lv_iload hx hb dL_law_57 (lv_at hl 6 rfl) ?_
    refine lv_bipush (v := nI 60) hx hb dL_law_59 (by decide) ?_
    refine z_div F (by omega) (by omega) (by omega) dL_law_61 ?_
    refine z_add F dL_law_62 ?_
    refine z_div F (by omega) (by omega) (by omega) dL_law_63 ?_
    refine lv_bipush (v := nI 7) hx hb dL_law_64 (by decide) ?_
    refine lv_iload hx hb dL_law_66 (lv_at hl 6 rfl) ?_
    refine lv_bipush (v := nI 60) hx hb dL_law_68 (by decide) ?_
    refine z_div F (by omega) (by omega) (by omega) dL_law_70 ?_
    refine z_mul F dL_law_71 ?_
    refine z_add F dL_law_72 ?_
    generalize hgz : (d / (1 + (i / 60))) + (7 * (i / 60)) = z
    have hz : z < 1073742000 := by omega
    refine lv_istore (lv' := [(7, .int (nI z)), (0, .ref b), (1, .ref (ad 0)), (2, .ref (bd 0)), (3, .int (nI g)), (4, .int cs), (5, .int (nI 1)), (6, .int (nI i))]) hx hb dL_law_73 hl (by decide) rfl (fun ls hl => ?_)
    refine lv_iload hx hb dL_law_75 (lv_at hl 0 rfl) ?_
    refine lv_bipush (v := nI 18) hx hb dL_law_77 (by decide) ?_
    refine z_rem F (by omega) (by omega) (by omega) dL_law_79 ?_
    generalize hgkd : z % 18 = kd
    have hkd : kd < 18 := by omega
    refine lv_istore (lv' := [(8, .int (nI kd)), (7, .int (nI z)), (0, .ref b), (1, .ref (ad 0)), (2, .ref (bd 0)), (3, .int (nI g)), (4, .int cs), (5, .int (nI 1)), (6, .int (nI i))]) hx hb dL_law_80 hl (by decide) rfl (fun ls hl => ?_)
    refine lv_iload hx hb dL_law_82 (lv_at hl 1 rfl) ?_
    refine lv_bipush (v := nI 18) hx hb dL_law_84 (by decide) ?_
    refine z_div F (by omega) (by omega) (by omega) dL_law_86 ?_
    generalize hgv : z / 18 = v
    have hv : v < 1073741824 := by omega
    refine lv_istore (lv' := [(9, .int (nI v)), (8, .int (nI kd)), (7, .int (nI z)), (0, .ref b), (1, .ref (ad 0)), (2, .ref (bd 0)), (3, .int (nI g)), (4, .int cs), (5, .int (nI 1)), (6, .int (nI i))]) hx hb dL_law_87 hl (by decide) rfl (fun ls hl => ?_)
    refine lv_iload hx hb dL_law_89 (lv_at hl 0 rfl) ?_
    refine lv_iconst (v := nI 4) hx hb dL_law_91 (by decide) ?_
    refine z_rem F (by omega) (by omega) (by omega) dL_law_92 ?_
    generalize hgst : v % 4 = st
    have hst : st < 4 := by omega
    refine lv_istore (lv' := [(10, .int (nI st)), (9, .int (nI v)), (8, .int (nI kd)), (7, .int (nI z)), (0, .ref b), (1, .ref (ad 0)), (2, .ref (bd 0)), (3, .int (nI g)), (4, .int cs), (5, .int (nI 1)), (6, .int (nI i))]) hx hb dL_law_93 hl (by decide) rfl (fun ls hl => ?_)
    refine lv_iload hx hb dL_law_95 (lv_at hl 0 rfl) ?_
    refine lv_iload_n hx hb dL_law_97 rfl (lv_at hl 7 rfl) ?_
    refine z_add F dL_law_98 ?_
    refine lv_iconst (v := nI 4) hx hb dL_law_99 (by decide) ?_
    refine z_rem F (by omega) (by omega) (by omega) dL_law_100 ?_
    refine z_top (show nI ((st + g) % 4) = nI (sg g st) from rfl) ?_
    refine lv_istore (lv' := [(11, .int (nI (sg g st))), (10, .int (nI st)), (9, .int (nI v)), (8, .int (nI kd)), (7, .int (nI z)), (0, .ref b), (1, .ref (ad 0)), (2, .ref (bd 0)), (3, .int (nI g)), (4, .int cs), (5, .int (nI 1)), (6, .int (nI i))]) hx hb dL_law_101 hl (by decide) rfl (fun ls hl => ?_)
    refine lv_iload hx hb dL_law_103 (lv_at hl 2 rfl) ?_
    refine lv_iconst (v := nI 4) hx hb dL_law_105 (by decide) ?_
    refine z_div F (by omega) (by omega) (by omega) dL_law_106 ?_
    refine lv_bipush (v := nI 40) hx hb dL_law_107 (by decide) ?_
    refine z_rem F (by omega) (by omega) (by omega) dL_law_109 ?_
    refine lv_istore (lv' := [(12, .int (nI ((v / 4) % 40))), (11, .int (nI (sg g st))), (10, .int (nI st)), (9, .int (nI v)), (8, .int (nI kd)), (7, .int (nI z)), (0, .ref b), (1, .ref (ad 0)), (2, .ref (bd 0)), (3, .int (nI g)), (4, .int cs), (5, .int (nI 1)), (6, .int (nI i))]) hx hb dL_law_110 hl (by decide) rfl (fun ls hl => ?_)
    refine lp_switch F hK hN hE hfl hkd hv hst hy hI hJ hP hD hS (lv_sub hl [6, 7, 8, 9, 10, 11, 12, 4, 3, 2, 1, 0] rfl) (by omega) (by omega) (fun M N O P ad bd cs H locs ls hy hI hJ hP hD hS hl => ?_)
    refine lp_tail F hK hN hE hfl hv hst (show i < 120 by omega) hy hI hJ hP hD hS hl (by omega) (by omega) (fun M N O P ad bd cs H locs ls hy hI hJ hP hD hS hl => ?_)
    exact ih (i + 1) _ _ _ _ _ _ _ _ _ _ _ _ (by omega) (by omega) (by omega) hy hI hJ hP hD hS hl
