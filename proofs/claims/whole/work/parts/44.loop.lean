/-! EACH CASE over the real contracts, and the loop. -/
theorem x3_z {a b c : Prop} (h : x3 a b c = 0) : a ∧ b ∧ c := Classical.byContradiction fun zz1 => x3_no zz1 h
theorem x3_le {a b c : Prop} : x3 a b c ≤ 3 := by
  by_cases ha1 : a
  · by_cases hb1 : b
    · by_cases hc1 : c
      · rw [x3_0 ha1 hb1 hc1]; decide
      · rw [x3_3 ha1 hb1 hc1]; decide
    · rw [x3_2 ha1 hb1]; decide
  · rw [x3_1 ha1]; decide
theorem and31 (zx : Int32) : ∃ v : Nat, v < 32 ∧ zx &&& nI 31 = nI v := by
  refine ⟨zx.toBitVec.toNat % 32, Nat.mod_lt _ (by decide), Int32.toBitVec_inj.mp (BitVec.eq_of_toNat_eq ?_)⟩
  have n1 : (zx.toBitVec &&& (nI 31).toBitVec).toNat = zx.toBitVec.toNat % 2 ^ 5 := by rw [BitVec.toNat_and, show (nI 31).toBitVec.toNat = 2 ^ 5 - 1 from by decide, Nat.and_two_pow_sub_one_eq_mod]
  show (zx.toBitVec &&& (nI 31).toBitVec).toNat = (BitVec.ofNat 32 (zx.toBitVec.toNat % 32)).toNat
  rw [n1, BitVec.toNat_ofNat]
  omega
set_option maxRecDepth 100000 in
set_option maxHeartbeats 2000000 in
theorem iz_setCalendar {M : Nat → Nat → Nat} (hI : zInv M) (p0 p1 p2 p3 : Int32) : zInv (if (x3 (zI 4 p0) ((nI 0 ≤ p1 ∧ p1 ≤ nI 127) ∧ (nI 0 ≤ p2 ∧ p2 ≤ nI 23) ∧ (p2 ≤ p3 ∧ p3 ≤ nI 23)) (True)) = 0 then (zu (zu (zu M 1 (ix p0) (ix p1)) 2 (ix p0) (ix p2)) 3 (ix p0) (ix p3)) else M) := by
  have h40 := hI.2.1
  split
  · next hx0 =>
    obtain ⟨⟨i, hi, rfl⟩, ⟨c1, c2, c3⟩, -⟩ := x3_z hx0
    obtain ⟨b1, hb10, hb1, rfl⟩ := (zB_iff (by omega) (by decide)).mp c1
    obtain ⟨b2, hb20, hb2, rfl⟩ := (zB_iff (by omega) (by decide)).mp c2
    obtain ⟨b3, hb30, hb3, rfl⟩ := (zB_iff (by omega) (by decide)).mp c3
    try rw [ix_nI (show i < 2 ^ 31 by omega)]
    try rw [ix_nI (show b1 < 2 ^ 31 by omega)]
    try rw [ix_nI (show b2 < 2 ^ 31 by omega)]
    try rw [ix_nI (show b3 < 2 ^ 31 by omega)]
    exact zInv_cal hI hb1 hb30 hb3
  · exact hI
set_option maxRecDepth 100000 in
set_option maxHeartbeats 2000000 in
theorem iz_addContract {M : Nat → Nat → Nat} (hI : zInv M) (p0 p1 p2 p3 : Int32) : zInv (if (x3 (zI 4 p0) ((nI 1 ≤ p1 ∧ p1 ≤ nI 15) ∧ (nI 0 ≤ p2 ∧ p2 ≤ nI 1000) ∧ (p2 ≤ p3 ∧ p3 ≤ nI 1000)) (M 7 (ix p0) < 8)) = 0 then (kcM M (ix p0) (ix p1) (ix p2) (ix p3)) else M) := by
  have h40 := hI.2.1
  split
  · next hx0 =>
    obtain ⟨⟨i, hi, rfl⟩, ⟨c1, c2, c3⟩, h8⟩ := x3_z hx0
    obtain ⟨b1, hb10, hb1, rfl⟩ := (zB_iff (by omega) (by decide)).mp c1
    obtain ⟨b2, hb20, hb2, rfl⟩ := (zB_iff (by omega) (by decide)).mp c2
    obtain ⟨b3, hb30, hb3, rfl⟩ := (zB_iff (by omega) (by decide)).mp c3
    try rw [ix_nI (show i < 2 ^ 31 by omega)]
    try rw [ix_nI (show b1 < 2 ^ 31 by omega)]
    try rw [ix_nI (show b2 < 2 ^ 31 by omega)]
    try rw [ix_nI (show b3 < 2 ^ 31 by omega)]
    rw [ix_nI (show i < 2 ^ 31 by omega)] at h8
    exact zInv_kc hI hi h8 (by omega) hb2 hb3
  · exact hI
set_option maxRecDepth 100000 in
set_option maxHeartbeats 2000000 in
theorem iz_setPromise {M : Nat → Nat → Nat} (hI : zInv M) (p0 p1 p2 : Int32) : zInv (if (x3 (True) ((nI 0 ≤ p0 ∧ p0 ≤ nI 2) ∧ (nI 0 ≤ p1 ∧ p1 ≤ nI 2) ∧ (nI 1 ≤ p2 ∧ p2 ≤ nI 1000)) (True)) = 0 then (zu M 8 (3 * ix p0 + ix p1) (ix p2)) else M) := by
  have h40 := hI.2.1
  split
  · next hx0 =>
    obtain ⟨-, ⟨c1, c2, c3⟩, -⟩ := x3_z hx0
    obtain ⟨b1, hb10, hb1, rfl⟩ := (zB_iff (by omega) (by decide)).mp c1
    obtain ⟨b2, hb20, hb2, rfl⟩ := (zB_iff (by omega) (by decide)).mp c2
    obtain ⟨b3, hb30, hb3, rfl⟩ := (zB_iff (by omega) (by decide)).mp c3
    try rw [ix_nI (show b1 < 2 ^ 31 by omega)]
    try rw [ix_nI (show b2 < 2 ^ 31 by omega)]
    try rw [ix_nI (show b3 < 2 ^ 31 by omega)]
    exact zInv_prom hI ⟨hb30, hb3⟩
  · exact hI
set_option maxRecDepth 100000 in
set_option maxHeartbeats 2000000 in
theorem iz_pass {M : Nat → Nat → Nat} (hI : zInv M) (p0 : Int32) : zInv (if (x3 (True) (nI 1 ≤ p0 ∧ p0 ≤ nI 1000) (M 0 0 + ix p0 ≤ 24000)) = 0 then (zu (rkM M (M 0 0) (M 0 0 + ix p0) (M 0 1)) 0 0 (M 0 0 + ix p0)) else M) := by
  split
  · next hx0 =>
    obtain ⟨-, -, h8⟩ := x3_z hx0
    exact zInv_pass hI h8
  · exact hI
set_option maxRecDepth 100000 in
set_option maxHeartbeats 2000000 in
theorem iz_open {M : Nat → Nat → Nat} (hI : zInv M) (p0 p1 p2 : Int32) : zInv (if (x3 (zI 4 p0 ∧ zI 4 p1) (nI 0 ≤ p2 ∧ p2 ≤ nI 2) (M 0 1 < 40)) = 0 then (opM M (ix p0) (ix p1) (ix p2)) else M) := by
  have h40 := hI.2.1
  split
  · next hx0 =>
    obtain ⟨⟨⟨i, hi, rfl⟩, ⟨j, hj, rfl⟩⟩, c1, h8⟩ := x3_z hx0
    obtain ⟨b1, hb10, hb1, rfl⟩ := (zB_iff (by omega) (by decide)).mp c1
    try rw [ix_nI (show i < 2 ^ 31 by omega)]
    try rw [ix_nI (show j < 2 ^ 31 by omega)]
    try rw [ix_nI (show b1 < 2 ^ 31 by omega)]
    exact zInv_open hI h8 hi hj hb1
  · exact hI
set_option maxRecDepth 100000 in
set_option maxHeartbeats 2000000 in
theorem iz_reach {M : Nat → Nat → Nat} (hI : zInv M) (p0 p1 : Int32) : zInv (if (x3 (zI (M 0 1) p0) (nI 0 ≤ p1 ∧ p1 ≤ nI 2) (M 12 (ix p0) = 0 ∧ ¬ ix p1 < M 16 (ix p0))) = 0 then (reM M (ix p0) (ix p1)) else M) := by
  have h40 := hI.2.1
  split
  · next hx0 =>
    obtain ⟨⟨i, hi, rfl⟩, c1, -⟩ := x3_z hx0
    obtain ⟨b1, hb10, hb1, rfl⟩ := (zB_iff (by omega) (by decide)).mp c1
    try rw [ix_nI (show i < 2 ^ 31 by omega)]
    try rw [ix_nI (show b1 < 2 ^ 31 by omega)]
    exact zInv_reach hI hi hb1
  · exact hI
set_option maxRecDepth 100000 in
set_option maxHeartbeats 2000000 in
theorem iz_rest {M : Nat → Nat → Nat} (hI : zInv M) (p0 : Int32) (b1 : Nat) (hb1 : b1 ≤ 1) : zInv (if (x3 (zI (M 0 1) p0) (True) (M 12 (ix p0) = 0)) = 0 then (zu M 14 (ix p0) b1) else M) := by
  have h40 := hI.2.1
  split
  · next hx0 =>
    obtain ⟨⟨i, hi, rfl⟩, -, -⟩ := x3_z hx0
    try rw [ix_nI (show i < 2 ^ 31 by omega)]
    exact zInv_rest hI hi hb1
  · exact hI
set_option maxRecDepth 100000 in
set_option maxHeartbeats 2000000 in
theorem iz_setGravity {M : Nat → Nat → Nat} (hI : zInv M) (p0 p1 : Int32) : zInv (if (x3 (zI (M 0 1) p0) (nI 0 ≤ p1 ∧ p1 ≤ nI 2) (M 12 (ix p0) = 0)) = 0 then (zu M 11 (ix p0) (ix p1)) else M) := by
  have h40 := hI.2.1
  split
  · next hx0 =>
    obtain ⟨⟨i, hi, rfl⟩, c1, -⟩ := x3_z hx0
    obtain ⟨b1, hb10, hb1, rfl⟩ := (zB_iff (by omega) (by decide)).mp c1
    try rw [ix_nI (show i < 2 ^ 31 by omega)]
    try rw [ix_nI (show b1 < 2 ^ 31 by omega)]
    exact zInv_grav hI hi (by omega)
  · exact hI
set_option maxRecDepth 100000 in
set_option maxHeartbeats 2000000 in
theorem iz_join {M : Nat → Nat → Nat} (hI : zInv M) (p0 p1 : Int32) : zInv (if (x3 (zI (M 0 1) p0 ∧ zI (M 0 1) p1) (ix p0 ≠ ix p1 ∧ M 9 (ix p0) = M 9 (ix p1)) (M 12 (ix p0) = 0 ∧ M 12 (ix p1) = 0 ∧ jN M (ix p0) (M 0 1) = 0)) = 0 then (zu (zu M 12 (ix p0) 1) 13 (ix p0) (ix p1 + 1)) else M) := by
  have h40 := hI.2.1
  split
  · next hx0 =>
    obtain ⟨⟨⟨i, hi, rfl⟩, ⟨j, hj, rfl⟩⟩, -, -⟩ := x3_z hx0
    try rw [ix_nI (show i < 2 ^ 31 by omega)]
    try rw [ix_nI (show j < 2 ^ 31 by omega)]
    exact zInv_join hI hi hj
  · exact hI
set_option maxRecDepth 100000 in
set_option maxHeartbeats 2000000 in
theorem iz_openAnew {M : Nat → Nat → Nat} (hI : zInv M) (p0 : Int32) : zInv (if (x3 (zI (M 0 1) p0) (True) (M 12 (ix p0) = 2)) = 0 then (zu (zu (zu M 12 (ix p0) 0) 14 (ix p0) 0) 16 (ix p0) (min (M 16 (ix p0)) 2)) else M) := by
  have h40 := hI.2.1
  split
  · next hx0 =>
    obtain ⟨⟨i, hi, rfl⟩, -, -⟩ := x3_z hx0
    try rw [ix_nI (show i < 2 ^ 31 by omega)]
    exact zInv_openAnew hI hi
  · exact hI
set_option maxRecDepth 100000 in
set_option maxHeartbeats 2000000 in
theorem ld_setCalendar {p : Program} {l : Launch} {e : Env} {s : State} {m : MethodId} {args : Array Value} {below : List Frame} {meth : Method} {c : Code} {cells slots : Nat} {Q : State → Prop} {D : va_G} {k : Nat → ClassId} {sa : Nat → Nat} {b L i : Nat} {xs : Nat → Int32} {ad bd : Nat → Nat} {o : Nat} {g : Nat → Int64} {M : Nat → Nat → Nat} {O : Nat → Nat → Int32} {th : Int32} {H : Heap} {locs : List Loc} {ls : Array Slot} (F : CallFix p m c cL_law 7 s args wsL_law RL) (hK : va_K D vwCl (tyL k) s) (hN : lwN s) (hE : zE (fun q => s.heap.size ≤ q) sa s s.heap) (hX : va_X b L xs s s.heap) (hbl : b < s.heap.size) (hi : i + 5 ≤ L) (hL : L ≤ 2560) (hc1 : cells + 6 ≤ 601024) (hc2 : slots + 35 ≤ 7293034) (hfl : l.stackTraces = false) (hI : zInv M) (hP : va_P D vwCl (lX k o g ad M O ++ zw 19 bd (cM k bd M O th)) H) (hD : va_D (fun q => s.heap.size ≤ q) (lX k o g ad M O ++ zw 19 bd (cM k bd M O th))) (hS : va_S (fun q => s.heap.size ≤ q) s.heap H locs) (hl : lv_has ls 7 [(0, .ref b), (1, .ref (ad 0)), (2, .ref (bd 0)), (3, .ref o), (4, .int (nI i))])
    (nx : ∀ (M : Nat → Nat → Nat) (O : Nat → Nat → Int32) (th : Int32) (g : Nat → Int64) (ad : Nat → Nat) (H : Heap) (locs : List Loc) (ls : Array Slot), zInv M → va_P D vwCl (lX k o g ad M O ++ zw 19 bd (cM k bd M O th)) H → va_D (fun q => s.heap.size ≤ q) (lX k o g ad M O ++ zw 19 bd (cM k bd M O th)) → va_S (fun q => s.heap.size ≤ q) s.heap H locs → lv_has ls 7 [(0, .ref b), (1, .ref (ad 0)), (2, .ref (bd 0)), (3, .ref o), (4, .int (nI i))] → W p l e room_1 s m args below meth c H locs (cells + 6) (slots + 35) Q (F0 m 1755 ls [])) : W p l e room_1 s m args below meth c H locs cells slots Q (F0 m 148 ls []) := by
  exact lc_setCalendar F hK hN hE hX hbl hi hL hc1 hc2 hP hD hS hl (c_X2_setCalendar l hfl sa D k ad M O H.size hI _ _ _ _) (fun sz => c_X3_setCalendar l D k bd M O th sz hI _ _ _ _) x3_le x3_ne3 (fun hq0 => ⟨if_pos hq0, rfl⟩) (fun hq0 => ⟨if_neg hq0, rfl⟩) (fun g1 ad1 H locs ls hP hD hS hl => nx _ _ _ _ _ _ _ _ (iz_setCalendar hI _ _ _ _) hP hD hS hl)
set_option maxRecDepth 100000 in
set_option maxHeartbeats 2000000 in
theorem ld_addContract {p : Program} {l : Launch} {e : Env} {s : State} {m : MethodId} {args : Array Value} {below : List Frame} {meth : Method} {c : Code} {cells slots : Nat} {Q : State → Prop} {D : va_G} {k : Nat → ClassId} {sa : Nat → Nat} {b L i : Nat} {xs : Nat → Int32} {ad bd : Nat → Nat} {o : Nat} {g : Nat → Int64} {M : Nat → Nat → Nat} {O : Nat → Nat → Int32} {th : Int32} {H : Heap} {locs : List Loc} {ls : Array Slot} (F : CallFix p m c cL_law 7 s args wsL_law RL) (hK : va_K D vwCl (tyL k) s) (hN : lwN s) (hE : zE (fun q => s.heap.size ≤ q) sa s s.heap) (hX : va_X b L xs s s.heap) (hbl : b < s.heap.size) (hi : i + 5 ≤ L) (hL : L ≤ 2560) (hc1 : cells + 6 ≤ 601024) (hc2 : slots + 35 ≤ 7293034) (hfl : l.stackTraces = false) (hI : zInv M) (hP : va_P D vwCl (lX k o g ad M O ++ zw 19 bd (cM k bd M O th)) H) (hD : va_D (fun q => s.heap.size ≤ q) (lX k o g ad M O ++ zw 19 bd (cM k bd M O th))) (hS : va_S (fun q => s.heap.size ≤ q) s.heap H locs) (hl : lv_has ls 7 [(0, .ref b), (1, .ref (ad 0)), (2, .ref (bd 0)), (3, .ref o), (4, .int (nI i))])
    (nx : ∀ (M : Nat → Nat → Nat) (O : Nat → Nat → Int32) (th : Int32) (g : Nat → Int64) (ad : Nat → Nat) (H : Heap) (locs : List Loc) (ls : Array Slot), zInv M → va_P D vwCl (lX k o g ad M O ++ zw 19 bd (cM k bd M O th)) H → va_D (fun q => s.heap.size ≤ q) (lX k o g ad M O ++ zw 19 bd (cM k bd M O th)) → va_S (fun q => s.heap.size ≤ q) s.heap H locs → lv_has ls 7 [(0, .ref b), (1, .ref (ad 0)), (2, .ref (bd 0)), (3, .ref o), (4, .int (nI i))] → W p l e room_1 s m args below meth c H locs (cells + 6) (slots + 35) Q (F0 m 1755 ls [])) : W p l e room_1 s m args below meth c H locs cells slots Q (F0 m 240 ls []) := by
  exact lc_addContract F hK hN hE hX hbl hi hL hc1 hc2 hP hD hS hl (c_X2_addContract l hfl sa D k ad M O H.size hI _ _ _ _) (fun sz => c_X3_addContract l D k bd M O th sz hI _ _ _ _) x3_le (fun hq0 => ⟨if_pos hq0, rfl⟩) (fun hq0 => ⟨if_neg hq0, rfl⟩) (fun g1 ad1 H locs ls hP hD hS hl => nx _ _ _ _ _ _ _ _ (iz_addContract hI _ _ _ _) hP hD hS hl)
set_option maxRecDepth 100000 in
set_option maxHeartbeats 2000000 in
theorem ld_setPromise {p : Program} {l : Launch} {e : Env} {s : State} {m : MethodId} {args : Array Value} {below : List Frame} {meth : Method} {c : Code} {cells slots : Nat} {Q : State → Prop} {D : va_G} {k : Nat → ClassId} {sa : Nat → Nat} {b L i : Nat} {xs : Nat → Int32} {ad bd : Nat → Nat} {o : Nat} {g : Nat → Int64} {M : Nat → Nat → Nat} {O : Nat → Nat → Int32} {th : Int32} {H : Heap} {locs : List Loc} {ls : Array Slot} (F : CallFix p m c cL_law 7 s args wsL_law RL) (hK : va_K D vwCl (tyL k) s) (hN : lwN s) (hE : zE (fun q => s.heap.size ≤ q) sa s s.heap) (hX : va_X b L xs s s.heap) (hbl : b < s.heap.size) (hi : i + 5 ≤ L) (hL : L ≤ 2560) (hc1 : cells + 6 ≤ 601024) (hc2 : slots + 35 ≤ 7293034) (hfl : l.stackTraces = false) (hI : zInv M) (hP : va_P D vwCl (lX k o g ad M O ++ zw 19 bd (cM k bd M O th)) H) (hD : va_D (fun q => s.heap.size ≤ q) (lX k o g ad M O ++ zw 19 bd (cM k bd M O th))) (hS : va_S (fun q => s.heap.size ≤ q) s.heap H locs) (hl : lv_has ls 7 [(0, .ref b), (1, .ref (ad 0)), (2, .ref (bd 0)), (3, .ref o), (4, .int (nI i))])
    (nx : ∀ (M : Nat → Nat → Nat) (O : Nat → Nat → Int32) (th : Int32) (g : Nat → Int64) (ad : Nat → Nat) (H : Heap) (locs : List Loc) (ls : Array Slot), zInv M → va_P D vwCl (lX k o g ad M O ++ zw 19 bd (cM k bd M O th)) H → va_D (fun q => s.heap.size ≤ q) (lX k o g ad M O ++ zw 19 bd (cM k bd M O th)) → va_S (fun q => s.heap.size ≤ q) s.heap H locs → lv_has ls 7 [(0, .ref b), (1, .ref (ad 0)), (2, .ref (bd 0)), (3, .ref o), (4, .int (nI i))] → W p l e room_1 s m args below meth c H locs (cells + 6) (slots + 35) Q (F0 m 1755 ls [])) : W p l e room_1 s m args below meth c H locs cells slots Q (F0 m 332 ls []) := by
  exact lc_setPromise F hK hN hE hX hbl hi hL hc1 hc2 hP hD hS hl (c_X2_setPromise l hfl sa D k ad M O H.size hI _ _ _) (fun sz => c_X3_setPromise l D k bd M O th sz hI _ _ _) x3_le x3_ne1 x3_ne3 (fun hq0 => ⟨if_pos hq0, rfl⟩) (fun hq0 => ⟨if_neg hq0, rfl⟩) (fun g1 ad1 H locs ls hP hD hS hl => nx _ _ _ _ _ _ _ _ (iz_setPromise hI _ _ _) hP hD hS hl)
set_option maxRecDepth 100000 in
set_option maxHeartbeats 2000000 in
theorem ld_isCovered {p : Program} {l : Launch} {e : Env} {s : State} {m : MethodId} {args : Array Value} {below : List Frame} {meth : Method} {c : Code} {cells slots : Nat} {Q : State → Prop} {D : va_G} {k : Nat → ClassId} {sa : Nat → Nat} {b L i : Nat} {xs : Nat → Int32} {ad bd : Nat → Nat} {o : Nat} {g : Nat → Int64} {M : Nat → Nat → Nat} {O : Nat → Nat → Int32} {th : Int32} {H : Heap} {locs : List Loc} {ls : Array Slot} (F : CallFix p m c cL_law 7 s args wsL_law RL) (hK : va_K D vwCl (tyL k) s) (hN : lwN s) (hE : zE (fun q => s.heap.size ≤ q) sa s s.heap) (hX : va_X b L xs s s.heap) (hbl : b < s.heap.size) (hi : i + 5 ≤ L) (hL : L ≤ 2560) (hc1 : cells + 6 ≤ 601024) (hc2 : slots + 35 ≤ 7293034) (hfl : l.stackTraces = false) (hI : zInv M) (hP : va_P D vwCl (lX k o g ad M O ++ zw 19 bd (cM k bd M O th)) H) (hD : va_D (fun q => s.heap.size ≤ q) (lX k o g ad M O ++ zw 19 bd (cM k bd M O th))) (hS : va_S (fun q => s.heap.size ≤ q) s.heap H locs) (hl : lv_has ls 7 [(0, .ref b), (1, .ref (ad 0)), (2, .ref (bd 0)), (3, .ref o), (4, .int (nI i))])
    (nx : ∀ (M : Nat → Nat → Nat) (O : Nat → Nat → Int32) (th : Int32) (g : Nat → Int64) (ad : Nat → Nat) (H : Heap) (locs : List Loc) (ls : Array Slot), zInv M → va_P D vwCl (lX k o g ad M O ++ zw 19 bd (cM k bd M O th)) H → va_D (fun q => s.heap.size ≤ q) (lX k o g ad M O ++ zw 19 bd (cM k bd M O th)) → va_S (fun q => s.heap.size ≤ q) s.heap H locs → lv_has ls 7 [(0, .ref b), (1, .ref (ad 0)), (2, .ref (bd 0)), (3, .ref o), (4, .int (nI i))] → W p l e room_1 s m args below meth c H locs (cells + 6) (slots + 35) Q (F0 m 1755 ls [])) : W p l e room_1 s m args below meth c H locs cells slots Q (F0 m 412 ls []) := by
  exact lc_isCovered F hK hN hE hX hbl hi hL hc1 hc2 hP hD hS hl (c_X2_isCovered l hfl sa D k ad M O H.size hI _ _ _) (fun sz => c_X3_isCovered l D k bd M O th sz hI _ _ _) x3_le x3_ne3 (fun _ => ⟨rfl, rfl⟩) (fun _ => ⟨rfl, rfl⟩) (fun g1 ad1 H locs ls hP hD hS hl => nx _ _ _ _ _ _ _ _ hI hP hD hS hl)
set_option maxRecDepth 100000 in
set_option maxHeartbeats 2000000 in
theorem ld_nextGap {p : Program} {l : Launch} {e : Env} {s : State} {m : MethodId} {args : Array Value} {below : List Frame} {meth : Method} {c : Code} {cells slots : Nat} {Q : State → Prop} {D : va_G} {k : Nat → ClassId} {sa : Nat → Nat} {b L i : Nat} {xs : Nat → Int32} {ad bd : Nat → Nat} {o : Nat} {g : Nat → Int64} {M : Nat → Nat → Nat} {O : Nat → Nat → Int32} {th : Int32} {H : Heap} {locs : List Loc} {ls : Array Slot} (F : CallFix p m c cL_law 7 s args wsL_law RL) (hK : va_K D vwCl (tyL k) s) (hN : lwN s) (hE : zE (fun q => s.heap.size ≤ q) sa s s.heap) (hX : va_X b L xs s s.heap) (hbl : b < s.heap.size) (hi : i + 5 ≤ L) (hL : L ≤ 2560) (hc1 : cells + 6 ≤ 601024) (hc2 : slots + 35 ≤ 7293034) (hfl : l.stackTraces = false) (hI : zInv M) (hP : va_P D vwCl (lX k o g ad M O ++ zw 19 bd (cM k bd M O th)) H) (hD : va_D (fun q => s.heap.size ≤ q) (lX k o g ad M O ++ zw 19 bd (cM k bd M O th))) (hS : va_S (fun q => s.heap.size ≤ q) s.heap H locs) (hl : lv_has ls 7 [(0, .ref b), (1, .ref (ad 0)), (2, .ref (bd 0)), (3, .ref o), (4, .int (nI i))])
    (nx : ∀ (M : Nat → Nat → Nat) (O : Nat → Nat → Int32) (th : Int32) (g : Nat → Int64) (ad : Nat → Nat) (H : Heap) (locs : List Loc) (ls : Array Slot), zInv M → va_P D vwCl (lX k o g ad M O ++ zw 19 bd (cM k bd M O th)) H → va_D (fun q => s.heap.size ≤ q) (lX k o g ad M O ++ zw 19 bd (cM k bd M O th)) → va_S (fun q => s.heap.size ≤ q) s.heap H locs → lv_has ls 7 [(0, .ref b), (1, .ref (ad 0)), (2, .ref (bd 0)), (3, .ref o), (4, .int (nI i))] → W p l e room_1 s m args below meth c H locs (cells + 6) (slots + 35) Q (F0 m 1755 ls [])) : W p l e room_1 s m args below meth c H locs cells slots Q (F0 m 499 ls []) := by
  exact lc_nextGap F hK hN hE hX hbl hi hL hc1 hc2 hP hD hS hl (c_X2_nextGap l hfl sa D k ad M O H.size hI _ _ _) (fun sz => c_X3_nextGap l D k bd M O th sz hI _ _ _) x3_le x3_ne3 (fun _ => ⟨rfl, rfl⟩) (fun _ => ⟨rfl, rfl⟩) (fun g1 ad1 H locs ls hP hD hS hl => nx _ _ _ _ _ _ _ _ hI hP hD hS hl)
set_option maxRecDepth 100000 in
set_option maxHeartbeats 2000000 in
theorem ld_pass {p : Program} {l : Launch} {e : Env} {s : State} {m : MethodId} {args : Array Value} {below : List Frame} {meth : Method} {c : Code} {cells slots : Nat} {Q : State → Prop} {D : va_G} {k : Nat → ClassId} {sa : Nat → Nat} {b L i : Nat} {xs : Nat → Int32} {ad bd : Nat → Nat} {o : Nat} {g : Nat → Int64} {M : Nat → Nat → Nat} {O : Nat → Nat → Int32} {th : Int32} {H : Heap} {locs : List Loc} {ls : Array Slot} (F : CallFix p m c cL_law 7 s args wsL_law RL) (hK : va_K D vwCl (tyL k) s) (hN : lwN s) (hE : zE (fun q => s.heap.size ≤ q) sa s s.heap) (hX : va_X b L xs s s.heap) (hbl : b < s.heap.size) (hi : i + 5 ≤ L) (hL : L ≤ 2560) (hc1 : cells + 6 ≤ 601024) (hc2 : slots + 35 ≤ 7293034) (hfl : l.stackTraces = false) (hI : zInv M) (hP : va_P D vwCl (lX k o g ad M O ++ zw 19 bd (cM k bd M O th)) H) (hD : va_D (fun q => s.heap.size ≤ q) (lX k o g ad M O ++ zw 19 bd (cM k bd M O th))) (hS : va_S (fun q => s.heap.size ≤ q) s.heap H locs) (hl : lv_has ls 7 [(0, .ref b), (1, .ref (ad 0)), (2, .ref (bd 0)), (3, .ref o), (4, .int (nI i))])
    (nx : ∀ (M : Nat → Nat → Nat) (O : Nat → Nat → Int32) (th : Int32) (g : Nat → Int64) (ad : Nat → Nat) (H : Heap) (locs : List Loc) (ls : Array Slot), zInv M → va_P D vwCl (lX k o g ad M O ++ zw 19 bd (cM k bd M O th)) H → va_D (fun q => s.heap.size ≤ q) (lX k o g ad M O ++ zw 19 bd (cM k bd M O th)) → va_S (fun q => s.heap.size ≤ q) s.heap H locs → lv_has ls 7 [(0, .ref b), (1, .ref (ad 0)), (2, .ref (bd 0)), (3, .ref o), (4, .int (nI i))] → W p l e room_1 s m args below meth c H locs (cells + 6) (slots + 35) Q (F0 m 1755 ls [])) : W p l e room_1 s m args below meth c H locs cells slots Q (F0 m 579 ls []) := by
  exact lc_pass F hK hN hE hX hbl hi hL hc1 hc2 hP hD hS hl (c_X2_pass l hfl sa D k ad M O H.size hI _) (fun sz => c_X3_pass l D k bd M O th sz hI _) x3_le x3_ne1 (fun hq0 => ⟨if_pos hq0, rfl⟩) (fun hq0 => ⟨if_neg hq0, rfl⟩) (fun g1 ad1 H locs ls hP hD hS hl => nx _ _ _ _ _ _ _ _ (iz_pass hI _) hP hD hS hl)
set_option maxRecDepth 100000 in
set_option maxHeartbeats 2000000 in
theorem ld_time {p : Program} {l : Launch} {e : Env} {s : State} {m : MethodId} {args : Array Value} {below : List Frame} {meth : Method} {c : Code} {cells slots : Nat} {Q : State → Prop} {D : va_G} {k : Nat → ClassId} {sa : Nat → Nat} {b L i : Nat} {xs : Nat → Int32} {ad bd : Nat → Nat} {o : Nat} {g : Nat → Int64} {M : Nat → Nat → Nat} {O : Nat → Nat → Int32} {th : Int32} {H : Heap} {locs : List Loc} {ls : Array Slot} (F : CallFix p m c cL_law 7 s args wsL_law RL) (hK : va_K D vwCl (tyL k) s) (hN : lwN s) (hE : zE (fun q => s.heap.size ≤ q) sa s s.heap) (hX : va_X b L xs s s.heap) (hbl : b < s.heap.size) (hi : i + 5 ≤ L) (hL : L ≤ 2560) (hc1 : cells + 6 ≤ 601024) (hc2 : slots + 35 ≤ 7293034) (hfl : l.stackTraces = false) (hI : zInv M) (hP : va_P D vwCl (lX k o g ad M O ++ zw 19 bd (cM k bd M O th)) H) (hD : va_D (fun q => s.heap.size ≤ q) (lX k o g ad M O ++ zw 19 bd (cM k bd M O th))) (hS : va_S (fun q => s.heap.size ≤ q) s.heap H locs) (hl : lv_has ls 7 [(0, .ref b), (1, .ref (ad 0)), (2, .ref (bd 0)), (3, .ref o), (4, .int (nI i))])
    (nx : ∀ (M : Nat → Nat → Nat) (O : Nat → Nat → Int32) (th : Int32) (g : Nat → Int64) (ad : Nat → Nat) (H : Heap) (locs : List Loc) (ls : Array Slot), zInv M → va_P D vwCl (lX k o g ad M O ++ zw 19 bd (cM k bd M O th)) H → va_D (fun q => s.heap.size ≤ q) (lX k o g ad M O ++ zw 19 bd (cM k bd M O th)) → va_S (fun q => s.heap.size ≤ q) s.heap H locs → lv_has ls 7 [(0, .ref b), (1, .ref (ad 0)), (2, .ref (bd 0)), (3, .ref o), (4, .int (nI i))] → W p l e room_1 s m args below meth c H locs (cells + 6) (slots + 35) Q (F0 m 1755 ls [])) : W p l e room_1 s m args below meth c H locs cells slots Q (F0 m 635 ls []) := by
  exact lc_time (M' := M) (M1 := M) (O' := O) (O1 := O) F hK hN hE hX hbl hi hL hc1 hc2 hP hD hS hl (c_X2_time l hfl sa D k ad M O H.size hI) (fun sz => c_X3_time l D k bd M O th sz hI) (x3_0 trivial trivial trivial) (fun g1 ad1 H locs ls hP hD hS hl => nx _ _ _ _ _ _ _ _ hI hP hD hS hl)
set_option maxRecDepth 100000 in
set_option maxHeartbeats 2000000 in
theorem ld_hours {p : Program} {l : Launch} {e : Env} {s : State} {m : MethodId} {args : Array Value} {below : List Frame} {meth : Method} {c : Code} {cells slots : Nat} {Q : State → Prop} {D : va_G} {k : Nat → ClassId} {sa : Nat → Nat} {b L i : Nat} {xs : Nat → Int32} {ad bd : Nat → Nat} {o : Nat} {g : Nat → Int64} {M : Nat → Nat → Nat} {O : Nat → Nat → Int32} {th : Int32} {H : Heap} {locs : List Loc} {ls : Array Slot} (F : CallFix p m c cL_law 7 s args wsL_law RL) (hK : va_K D vwCl (tyL k) s) (hN : lwN s) (hE : zE (fun q => s.heap.size ≤ q) sa s s.heap) (hX : va_X b L xs s s.heap) (hbl : b < s.heap.size) (hi : i + 5 ≤ L) (hL : L ≤ 2560) (hc1 : cells + 6 ≤ 601024) (hc2 : slots + 35 ≤ 7293034) (hfl : l.stackTraces = false) (hI : zInv M) (hP : va_P D vwCl (lX k o g ad M O ++ zw 19 bd (cM k bd M O th)) H) (hD : va_D (fun q => s.heap.size ≤ q) (lX k o g ad M O ++ zw 19 bd (cM k bd M O th))) (hS : va_S (fun q => s.heap.size ≤ q) s.heap H locs) (hl : lv_has ls 7 [(0, .ref b), (1, .ref (ad 0)), (2, .ref (bd 0)), (3, .ref o), (4, .int (nI i))])
    (nx : ∀ (M : Nat → Nat → Nat) (O : Nat → Nat → Int32) (th : Int32) (g : Nat → Int64) (ad : Nat → Nat) (H : Heap) (locs : List Loc) (ls : Array Slot), zInv M → va_P D vwCl (lX k o g ad M O ++ zw 19 bd (cM k bd M O th)) H → va_D (fun q => s.heap.size ≤ q) (lX k o g ad M O ++ zw 19 bd (cM k bd M O th)) → va_S (fun q => s.heap.size ≤ q) s.heap H locs → lv_has ls 7 [(0, .ref b), (1, .ref (ad 0)), (2, .ref (bd 0)), (3, .ref o), (4, .int (nI i))] → W p l e room_1 s m args below meth c H locs (cells + 6) (slots + 35) Q (F0 m 1755 ls [])) : W p l e room_1 s m args below meth c H locs cells slots Q (F0 m 648 ls []) := by
  exact lc_hours F hK hN hE hX hbl hi hL hc1 hc2 hP hD hS hl (c_X2_hours l hfl sa D k ad M O H.size hI _ _ _) (fun sz => c_X3_hours l D k bd M O th sz hI _ _ _) x3_le x3_ne3 (fun _ => ⟨rfl, rfl⟩) (fun _ => ⟨rfl, rfl⟩) (fun g1 ad1 H locs ls hP hD hS hl => nx _ _ _ _ _ _ _ _ hI hP hD hS hl)
set_option maxRecDepth 100000 in
set_option maxHeartbeats 2000000 in
theorem ld_hoursOneByOne {p : Program} {l : Launch} {e : Env} {s : State} {m : MethodId} {args : Array Value} {below : List Frame} {meth : Method} {c : Code} {cells slots : Nat} {Q : State → Prop} {D : va_G} {k : Nat → ClassId} {sa : Nat → Nat} {b L i : Nat} {xs : Nat → Int32} {ad bd : Nat → Nat} {o : Nat} {g : Nat → Int64} {M : Nat → Nat → Nat} {O : Nat → Nat → Int32} {th : Int32} {H : Heap} {locs : List Loc} {ls : Array Slot} (F : CallFix p m c cL_law 7 s args wsL_law RL) (hK : va_K D vwCl (tyL k) s) (hN : lwN s) (hE : zE (fun q => s.heap.size ≤ q) sa s s.heap) (hX : va_X b L xs s s.heap) (hbl : b < s.heap.size) (hi : i + 5 ≤ L) (hL : L ≤ 2560) (hc1 : cells + 6 ≤ 601024) (hc2 : slots + 35 ≤ 7293034) (hfl : l.stackTraces = false) (hI : zInv M) (hP : va_P D vwCl (lX k o g ad M O ++ zw 19 bd (cM k bd M O th)) H) (hD : va_D (fun q => s.heap.size ≤ q) (lX k o g ad M O ++ zw 19 bd (cM k bd M O th))) (hS : va_S (fun q => s.heap.size ≤ q) s.heap H locs) (hl : lv_has ls 7 [(0, .ref b), (1, .ref (ad 0)), (2, .ref (bd 0)), (3, .ref o), (4, .int (nI i))])
    (nx : ∀ (M : Nat → Nat → Nat) (O : Nat → Nat → Int32) (th : Int32) (g : Nat → Int64) (ad : Nat → Nat) (H : Heap) (locs : List Loc) (ls : Array Slot), zInv M → va_P D vwCl (lX k o g ad M O ++ zw 19 bd (cM k bd M O th)) H → va_D (fun q => s.heap.size ≤ q) (lX k o g ad M O ++ zw 19 bd (cM k bd M O th)) → va_S (fun q => s.heap.size ≤ q) s.heap H locs → lv_has ls 7 [(0, .ref b), (1, .ref (ad 0)), (2, .ref (bd 0)), (3, .ref o), (4, .int (nI i))] → W p l e room_1 s m args below meth c H locs (cells + 6) (slots + 35) Q (F0 m 1755 ls [])) : W p l e room_1 s m args below meth c H locs cells slots Q (F0 m 728 ls []) := by
  exact lc_hoursOneByOne F hK hN hE hX hbl hi hL hc1 hc2 hP hD hS hl (c_X2_hoursOneByOne l hfl sa D k ad M O H.size hI _ _ _) (fun sz => c_X3_hoursOneByOne l D k bd M O th sz hI _ _ _) x3_le x3_ne3 (fun _ => ⟨rfl, rfl⟩) (fun _ => ⟨rfl, rfl⟩) (fun g1 ad1 H locs ls hP hD hS hl => nx _ _ _ _ _ _ _ _ hI hP hD hS hl)
set_option maxRecDepth 100000 in
set_option maxHeartbeats 2000000 in
theorem ld_open {p : Program} {l : Launch} {e : Env} {s : State} {m : MethodId} {args : Array Value} {below : List Frame} {meth : Method} {c : Code} {cells slots : Nat} {Q : State → Prop} {D : va_G} {k : Nat → ClassId} {sa : Nat → Nat} {b L i : Nat} {xs : Nat → Int32} {ad bd : Nat → Nat} {o : Nat} {g : Nat → Int64} {M : Nat → Nat → Nat} {O : Nat → Nat → Int32} {th : Int32} {H : Heap} {locs : List Loc} {ls : Array Slot} (F : CallFix p m c cL_law 7 s args wsL_law RL) (hK : va_K D vwCl (tyL k) s) (hN : lwN s) (hE : zE (fun q => s.heap.size ≤ q) sa s s.heap) (hX : va_X b L xs s s.heap) (hbl : b < s.heap.size) (hi : i + 5 ≤ L) (hL : L ≤ 2560) (hc1 : cells + 6 ≤ 601024) (hc2 : slots + 35 ≤ 7293034) (hfl : l.stackTraces = false) (hI : zInv M) (hP : va_P D vwCl (lX k o g ad M O ++ zw 19 bd (cM k bd M O th)) H) (hD : va_D (fun q => s.heap.size ≤ q) (lX k o g ad M O ++ zw 19 bd (cM k bd M O th))) (hS : va_S (fun q => s.heap.size ≤ q) s.heap H locs) (hl : lv_has ls 7 [(0, .ref b), (1, .ref (ad 0)), (2, .ref (bd 0)), (3, .ref o), (4, .int (nI i))])
    (nx : ∀ (M : Nat → Nat → Nat) (O : Nat → Nat → Int32) (th : Int32) (g : Nat → Int64) (ad : Nat → Nat) (H : Heap) (locs : List Loc) (ls : Array Slot), zInv M → va_P D vwCl (lX k o g ad M O ++ zw 19 bd (cM k bd M O th)) H → va_D (fun q => s.heap.size ≤ q) (lX k o g ad M O ++ zw 19 bd (cM k bd M O th)) → va_S (fun q => s.heap.size ≤ q) s.heap H locs → lv_has ls 7 [(0, .ref b), (1, .ref (ad 0)), (2, .ref (bd 0)), (3, .ref o), (4, .int (nI i))] → W p l e room_1 s m args below meth c H locs (cells + 6) (slots + 35) Q (F0 m 1755 ls [])) : W p l e room_1 s m args below meth c H locs cells slots Q (F0 m 808 ls []) := by
  exact lc_open F hK hN hE hX hbl hi hL hc1 hc2 hP hD hS hl (c_X2_open l hfl sa D k ad M O H.size hI _ _ _) (fun sz => c_X3_open l D k bd M O th sz hI _ _ _) x3_le (fun hq0 => ⟨if_pos hq0, rfl⟩) (fun hq0 => ⟨if_neg hq0, rfl⟩) (fun g1 ad1 H locs ls hP hD hS hl => nx _ _ _ _ _ _ _ _ (iz_open hI _ _ _) hP hD hS hl)
set_option maxRecDepth 100000 in
set_option maxHeartbeats 2000000 in
theorem ld_reach {p : Program} {l : Launch} {e : Env} {s : State} {m : MethodId} {args : Array Value} {below : List Frame} {meth : Method} {c : Code} {cells slots : Nat} {Q : State → Prop} {D : va_G} {k : Nat → ClassId} {sa : Nat → Nat} {b L i : Nat} {xs : Nat → Int32} {ad bd : Nat → Nat} {o : Nat} {g : Nat → Int64} {M : Nat → Nat → Nat} {O : Nat → Nat → Int32} {th : Int32} {H : Heap} {locs : List Loc} {ls : Array Slot} (F : CallFix p m c cL_law 7 s args wsL_law RL) (hK : va_K D vwCl (tyL k) s) (hN : lwN s) (hE : zE (fun q => s.heap.size ≤ q) sa s s.heap) (hX : va_X b L xs s s.heap) (hbl : b < s.heap.size) (hi : i + 5 ≤ L) (hL : L ≤ 2560) (hc1 : cells + 6 ≤ 601024) (hc2 : slots + 35 ≤ 7293034) (hfl : l.stackTraces = false) (hI : zInv M) (hP : va_P D vwCl (lX k o g ad M O ++ zw 19 bd (cM k bd M O th)) H) (hD : va_D (fun q => s.heap.size ≤ q) (lX k o g ad M O ++ zw 19 bd (cM k bd M O th))) (hS : va_S (fun q => s.heap.size ≤ q) s.heap H locs) (hl : lv_has ls 7 [(0, .ref b), (1, .ref (ad 0)), (2, .ref (bd 0)), (3, .ref o), (4, .int (nI i))])
    (nx : ∀ (M : Nat → Nat → Nat) (O : Nat → Nat → Int32) (th : Int32) (g : Nat → Int64) (ad : Nat → Nat) (H : Heap) (locs : List Loc) (ls : Array Slot), zInv M → va_P D vwCl (lX k o g ad M O ++ zw 19 bd (cM k bd M O th)) H → va_D (fun q => s.heap.size ≤ q) (lX k o g ad M O ++ zw 19 bd (cM k bd M O th)) → va_S (fun q => s.heap.size ≤ q) s.heap H locs → lv_has ls 7 [(0, .ref b), (1, .ref (ad 0)), (2, .ref (bd 0)), (3, .ref o), (4, .int (nI i))] → W p l e room_1 s m args below meth c H locs (cells + 6) (slots + 35) Q (F0 m 1755 ls [])) : W p l e room_1 s m args below meth c H locs cells slots Q (F0 m 888 ls []) := by
  exact lc_reach F hK hN hE hX hbl hi hL hc1 hc2 hP hD hS hl (c_X2_reach l hfl sa D k ad M O H.size hI _ _) (fun sz => c_X3_reach l D k bd M O th sz hI _ _) x3_le (fun hq0 => ⟨if_pos hq0, if_pos hq0⟩) (fun hq0 => ⟨if_neg hq0, if_neg hq0⟩) (fun g1 ad1 H locs ls hP hD hS hl => nx _ _ _ _ _ _ _ _ (iz_reach hI _ _) hP hD hS hl)
set_option maxRecDepth 100000 in
set_option maxHeartbeats 2000000 in
theorem ld_rest {p : Program} {l : Launch} {e : Env} {s : State} {m : MethodId} {args : Array Value} {below : List Frame} {meth : Method} {c : Code} {cells slots : Nat} {Q : State → Prop} {D : va_G} {k : Nat → ClassId} {sa : Nat → Nat} {b L i : Nat} {xs : Nat → Int32} {ad bd : Nat → Nat} {o : Nat} {g : Nat → Int64} {M : Nat → Nat → Nat} {O : Nat → Nat → Int32} {th : Int32} {H : Heap} {locs : List Loc} {ls : Array Slot} (F : CallFix p m c cL_law 7 s args wsL_law RL) (hK : va_K D vwCl (tyL k) s) (hN : lwN s) (hE : zE (fun q => s.heap.size ≤ q) sa s s.heap) (hX : va_X b L xs s s.heap) (hbl : b < s.heap.size) (hi : i + 5 ≤ L) (hL : L ≤ 2560) (hc1 : cells + 6 ≤ 601024) (hc2 : slots + 35 ≤ 7293034) (hfl : l.stackTraces = false) (hI : zInv M) (hP : va_P D vwCl (lX k o g ad M O ++ zw 19 bd (cM k bd M O th)) H) (hD : va_D (fun q => s.heap.size ≤ q) (lX k o g ad M O ++ zw 19 bd (cM k bd M O th))) (hS : va_S (fun q => s.heap.size ≤ q) s.heap H locs) (hl : lv_has ls 7 [(0, .ref b), (1, .ref (ad 0)), (2, .ref (bd 0)), (3, .ref o), (4, .int (nI i))])
    (nx : ∀ (M : Nat → Nat → Nat) (O : Nat → Nat → Int32) (th : Int32) (g : Nat → Int64) (ad : Nat → Nat) (H : Heap) (locs : List Loc) (ls : Array Slot), zInv M → va_P D vwCl (lX k o g ad M O ++ zw 19 bd (cM k bd M O th)) H → va_D (fun q => s.heap.size ≤ q) (lX k o g ad M O ++ zw 19 bd (cM k bd M O th)) → va_S (fun q => s.heap.size ≤ q) s.heap H locs → lv_has ls 7 [(0, .ref b), (1, .ref (ad 0)), (2, .ref (bd 0)), (3, .ref o), (4, .int (nI i))] → W p l e room_1 s m args below meth c H locs (cells + 6) (slots + 35) Q (F0 m 1755 ls [])) : W p l e room_1 s m args below meth c H locs cells slots Q (F0 m 956 ls []) := by
  by_cases hz0 : xs (i + 2) = 0
  · exact lc_rest (b1 := 0) F hK hN hE hX hbl hi hL hc1 hc2 (fun _ => rfl) (fun zz1 => absurd hz0 zz1) hP hD hS hl (c_X2_rest l hfl sa D k ad M O H.size hI _ 0 (by decide)) (fun sz => c_X3_rest l D k bd M O th sz hI _ 0 (by decide)) x3_le x3_ne2 (fun hq0 => ⟨if_pos hq0, rfl⟩) (fun hq0 => ⟨if_neg hq0, rfl⟩) (fun g1 ad1 H locs ls hP hD hS hl => nx _ _ _ _ _ _ _ _ (iz_rest hI _ 0 (by decide)) hP hD hS hl)
  · exact lc_rest (b1 := 1) F hK hN hE hX hbl hi hL hc1 hc2 (fun zz1 => absurd zz1 hz0) (fun _ => rfl) hP hD hS hl (c_X2_rest l hfl sa D k ad M O H.size hI _ 1 (by decide)) (fun sz => c_X3_rest l D k bd M O th sz hI _ 1 (by decide)) x3_le x3_ne2 (fun hq0 => ⟨if_pos hq0, rfl⟩) (fun hq0 => ⟨if_neg hq0, rfl⟩) (fun g1 ad1 H locs ls hP hD hS hl => nx _ _ _ _ _ _ _ _ (iz_rest hI _ 1 (by decide)) hP hD hS hl)
set_option maxRecDepth 100000 in
set_option maxHeartbeats 2000000 in
theorem ld_setGravity {p : Program} {l : Launch} {e : Env} {s : State} {m : MethodId} {args : Array Value} {below : List Frame} {meth : Method} {c : Code} {cells slots : Nat} {Q : State → Prop} {D : va_G} {k : Nat → ClassId} {sa : Nat → Nat} {b L i : Nat} {xs : Nat → Int32} {ad bd : Nat → Nat} {o : Nat} {g : Nat → Int64} {M : Nat → Nat → Nat} {O : Nat → Nat → Int32} {th : Int32} {H : Heap} {locs : List Loc} {ls : Array Slot} (F : CallFix p m c cL_law 7 s args wsL_law RL) (hK : va_K D vwCl (tyL k) s) (hN : lwN s) (hE : zE (fun q => s.heap.size ≤ q) sa s s.heap) (hX : va_X b L xs s s.heap) (hbl : b < s.heap.size) (hi : i + 5 ≤ L) (hL : L ≤ 2560) (hc1 : cells + 6 ≤ 601024) (hc2 : slots + 35 ≤ 7293034) (hfl : l.stackTraces = false) (hI : zInv M) (hP : va_P D vwCl (lX k o g ad M O ++ zw 19 bd (cM k bd M O th)) H) (hD : va_D (fun q => s.heap.size ≤ q) (lX k o g ad M O ++ zw 19 bd (cM k bd M O th))) (hS : va_S (fun q => s.heap.size ≤ q) s.heap H locs) (hl : lv_has ls 7 [(0, .ref b), (1, .ref (ad 0)), (2, .ref (bd 0)), (3, .ref o), (4, .int (nI i))])
    (nx : ∀ (M : Nat → Nat → Nat) (O : Nat → Nat → Int32) (th : Int32) (g : Nat → Int64) (ad : Nat → Nat) (H : Heap) (locs : List Loc) (ls : Array Slot), zInv M → va_P D vwCl (lX k o g ad M O ++ zw 19 bd (cM k bd M O th)) H → va_D (fun q => s.heap.size ≤ q) (lX k o g ad M O ++ zw 19 bd (cM k bd M O th)) → va_S (fun q => s.heap.size ≤ q) s.heap H locs → lv_has ls 7 [(0, .ref b), (1, .ref (ad 0)), (2, .ref (bd 0)), (3, .ref o), (4, .int (nI i))] → W p l e room_1 s m args below meth c H locs (cells + 6) (slots + 35) Q (F0 m 1755 ls [])) : W p l e room_1 s m args below meth c H locs cells slots Q (F0 m 1047 ls []) := by
  exact lc_setGravity F hK hN hE hX hbl hi hL hc1 hc2 hP hD hS hl (c_X2_setGravity l hfl sa D k ad M O H.size hI _ _) (fun sz => c_X3_setGravity l D k bd M O th sz hI _ _) x3_le (fun hq0 => ⟨if_pos hq0, rfl⟩) (fun hq0 => ⟨if_neg hq0, rfl⟩) (fun g1 ad1 H locs ls hP hD hS hl => nx _ _ _ _ _ _ _ _ (iz_setGravity hI _ _) hP hD hS hl)
set_option maxRecDepth 100000 in
set_option maxHeartbeats 2000000 in
theorem ld_join {p : Program} {l : Launch} {e : Env} {s : State} {m : MethodId} {args : Array Value} {below : List Frame} {meth : Method} {c : Code} {cells slots : Nat} {Q : State → Prop} {D : va_G} {k : Nat → ClassId} {sa : Nat → Nat} {b L i : Nat} {xs : Nat → Int32} {ad bd : Nat → Nat} {o : Nat} {g : Nat → Int64} {M : Nat → Nat → Nat} {O : Nat → Nat → Int32} {th : Int32} {H : Heap} {locs : List Loc} {ls : Array Slot} (F : CallFix p m c cL_law 7 s args wsL_law RL) (hK : va_K D vwCl (tyL k) s) (hN : lwN s) (hE : zE (fun q => s.heap.size ≤ q) sa s s.heap) (hX : va_X b L xs s s.heap) (hbl : b < s.heap.size) (hi : i + 5 ≤ L) (hL : L ≤ 2560) (hc1 : cells + 6 ≤ 601024) (hc2 : slots + 35 ≤ 7293034) (hfl : l.stackTraces = false) (hI : zInv M) (hP : va_P D vwCl (lX k o g ad M O ++ zw 19 bd (cM k bd M O th)) H) (hD : va_D (fun q => s.heap.size ≤ q) (lX k o g ad M O ++ zw 19 bd (cM k bd M O th))) (hS : va_S (fun q => s.heap.size ≤ q) s.heap H locs) (hl : lv_has ls 7 [(0, .ref b), (1, .ref (ad 0)), (2, .ref (bd 0)), (3, .ref o), (4, .int (nI i))])
    (nx : ∀ (M : Nat → Nat → Nat) (O : Nat → Nat → Int32) (th : Int32) (g : Nat → Int64) (ad : Nat → Nat) (H : Heap) (locs : List Loc) (ls : Array Slot), zInv M → va_P D vwCl (lX k o g ad M O ++ zw 19 bd (cM k bd M O th)) H → va_D (fun q => s.heap.size ≤ q) (lX k o g ad M O ++ zw 19 bd (cM k bd M O th)) → va_S (fun q => s.heap.size ≤ q) s.heap H locs → lv_has ls 7 [(0, .ref b), (1, .ref (ad 0)), (2, .ref (bd 0)), (3, .ref o), (4, .int (nI i))] → W p l e room_1 s m args below meth c H locs (cells + 6) (slots + 35) Q (F0 m 1755 ls [])) : W p l e room_1 s m args below meth c H locs cells slots Q (F0 m 1115 ls []) := by
  exact lc_join F hK hN hE hX hbl hi hL hc1 hc2 hP hD hS hl (c_X2_join l hfl sa D k ad M O H.size hI _ _) (fun sz => c_X3_join l D k bd M O th sz hI _ _) x3_le (fun hq0 => ⟨if_pos hq0, rfl⟩) (fun hq0 => ⟨if_neg hq0, rfl⟩) (fun g1 ad1 H locs ls hP hD hS hl => nx _ _ _ _ _ _ _ _ (iz_join hI _ _) hP hD hS hl)
set_option maxRecDepth 100000 in
set_option maxHeartbeats 2000000 in
theorem ld_openAnew {p : Program} {l : Launch} {e : Env} {s : State} {m : MethodId} {args : Array Value} {below : List Frame} {meth : Method} {c : Code} {cells slots : Nat} {Q : State → Prop} {D : va_G} {k : Nat → ClassId} {sa : Nat → Nat} {b L i : Nat} {xs : Nat → Int32} {ad bd : Nat → Nat} {o : Nat} {g : Nat → Int64} {M : Nat → Nat → Nat} {O : Nat → Nat → Int32} {th : Int32} {H : Heap} {locs : List Loc} {ls : Array Slot} (F : CallFix p m c cL_law 7 s args wsL_law RL) (hK : va_K D vwCl (tyL k) s) (hN : lwN s) (hE : zE (fun q => s.heap.size ≤ q) sa s s.heap) (hX : va_X b L xs s s.heap) (hbl : b < s.heap.size) (hi : i + 5 ≤ L) (hL : L ≤ 2560) (hc1 : cells + 6 ≤ 601024) (hc2 : slots + 35 ≤ 7293034) (hfl : l.stackTraces = false) (hI : zInv M) (hP : va_P D vwCl (lX k o g ad M O ++ zw 19 bd (cM k bd M O th)) H) (hD : va_D (fun q => s.heap.size ≤ q) (lX k o g ad M O ++ zw 19 bd (cM k bd M O th))) (hS : va_S (fun q => s.heap.size ≤ q) s.heap H locs) (hl : lv_has ls 7 [(0, .ref b), (1, .ref (ad 0)), (2, .ref (bd 0)), (3, .ref o), (4, .int (nI i))])
    (nx : ∀ (M : Nat → Nat → Nat) (O : Nat → Nat → Int32) (th : Int32) (g : Nat → Int64) (ad : Nat → Nat) (H : Heap) (locs : List Loc) (ls : Array Slot), zInv M → va_P D vwCl (lX k o g ad M O ++ zw 19 bd (cM k bd M O th)) H → va_D (fun q => s.heap.size ≤ q) (lX k o g ad M O ++ zw 19 bd (cM k bd M O th)) → va_S (fun q => s.heap.size ≤ q) s.heap H locs → lv_has ls 7 [(0, .ref b), (1, .ref (ad 0)), (2, .ref (bd 0)), (3, .ref o), (4, .int (nI i))] → W p l e room_1 s m args below meth c H locs (cells + 6) (slots + 35) Q (F0 m 1755 ls [])) : W p l e room_1 s m args below meth c H locs cells slots Q (F0 m 1183 ls []) := by
  exact lc_openAnew F hK hN hE hX hbl hi hL hc1 hc2 hP hD hS hl (c_X2_openAnew l hfl sa D k ad M O H.size hI _) (fun sz => c_X3_openAnew l D k bd M O th sz hI _) x3_le x3_ne2 (fun hq0 => ⟨if_pos hq0, rfl⟩) (fun hq0 => ⟨if_neg hq0, rfl⟩) (fun g1 ad1 H locs ls hP hD hS hl => nx _ _ _ _ _ _ _ _ (iz_openAnew hI _) hP hD hS hl)
set_option maxRecDepth 100000 in
set_option maxHeartbeats 2000000 in
theorem ld_stateOf {p : Program} {l : Launch} {e : Env} {s : State} {m : MethodId} {args : Array Value} {below : List Frame} {meth : Method} {c : Code} {cells slots : Nat} {Q : State → Prop} {D : va_G} {k : Nat → ClassId} {sa : Nat → Nat} {b L i : Nat} {xs : Nat → Int32} {ad bd : Nat → Nat} {o : Nat} {g : Nat → Int64} {M : Nat → Nat → Nat} {O : Nat → Nat → Int32} {th : Int32} {H : Heap} {locs : List Loc} {ls : Array Slot} (F : CallFix p m c cL_law 7 s args wsL_law RL) (hK : va_K D vwCl (tyL k) s) (hN : lwN s) (hE : zE (fun q => s.heap.size ≤ q) sa s s.heap) (hX : va_X b L xs s s.heap) (hbl : b < s.heap.size) (hi : i + 5 ≤ L) (hL : L ≤ 2560) (hc1 : cells + 6 ≤ 601024) (hc2 : slots + 35 ≤ 7293034) (hfl : l.stackTraces = false) (hI : zInv M) (hP : va_P D vwCl (lX k o g ad M O ++ zw 19 bd (cM k bd M O th)) H) (hD : va_D (fun q => s.heap.size ≤ q) (lX k o g ad M O ++ zw 19 bd (cM k bd M O th))) (hS : va_S (fun q => s.heap.size ≤ q) s.heap H locs) (hl : lv_has ls 7 [(0, .ref b), (1, .ref (ad 0)), (2, .ref (bd 0)), (3, .ref o), (4, .int (nI i))])
    (nx : ∀ (M : Nat → Nat → Nat) (O : Nat → Nat → Int32) (th : Int32) (g : Nat → Int64) (ad : Nat → Nat) (H : Heap) (locs : List Loc) (ls : Array Slot), zInv M → va_P D vwCl (lX k o g ad M O ++ zw 19 bd (cM k bd M O th)) H → va_D (fun q => s.heap.size ≤ q) (lX k o g ad M O ++ zw 19 bd (cM k bd M O th)) → va_S (fun q => s.heap.size ≤ q) s.heap H locs → lv_has ls 7 [(0, .ref b), (1, .ref (ad 0)), (2, .ref (bd 0)), (3, .ref o), (4, .int (nI i))] → W p l e room_1 s m args below meth c H locs (cells + 6) (slots + 35) Q (F0 m 1755 ls [])) : W p l e room_1 s m args below meth c H locs cells slots Q (F0 m 1239 ls []) := by
  exact lc_stateOf F hK hN hE hX hbl hi hL hc1 hc2 hP hD hS hl (c_X2_stateOf l hfl sa D k ad M O H.size hI _) (fun sz => c_X3_stateOf l D k bd M O th sz hI _) x3_le x3_ne2 x3_ne3 (fun _ => ⟨rfl, rfl⟩) (fun _ => ⟨rfl, rfl⟩) (fun g1 ad1 H locs ls hP hD hS hl => nx _ _ _ _ _ _ _ _ hI hP hD hS hl)
set_option maxRecDepth 100000 in
set_option maxHeartbeats 2000000 in
theorem ld_clock {p : Program} {l : Launch} {e : Env} {s : State} {m : MethodId} {args : Array Value} {below : List Frame} {meth : Method} {c : Code} {cells slots : Nat} {Q : State → Prop} {D : va_G} {k : Nat → ClassId} {sa : Nat → Nat} {b L i : Nat} {xs : Nat → Int32} {ad bd : Nat → Nat} {o : Nat} {g : Nat → Int64} {M : Nat → Nat → Nat} {O : Nat → Nat → Int32} {th : Int32} {H : Heap} {locs : List Loc} {ls : Array Slot} (F : CallFix p m c cL_law 7 s args wsL_law RL) (hK : va_K D vwCl (tyL k) s) (hN : lwN s) (hE : zE (fun q => s.heap.size ≤ q) sa s s.heap) (hX : va_X b L xs s s.heap) (hbl : b < s.heap.size) (hi : i + 5 ≤ L) (hL : L ≤ 2560) (hc1 : cells + 6 ≤ 601024) (hc2 : slots + 35 ≤ 7293034) (hfl : l.stackTraces = false) (hI : zInv M) (hP : va_P D vwCl (lX k o g ad M O ++ zw 19 bd (cM k bd M O th)) H) (hD : va_D (fun q => s.heap.size ≤ q) (lX k o g ad M O ++ zw 19 bd (cM k bd M O th))) (hS : va_S (fun q => s.heap.size ≤ q) s.heap H locs) (hl : lv_has ls 7 [(0, .ref b), (1, .ref (ad 0)), (2, .ref (bd 0)), (3, .ref o), (4, .int (nI i))])
    (nx : ∀ (M : Nat → Nat → Nat) (O : Nat → Nat → Int32) (th : Int32) (g : Nat → Int64) (ad : Nat → Nat) (H : Heap) (locs : List Loc) (ls : Array Slot), zInv M → va_P D vwCl (lX k o g ad M O ++ zw 19 bd (cM k bd M O th)) H → va_D (fun q => s.heap.size ≤ q) (lX k o g ad M O ++ zw 19 bd (cM k bd M O th)) → va_S (fun q => s.heap.size ≤ q) s.heap H locs → lv_has ls 7 [(0, .ref b), (1, .ref (ad 0)), (2, .ref (bd 0)), (3, .ref o), (4, .int (nI i))] → W p l e room_1 s m args below meth c H locs (cells + 6) (slots + 35) Q (F0 m 1755 ls [])) : W p l e room_1 s m args below meth c H locs cells slots Q (F0 m 1295 ls []) := by
  exact lc_clock F hK hN hE hX hbl hi hL hc1 hc2 hP hD hS hl (c_X2_clock l hfl sa D k ad M O H.size hI _ _) (fun sz => c_X3_clock l D k bd M O th sz hI _ _) x3_le x3_ne3 (fun _ => ⟨rfl, rfl⟩) (fun _ => ⟨rfl, rfl⟩) (fun g1 ad1 H locs ls hP hD hS hl => nx _ _ _ _ _ _ _ _ hI hP hD hS hl)
set_option maxRecDepth 100000 in
set_option maxHeartbeats 2000000 in
theorem ld_isMissed {p : Program} {l : Launch} {e : Env} {s : State} {m : MethodId} {args : Array Value} {below : List Frame} {meth : Method} {c : Code} {cells slots : Nat} {Q : State → Prop} {D : va_G} {k : Nat → ClassId} {sa : Nat → Nat} {b L i : Nat} {xs : Nat → Int32} {ad bd : Nat → Nat} {o : Nat} {g : Nat → Int64} {M : Nat → Nat → Nat} {O : Nat → Nat → Int32} {th : Int32} {H : Heap} {locs : List Loc} {ls : Array Slot} (F : CallFix p m c cL_law 7 s args wsL_law RL) (hK : va_K D vwCl (tyL k) s) (hN : lwN s) (hE : zE (fun q => s.heap.size ≤ q) sa s s.heap) (hX : va_X b L xs s s.heap) (hbl : b < s.heap.size) (hi : i + 5 ≤ L) (hL : L ≤ 2560) (hc1 : cells + 6 ≤ 601024) (hc2 : slots + 35 ≤ 7293034) (hfl : l.stackTraces = false) (hI : zInv M) (hP : va_P D vwCl (lX k o g ad M O ++ zw 19 bd (cM k bd M O th)) H) (hD : va_D (fun q => s.heap.size ≤ q) (lX k o g ad M O ++ zw 19 bd (cM k bd M O th))) (hS : va_S (fun q => s.heap.size ≤ q) s.heap H locs) (hl : lv_has ls 7 [(0, .ref b), (1, .ref (ad 0)), (2, .ref (bd 0)), (3, .ref o), (4, .int (nI i))])
    (nx : ∀ (M : Nat → Nat → Nat) (O : Nat → Nat → Int32) (th : Int32) (g : Nat → Int64) (ad : Nat → Nat) (H : Heap) (locs : List Loc) (ls : Array Slot), zInv M → va_P D vwCl (lX k o g ad M O ++ zw 19 bd (cM k bd M O th)) H → va_D (fun q => s.heap.size ≤ q) (lX k o g ad M O ++ zw 19 bd (cM k bd M O th)) → va_S (fun q => s.heap.size ≤ q) s.heap H locs → lv_has ls 7 [(0, .ref b), (1, .ref (ad 0)), (2, .ref (bd 0)), (3, .ref o), (4, .int (nI i))] → W p l e room_1 s m args below meth c H locs (cells + 6) (slots + 35) Q (F0 m 1755 ls [])) : W p l e room_1 s m args below meth c H locs cells slots Q (F0 m 1363 ls []) := by
  exact lc_isMissed F hK hN hE hX hbl hi hL hc1 hc2 hP hD hS hl (c_X2_isMissed l hfl sa D k ad M O H.size hI _ _) (fun sz => c_X3_isMissed l D k bd M O th sz hI _ _) x3_le x3_ne3 (fun _ => ⟨rfl, rfl⟩) (fun _ => ⟨rfl, rfl⟩) (fun g1 ad1 H locs ls hP hD hS hl => nx _ _ _ _ _ _ _ _ hI hP hD hS hl)
set_option maxRecDepth 100000 in
set_option maxHeartbeats 2000000 in
theorem ld_step {p : Program} {l : Launch} {e : Env} {s : State} {m : MethodId} {args : Array Value} {below : List Frame} {meth : Method} {c : Code} {cells slots : Nat} {Q : State → Prop} {D : va_G} {k : Nat → ClassId} {sa : Nat → Nat} {b L i : Nat} {xs : Nat → Int32} {ad bd : Nat → Nat} {o : Nat} {g : Nat → Int64} {M : Nat → Nat → Nat} {O : Nat → Nat → Int32} {th : Int32} {H : Heap} {locs : List Loc} {ls : Array Slot} (F : CallFix p m c cL_law 7 s args wsL_law RL) (hK : va_K D vwCl (tyL k) s) (hN : lwN s) (hE : zE (fun q => s.heap.size ≤ q) sa s s.heap) (hX : va_X b L xs s s.heap) (hbl : b < s.heap.size) (hi : i + 5 ≤ L) (hL : L ≤ 2560) (hc1 : cells + 6 ≤ 601024) (hc2 : slots + 35 ≤ 7293034) (hfl : l.stackTraces = false) (hI : zInv M) (hP : va_P D vwCl (lX k o g ad M O ++ zw 19 bd (cM k bd M O th)) H) (hD : va_D (fun q => s.heap.size ≤ q) (lX k o g ad M O ++ zw 19 bd (cM k bd M O th))) (hS : va_S (fun q => s.heap.size ≤ q) s.heap H locs) (hl : lv_has ls 7 [(0, .ref b), (1, .ref (ad 0)), (2, .ref (bd 0)), (3, .ref o), (4, .int (nI i))])
    (nx : ∀ (M : Nat → Nat → Nat) (O : Nat → Nat → Int32) (th : Int32) (g : Nat → Int64) (ad : Nat → Nat) (H : Heap) (locs : List Loc) (ls : Array Slot), zInv M → va_P D vwCl (lX k o g ad M O ++ zw 19 bd (cM k bd M O th)) H → va_D (fun q => s.heap.size ≤ q) (lX k o g ad M O ++ zw 19 bd (cM k bd M O th)) → va_S (fun q => s.heap.size ≤ q) s.heap H locs → lv_has ls 7 [(0, .ref b), (1, .ref (ad 0)), (2, .ref (bd 0)), (3, .ref o), (4, .int (nI i))] → W p l e room_1 s m args below meth c H locs (cells + 6) (slots + 35) Q (F0 m 1755 ls [])) : W p l e room_1 s m args below meth c H locs cells slots Q (F0 m 1438 ls []) := by
  exact lc_step F hK hN hE hX hbl hi hL hc1 hc2 hP hD hS hl (c_X2_step l hfl sa D k ad M O H.size hI _) (fun sz => c_X3_step l D k bd M O th sz hI _) x3_le x3_ne2 x3_ne3 (fun _ => ⟨rfl, rfl⟩) (fun _ => ⟨rfl, rfl⟩) (fun g1 ad1 H locs ls hP hD hS hl => nx _ _ _ _ _ _ _ _ hI hP hD hS hl)
set_option maxRecDepth 100000 in
set_option maxHeartbeats 2000000 in
theorem ld_mostUrgent {p : Program} {l : Launch} {e : Env} {s : State} {m : MethodId} {args : Array Value} {below : List Frame} {meth : Method} {c : Code} {cells slots : Nat} {Q : State → Prop} {D : va_G} {k : Nat → ClassId} {sa : Nat → Nat} {b L i : Nat} {xs : Nat → Int32} {ad bd : Nat → Nat} {o : Nat} {g : Nat → Int64} {M : Nat → Nat → Nat} {O : Nat → Nat → Int32} {th : Int32} {H : Heap} {locs : List Loc} {ls : Array Slot} (F : CallFix p m c cL_law 7 s args wsL_law RL) (hK : va_K D vwCl (tyL k) s) (hN : lwN s) (hE : zE (fun q => s.heap.size ≤ q) sa s s.heap) (hX : va_X b L xs s s.heap) (hbl : b < s.heap.size) (hi : i + 5 ≤ L) (hL : L ≤ 2560) (hc1 : cells + 6 ≤ 601024) (hc2 : slots + 35 ≤ 7293034) (hfl : l.stackTraces = false) (hI : zInv M) (hP : va_P D vwCl (lX k o g ad M O ++ zw 19 bd (cM k bd M O th)) H) (hD : va_D (fun q => s.heap.size ≤ q) (lX k o g ad M O ++ zw 19 bd (cM k bd M O th))) (hS : va_S (fun q => s.heap.size ≤ q) s.heap H locs) (hl : lv_has ls 7 [(0, .ref b), (1, .ref (ad 0)), (2, .ref (bd 0)), (3, .ref o), (4, .int (nI i))])
    (nx : ∀ (M : Nat → Nat → Nat) (O : Nat → Nat → Int32) (th : Int32) (g : Nat → Int64) (ad : Nat → Nat) (H : Heap) (locs : List Loc) (ls : Array Slot), zInv M → va_P D vwCl (lX k o g ad M O ++ zw 19 bd (cM k bd M O th)) H → va_D (fun q => s.heap.size ≤ q) (lX k o g ad M O ++ zw 19 bd (cM k bd M O th)) → va_S (fun q => s.heap.size ≤ q) s.heap H locs → lv_has ls 7 [(0, .ref b), (1, .ref (ad 0)), (2, .ref (bd 0)), (3, .ref o), (4, .int (nI i))] → W p l e room_1 s m args below meth c H locs (cells + 6) (slots + 35) Q (F0 m 1755 ls [])) : W p l e room_1 s m args below meth c H locs cells slots Q (F0 m 1494 ls []) := by
  exact lc_mostUrgent (M' := M) (M1 := M) (O' := O) (O1 := O) F hK hN hE hX hbl hi hL hc1 hc2 hP hD hS hl (c_X2_mostUrgent l hfl sa D k ad M O H.size hI) (fun sz => c_X3_mostUrgent l D k bd M O th sz hI) (x3_0 trivial trivial trivial) (fun g1 ad1 H locs ls hP hD hS hl => nx _ _ _ _ _ _ _ _ hI hP hD hS hl)
set_option maxRecDepth 100000 in
set_option maxHeartbeats 2000000 in
theorem ld_buy {p : Program} {l : Launch} {e : Env} {s : State} {m : MethodId} {args : Array Value} {below : List Frame} {meth : Method} {c : Code} {cells slots : Nat} {Q : State → Prop} {D : va_G} {k : Nat → ClassId} {sa : Nat → Nat} {b L i : Nat} {xs : Nat → Int32} {ad bd : Nat → Nat} {o : Nat} {g : Nat → Int64} {M : Nat → Nat → Nat} {O : Nat → Nat → Int32} {th : Int32} {H : Heap} {locs : List Loc} {ls : Array Slot} (F : CallFix p m c cL_law 7 s args wsL_law RL) (hK : va_K D vwCl (tyL k) s) (hN : lwN s) (hE : zE (fun q => s.heap.size ≤ q) sa s s.heap) (hX : va_X b L xs s s.heap) (hbl : b < s.heap.size) (hi : i + 5 ≤ L) (hL : L ≤ 2560) (hc1 : cells + 6 ≤ 601024) (hc2 : slots + 35 ≤ 7293034) (hfl : l.stackTraces = false) (hI : zInv M) (hP : va_P D vwCl (lX k o g ad M O ++ zw 19 bd (cM k bd M O th)) H) (hD : va_D (fun q => s.heap.size ≤ q) (lX k o g ad M O ++ zw 19 bd (cM k bd M O th))) (hS : va_S (fun q => s.heap.size ≤ q) s.heap H locs) (hl : lv_has ls 7 [(0, .ref b), (1, .ref (ad 0)), (2, .ref (bd 0)), (3, .ref o), (4, .int (nI i))])
    (nx : ∀ (M : Nat → Nat → Nat) (O : Nat → Nat → Int32) (th : Int32) (g : Nat → Int64) (ad : Nat → Nat) (H : Heap) (locs : List Loc) (ls : Array Slot), zInv M → va_P D vwCl (lX k o g ad M O ++ zw 19 bd (cM k bd M O th)) H → va_D (fun q => s.heap.size ≤ q) (lX k o g ad M O ++ zw 19 bd (cM k bd M O th)) → va_S (fun q => s.heap.size ≤ q) s.heap H locs → lv_has ls 7 [(0, .ref b), (1, .ref (ad 0)), (2, .ref (bd 0)), (3, .ref o), (4, .int (nI i))] → W p l e room_1 s m args below meth c H locs (cells + 6) (slots + 35) Q (F0 m 1755 ls [])) : W p l e room_1 s m args below meth c H locs cells slots Q (F0 m 1507 ls []) := by
  exact lc_buy F hK hN hE hX hbl hi hL hc1 hc2 hP hD hS hl (c_X2_buy l hfl sa D k ad M O H.size hI _ _) (fun sz => c_X3_buy l D k bd M O th sz hI _ _) x3_le x3_ne3 (fun hq0 => ⟨rfl, if_pos hq0⟩) (fun hq0 => ⟨rfl, if_neg hq0⟩) (fun g1 ad1 H locs ls hP hD hS hl => nx _ _ _ _ _ _ _ _ hI hP hD hS hl)
set_option maxRecDepth 100000 in
set_option maxHeartbeats 2000000 in
theorem ld_work {p : Program} {l : Launch} {e : Env} {s : State} {m : MethodId} {args : Array Value} {below : List Frame} {meth : Method} {c : Code} {cells slots : Nat} {Q : State → Prop} {D : va_G} {k : Nat → ClassId} {sa : Nat → Nat} {b L i : Nat} {xs : Nat → Int32} {ad bd : Nat → Nat} {o : Nat} {g : Nat → Int64} {M : Nat → Nat → Nat} {O : Nat → Nat → Int32} {th : Int32} {H : Heap} {locs : List Loc} {ls : Array Slot} (F : CallFix p m c cL_law 7 s args wsL_law RL) (hK : va_K D vwCl (tyL k) s) (hN : lwN s) (hE : zE (fun q => s.heap.size ≤ q) sa s s.heap) (hX : va_X b L xs s s.heap) (hbl : b < s.heap.size) (hi : i + 5 ≤ L) (hL : L ≤ 2560) (hc1 : cells + 6 ≤ 601024) (hc2 : slots + 35 ≤ 7293034) (hfl : l.stackTraces = false) (hI : zInv M) (hP : va_P D vwCl (lX k o g ad M O ++ zw 19 bd (cM k bd M O th)) H) (hD : va_D (fun q => s.heap.size ≤ q) (lX k o g ad M O ++ zw 19 bd (cM k bd M O th))) (hS : va_S (fun q => s.heap.size ≤ q) s.heap H locs) (hl : lv_has ls 7 [(0, .ref b), (1, .ref (ad 0)), (2, .ref (bd 0)), (3, .ref o), (4, .int (nI i))])
    (nx : ∀ (M : Nat → Nat → Nat) (O : Nat → Nat → Int32) (th : Int32) (g : Nat → Int64) (ad : Nat → Nat) (H : Heap) (locs : List Loc) (ls : Array Slot), zInv M → va_P D vwCl (lX k o g ad M O ++ zw 19 bd (cM k bd M O th)) H → va_D (fun q => s.heap.size ≤ q) (lX k o g ad M O ++ zw 19 bd (cM k bd M O th)) → va_S (fun q => s.heap.size ≤ q) s.heap H locs → lv_has ls 7 [(0, .ref b), (1, .ref (ad 0)), (2, .ref (bd 0)), (3, .ref o), (4, .int (nI i))] → W p l e room_1 s m args below meth c H locs (cells + 6) (slots + 35) Q (F0 m 1755 ls [])) : W p l e room_1 s m args below meth c H locs cells slots Q (F0 m 1575 ls []) := by
  exact lc_work F hK hN hE hX hbl hi hL hc1 hc2 hP hD hS hl (c_X2_work l hfl sa D k ad M O H.size hI _ _) (fun sz => c_X3_work l D k bd M O th sz hI _ _) x3_le (fun hq0 => ⟨rfl, if_pos hq0⟩) (fun hq0 => ⟨rfl, if_neg hq0⟩) (fun g1 ad1 H locs ls hP hD hS hl => nx _ _ _ _ _ _ _ _ hI hP hD hS hl)
set_option maxRecDepth 100000 in
set_option maxHeartbeats 2000000 in
theorem ld_ahead {p : Program} {l : Launch} {e : Env} {s : State} {m : MethodId} {args : Array Value} {below : List Frame} {meth : Method} {c : Code} {cells slots : Nat} {Q : State → Prop} {D : va_G} {k : Nat → ClassId} {sa : Nat → Nat} {b L i : Nat} {xs : Nat → Int32} {ad bd : Nat → Nat} {o : Nat} {g : Nat → Int64} {M : Nat → Nat → Nat} {O : Nat → Nat → Int32} {th : Int32} {H : Heap} {locs : List Loc} {ls : Array Slot} (F : CallFix p m c cL_law 7 s args wsL_law RL) (hK : va_K D vwCl (tyL k) s) (hN : lwN s) (hE : zE (fun q => s.heap.size ≤ q) sa s s.heap) (hX : va_X b L xs s s.heap) (hbl : b < s.heap.size) (hi : i + 5 ≤ L) (hL : L ≤ 2560) (hc1 : cells + 6 ≤ 601024) (hc2 : slots + 35 ≤ 7293034) (hfl : l.stackTraces = false) (hI : zInv M) (hP : va_P D vwCl (lX k o g ad M O ++ zw 19 bd (cM k bd M O th)) H) (hD : va_D (fun q => s.heap.size ≤ q) (lX k o g ad M O ++ zw 19 bd (cM k bd M O th))) (hS : va_S (fun q => s.heap.size ≤ q) s.heap H locs) (hl : lv_has ls 7 [(0, .ref b), (1, .ref (ad 0)), (2, .ref (bd 0)), (3, .ref o), (4, .int (nI i))])
    (nx : ∀ (M : Nat → Nat → Nat) (O : Nat → Nat → Int32) (th : Int32) (g : Nat → Int64) (ad : Nat → Nat) (H : Heap) (locs : List Loc) (ls : Array Slot), zInv M → va_P D vwCl (lX k o g ad M O ++ zw 19 bd (cM k bd M O th)) H → va_D (fun q => s.heap.size ≤ q) (lX k o g ad M O ++ zw 19 bd (cM k bd M O th)) → va_S (fun q => s.heap.size ≤ q) s.heap H locs → lv_has ls 7 [(0, .ref b), (1, .ref (ad 0)), (2, .ref (bd 0)), (3, .ref o), (4, .int (nI i))] → W p l e room_1 s m args below meth c H locs (cells + 6) (slots + 35) Q (F0 m 1755 ls [])) : W p l e room_1 s m args below meth c H locs cells slots Q (F0 m 1643 ls []) := by
  exact lc_ahead F hK hN hE hX hbl hi hL hc1 hc2 hP hD hS hl (c_X2_ahead l hfl sa D k ad M O H.size hI _) (fun sz => c_X3_ahead l D k bd M O th sz hI _) x3_le x3_ne2 x3_ne3 (fun _ => ⟨rfl, rfl⟩) (fun _ => ⟨rfl, rfl⟩) (fun g1 ad1 H locs ls hP hD hS hl => nx _ _ _ _ _ _ _ _ hI hP hD hS hl)
set_option maxRecDepth 100000 in
set_option maxHeartbeats 2000000 in
theorem ld_owes {p : Program} {l : Launch} {e : Env} {s : State} {m : MethodId} {args : Array Value} {below : List Frame} {meth : Method} {c : Code} {cells slots : Nat} {Q : State → Prop} {D : va_G} {k : Nat → ClassId} {sa : Nat → Nat} {b L i : Nat} {xs : Nat → Int32} {ad bd : Nat → Nat} {o : Nat} {g : Nat → Int64} {M : Nat → Nat → Nat} {O : Nat → Nat → Int32} {th : Int32} {H : Heap} {locs : List Loc} {ls : Array Slot} (F : CallFix p m c cL_law 7 s args wsL_law RL) (hK : va_K D vwCl (tyL k) s) (hN : lwN s) (hE : zE (fun q => s.heap.size ≤ q) sa s s.heap) (hX : va_X b L xs s s.heap) (hbl : b < s.heap.size) (hi : i + 5 ≤ L) (hL : L ≤ 2560) (hc1 : cells + 6 ≤ 601024) (hc2 : slots + 35 ≤ 7293034) (hfl : l.stackTraces = false) (hI : zInv M) (hP : va_P D vwCl (lX k o g ad M O ++ zw 19 bd (cM k bd M O th)) H) (hD : va_D (fun q => s.heap.size ≤ q) (lX k o g ad M O ++ zw 19 bd (cM k bd M O th))) (hS : va_S (fun q => s.heap.size ≤ q) s.heap H locs) (hl : lv_has ls 7 [(0, .ref b), (1, .ref (ad 0)), (2, .ref (bd 0)), (3, .ref o), (4, .int (nI i))])
    (nx : ∀ (M : Nat → Nat → Nat) (O : Nat → Nat → Int32) (th : Int32) (g : Nat → Int64) (ad : Nat → Nat) (H : Heap) (locs : List Loc) (ls : Array Slot), zInv M → va_P D vwCl (lX k o g ad M O ++ zw 19 bd (cM k bd M O th)) H → va_D (fun q => s.heap.size ≤ q) (lX k o g ad M O ++ zw 19 bd (cM k bd M O th)) → va_S (fun q => s.heap.size ≤ q) s.heap H locs → lv_has ls 7 [(0, .ref b), (1, .ref (ad 0)), (2, .ref (bd 0)), (3, .ref o), (4, .int (nI i))] → W p l e room_1 s m args below meth c H locs (cells + 6) (slots + 35) Q (F0 m 1755 ls [])) : W p l e room_1 s m args below meth c H locs cells slots Q (F0 m 1699 ls []) := by
  exact lc_owes F hK hN hE hX hbl hi hL hc1 hc2 hP hD hS hl (c_X2_owes l hfl sa D k ad M O H.size hI _) (fun sz => c_X3_owes l D k bd M O th sz hI _) x3_le x3_ne2 x3_ne3 (fun _ => ⟨rfl, rfl⟩) (fun _ => ⟨rfl, rfl⟩) (fun g1 ad1 H locs ls hP hD hS hl => nx _ _ _ _ _ _ _ _ hI hP hD hS hl)
set_option maxRecDepth 100000 in
set_option maxHeartbeats 2000000 in
theorem law_loop {p : Program} {l : Launch} {e : Env} {s : State} {m : MethodId} {args : Array Value} {below : List Frame} {meth : Method} {c : Code} {Q : State → Prop} {D : va_G} {k : Nat → ClassId} {sa : Nat → Nat} {b L : Nat} {xs : Nat → Int32} {bd : Nat → Nat} {o : Nat} (F : CallFix p m c cL_law 7 s args wsL_law RL) (hK : va_K D vwCl (tyL k) s) (hN : lwN s) (hE : zE (fun q => s.heap.size ≤ q) sa s s.heap) (hX : va_X b L xs s s.heap) (hbl : b < s.heap.size) (hL : L ≤ 2560) (hfl : l.stackTraces = false)
    (kend : ∀ (H : Heap) (locs : List Loc) (ls : Array Slot), va_S (fun q => s.heap.size ≤ q) s.heap H locs → W p l e room_1 s m args below meth c H locs 601024 7293034 Q (F0 m 1761 ls [])) :
    ∀ (fu i cells slots : Nat), i ≤ L → L < i + 5 * fu → cells + 6 * fu ≤ 601024 → slots + 35 * fu ≤ 7293034 → ∀ (M : Nat → Nat → Nat) (O : Nat → Nat → Int32) (th : Int32) (g : Nat → Int64) (ad : Nat → Nat) (H : Heap) (locs : List Loc) (ls : Array Slot), zInv M → va_P D vwCl (lX k o g ad M O ++ zw 19 bd (cM k bd M O th)) H → va_D (fun q => s.heap.size ≤ q) (lX k o g ad M O ++ zw 19 bd (cM k bd M O th)) → va_S (fun q => s.heap.size ≤ q) s.heap H locs → lv_has ls 7 [(0, .ref b), (1, .ref (ad 0)), (2, .ref (bd 0)), (3, .ref o), (4, .int (nI i))] → W p l e room_1 s m args below meth c H locs cells slots Q (F0 m 23 ls []) := by
  have hx := F.1
  have hb := F.2.1
  have hts := F.2.2.2.2
  have hown := F.2.2.2.1
  have hbA : ¬ (fun q => s.heap.size ≤ q) b := Nat.not_le.mpr hbl
  intro fu
  induction fu with
  | zero => intro i cells slots h1 h2; omega
  | succ fu ih =>
    intro i cells slots h1 h2 h3 h4 M O th g ad H locs ls hI hP hD hS hl
    refine lv_iload hx hb dL_law_23 (lv_at hl 4 rfl) ?_
    refine lv_aload_n hx hb dL_law_25 rfl (lv_at hl 0 rfl) ?_
    refine va_slen hx hb hX hbl hbA hS dL_law_26 ?_
    refine lv_iconst (v := nI 5) hx hb dL_law_27 (by decide) ?_
    refine lv_isub hx hb dL_law_28 ?_
    refine lv_icmp_gt (tgt := 1761) hx hb dL_law_29 (by decide) (fun zc => ?_) (fun zc => ?_)
    · refine W.widen (k := 601024) (n := 7293034) (by omega) (by omega) ?_
      exact kend H locs ls hS
    · have hi : i + 5 ≤ L := by
        rw [z_ofI] at zc
        by_cases h5 : 5 ≤ L
        · rw [pk_sub h5] at zc
          rcases Nat.lt_or_ge (L - 5) i with zz1 | zz1
          · exact absurd ((nI_ltI (by omega) (by omega)).mpr zz1) zc
          · omega
        · exact absurd (Int32.lt_of_lt_of_le (pk_sneg (by decide) (show L < 5 by omega)) (nI_pos' (show i < 2 ^ 31 by omega))) zc
      have hc1 : cells + 6 ≤ 601024 := by omega
      have hc2 : slots + 35 ≤ 7293034 := by omega
      have nx : ∀ (M : Nat → Nat → Nat) (O : Nat → Nat → Int32) (th : Int32) (g : Nat → Int64) (ad : Nat → Nat) (H : Heap) (locs : List Loc) (ls : Array Slot), zInv M → va_P D vwCl (lX k o g ad M O ++ zw 19 bd (cM k bd M O th)) H → va_D (fun q => s.heap.size ≤ q) (lX k o g ad M O ++ zw 19 bd (cM k bd M O th)) → va_S (fun q => s.heap.size ≤ q) s.heap H locs → lv_has ls 7 [(0, .ref b), (1, .ref (ad 0)), (2, .ref (bd 0)), (3, .ref o), (4, .int (nI i))] → W p l e room_1 s m args below meth c H locs (cells + 6) (slots + 35) Q (F0 m 1755 ls []) := by
        intro M O th g ad H locs ls hI hP hD hS hl
        refine lv_iinc (v := nI (i + 5)) (lv' := [(4, .int (nI (i + 5))), (0, .ref b), (1, .ref (ad 0)), (2, .ref (bd 0)), (3, .ref o)]) hx hb dL_law_1755 hl (k := 4) rfl (nI_add i 5) (by decide) rfl (fun ls hl => ?_)
        refine lv_goto (tgt := 23) hx hb dL_law_1758 (by decide) ?_
        exact ih (i + 5) (cells + 6) (slots + 35) (by omega) (by omega) (by omega) (by omega) M O th g ad H locs ls hI hP hD hS (lv_sub hl [1, 2, 3, 4, 0] rfl)
      refine lv_aload_n hx hb dL_law_32 rfl (lv_at hl 0 rfl) ?_
      refine lv_iload hx hb dL_law_33 (lv_at hl 4 rfl) ?_
      refine lw_sld F hX hbl hbA hS (show i < L by omega) hL dL_law_35 ?_
      refine lv_bipush (v := nI 31) hx hb dL_law_36 (by decide) ?_
      refine lv_iand hx hb dL_law_38 ?_
      obtain ⟨v, hv, hve⟩ := and31 (xs i)
      refine z_top hve ?_
      have hvi : (nI v).toInt = (v : Int) := nI_toInt (by omega)
      by_cases hv0 : v = 0
      · subst hv0
        refine lv_tableIn (off := 109) (tgt := 148) hx hb dL_law_39 (by decide) (by decide) (by decide) (by decide) ?_
        exact ld_setCalendar F hK hN hE hX hbl hi hL hc1 hc2 hfl hI hP hD hS hl nx
      by_cases hv1 : v = 1
      · subst hv1
        refine lv_tableIn (off := 201) (tgt := 240) hx hb dL_law_39 (by decide) (by decide) (by decide) (by decide) ?_
        exact ld_addContract F hK hN hE hX hbl hi hL hc1 hc2 hfl hI hP hD hS hl nx
      by_cases hv2 : v = 2
      · subst hv2
        refine lv_tableIn (off := 293) (tgt := 332) hx hb dL_law_39 (by decide) (by decide) (by decide) (by decide) ?_
        exact ld_setPromise F hK hN hE hX hbl hi hL hc1 hc2 hfl hI hP hD hS hl nx
      by_cases hv3 : v = 3
      · subst hv3
        refine lv_tableIn (off := 373) (tgt := 412) hx hb dL_law_39 (by decide) (by decide) (by decide) (by decide) ?_
        exact ld_isCovered F hK hN hE hX hbl hi hL hc1 hc2 hfl hI hP hD hS hl nx
      by_cases hv4 : v = 4
      · subst hv4
        refine lv_tableIn (off := 460) (tgt := 499) hx hb dL_law_39 (by decide) (by decide) (by decide) (by decide) ?_
        exact ld_nextGap F hK hN hE hX hbl hi hL hc1 hc2 hfl hI hP hD hS hl nx
      by_cases hv5 : v = 5
      · subst hv5
        refine lv_tableIn (off := 540) (tgt := 579) hx hb dL_law_39 (by decide) (by decide) (by decide) (by decide) ?_
        exact ld_pass F hK hN hE hX hbl hi hL hc1 hc2 hfl hI hP hD hS hl nx
      by_cases hv6 : v = 6
      · subst hv6
        refine lv_tableIn (off := 596) (tgt := 635) hx hb dL_law_39 (by decide) (by decide) (by decide) (by decide) ?_
        exact ld_time F hK hN hE hX hbl hi hL hc1 hc2 hfl hI hP hD hS hl nx
      by_cases hv7 : v = 7
      · subst hv7
        refine lv_tableIn (off := 609) (tgt := 648) hx hb dL_law_39 (by decide) (by decide) (by decide) (by decide) ?_
        exact ld_hours F hK hN hE hX hbl hi hL hc1 hc2 hfl hI hP hD hS hl nx
      by_cases hv8 : v = 8
      · subst hv8
        refine lv_tableIn (off := 689) (tgt := 728) hx hb dL_law_39 (by decide) (by decide) (by decide) (by decide) ?_
        exact ld_hoursOneByOne F hK hN hE hX hbl hi hL hc1 hc2 hfl hI hP hD hS hl nx
      by_cases hv9 : v = 9
      · subst hv9
        refine lv_tableIn (off := 769) (tgt := 808) hx hb dL_law_39 (by decide) (by decide) (by decide) (by decide) ?_
        exact ld_open F hK hN hE hX hbl hi hL hc1 hc2 hfl hI hP hD hS hl nx
      by_cases hv10 : v = 10
      · subst hv10
        refine lv_tableIn (off := 849) (tgt := 888) hx hb dL_law_39 (by decide) (by decide) (by decide) (by decide) ?_
        exact ld_reach F hK hN hE hX hbl hi hL hc1 hc2 hfl hI hP hD hS hl nx
      by_cases hv11 : v = 11
      · subst hv11
        refine lv_tableIn (off := 917) (tgt := 956) hx hb dL_law_39 (by decide) (by decide) (by decide) (by decide) ?_
        exact ld_rest F hK hN hE hX hbl hi hL hc1 hc2 hfl hI hP hD hS hl nx
      by_cases hv12 : v = 12
      · subst hv12
        refine lv_tableIn (off := 1008) (tgt := 1047) hx hb dL_law_39 (by decide) (by decide) (by decide) (by decide) ?_
        exact ld_setGravity F hK hN hE hX hbl hi hL hc1 hc2 hfl hI hP hD hS hl nx
      by_cases hv13 : v = 13
      · subst hv13
        refine lv_tableIn (off := 1076) (tgt := 1115) hx hb dL_law_39 (by decide) (by decide) (by decide) (by decide) ?_
        exact ld_join F hK hN hE hX hbl hi hL hc1 hc2 hfl hI hP hD hS hl nx
      by_cases hv14 : v = 14
      · subst hv14
        refine lv_tableIn (off := 1144) (tgt := 1183) hx hb dL_law_39 (by decide) (by decide) (by decide) (by decide) ?_
        exact ld_openAnew F hK hN hE hX hbl hi hL hc1 hc2 hfl hI hP hD hS hl nx
      by_cases hv15 : v = 15
      · subst hv15
        refine lv_tableIn (off := 1200) (tgt := 1239) hx hb dL_law_39 (by decide) (by decide) (by decide) (by decide) ?_
        exact ld_stateOf F hK hN hE hX hbl hi hL hc1 hc2 hfl hI hP hD hS hl nx
      by_cases hv16 : v = 16
      · subst hv16
        refine lv_tableIn (off := 1256) (tgt := 1295) hx hb dL_law_39 (by decide) (by decide) (by decide) (by decide) ?_
        exact ld_clock F hK hN hE hX hbl hi hL hc1 hc2 hfl hI hP hD hS hl nx
      by_cases hv17 : v = 17
      · subst hv17
        refine lv_tableIn (off := 1324) (tgt := 1363) hx hb dL_law_39 (by decide) (by decide) (by decide) (by decide) ?_
        exact ld_isMissed F hK hN hE hX hbl hi hL hc1 hc2 hfl hI hP hD hS hl nx
      by_cases hv18 : v = 18
      · subst hv18
        refine lv_tableIn (off := 1399) (tgt := 1438) hx hb dL_law_39 (by decide) (by decide) (by decide) (by decide) ?_
        exact ld_step F hK hN hE hX hbl hi hL hc1 hc2 hfl hI hP hD hS hl nx
      by_cases hv19 : v = 19
      · subst hv19
        refine lv_tableIn (off := 1455) (tgt := 1494) hx hb dL_law_39 (by decide) (by decide) (by decide) (by decide) ?_
        exact ld_mostUrgent F hK hN hE hX hbl hi hL hc1 hc2 hfl hI hP hD hS hl nx
      by_cases hv20 : v = 20
      · subst hv20
        refine lv_tableIn (off := 1468) (tgt := 1507) hx hb dL_law_39 (by decide) (by decide) (by decide) (by decide) ?_
        exact ld_buy F hK hN hE hX hbl hi hL hc1 hc2 hfl hI hP hD hS hl nx
      by_cases hv21 : v = 21
      · subst hv21
        refine lv_tableIn (off := 1536) (tgt := 1575) hx hb dL_law_39 (by decide) (by decide) (by decide) (by decide) ?_
        exact ld_work F hK hN hE hX hbl hi hL hc1 hc2 hfl hI hP hD hS hl nx
      by_cases hv22 : v = 22
      · subst hv22
        refine lv_tableIn (off := 1604) (tgt := 1643) hx hb dL_law_39 (by decide) (by decide) (by decide) (by decide) ?_
        exact ld_ahead F hK hN hE hX hbl hi hL hc1 hc2 hfl hI hP hD hS hl nx
      by_cases hv23 : v = 23
      · subst hv23
        refine lv_tableIn (off := 1660) (tgt := 1699) hx hb dL_law_39 (by decide) (by decide) (by decide) (by decide) ?_
        exact ld_owes F hK hN hE hX hbl hi hL hc1 hc2 hfl hI hP hD hS hl nx
      refine lv_tableOut (tgt := 1755) hx hb dL_law_39 (Or.inr (by rw [hvi]; omega)) (by decide) ?_
      refine W.widen (k := cells + 6) (n := slots + 35) (by omega) (by omega) ?_
      exact nx M O th g ad H locs ls hI hP hD hS hl
