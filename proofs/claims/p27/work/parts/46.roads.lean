/-! THE LAW'S BODY, a road at a time. -/
theorem ex_no {E : String} (h : exC E (x3 True True True)) : False := by
  rw [x3_0 trivial trivial trivial] at h
  rcases h with ⟨h1, -⟩ | ⟨h1, -⟩ | ⟨h1, -⟩ <;> cases h1
section LK2
variable {g : Nat} {M N : Nat → Nat → Nat} {O P : Nat → Nat → Int32}
theorem rV_cg {x y : Nat} {r q : Int32} (h : y = x) (h1 : x = 0 → q = r) : rV y q = rV x r := by
  subst h
  unfold rV
  split
  · next h0 => exact h1 h0
  · rfl
theorem sy_set2 (h : Sy g M O N P) (hI : zInv M) (hJ : zInv N) {w : Nat} (hw : w < 6) {p0 q0 : Int32} (hp : (w = 2 ∨ w = 3) ∨ ∃ i, i < 4 ∧ p0 = nI i ∧ q0 = nI (sg g i)) (p1 p2 p3 : Int32) : rV (tsX N P w q0 p1 p2 p3) (tsV N P w q0 p1 p2 p3) = rV (tsX M O w p0 p1 p2 p3) (tsV M O w p0 p1 p2 p3) ∧ Sy g (if tsX M O w p0 p1 p2 p3 = 0 then tsM M O w p0 p1 p2 p3 else M) (if tsX M O w p0 p1 p2 p3 = 0 then tsO M O w p0 p1 p2 p3 else O) (if tsX N P w q0 p1 p2 p3 = 0 then tsM N P w q0 p1 p2 p3 else N) (if tsX N P w q0 p1 p2 p3 = 0 then tsO N P w q0 p1 p2 p3 else P) ∧ zInv (if tsX M O w p0 p1 p2 p3 = 0 then tsM M O w p0 p1 p2 p3 else M) ∧ zInv (if tsX N P w q0 p1 p2 p3 = 0 then tsM N P w q0 p1 p2 p3 else N) := by
  obtain ⟨h1, h2⟩ := sy_set h hI hw hp p1 p2 p3
  refine ⟨rV_cg h1 (fun zz1 => (h2 zz1).1), ?_, iz_set hI hw _ _ _ _, iz_set hJ hw _ _ _ _⟩
  rw [h1]
  by_cases h0 : tsX M O w p0 p1 p2 p3 = 0
  · rw [if_pos h0, if_pos h0, if_pos h0, if_pos h0]; exact (h2 h0).2
  · rw [if_neg h0, if_neg h0, if_neg h0, if_neg h0]; exact h
theorem sy_does2 (h : Sy g M O N P) (hI : zInv M) (hJ : zInv N) {w : Nat} (hw : w < 6) (p0 p1 : Int32) : rV (tdX N P w p0 p1) (tdV N P w p0 p1) = rV (tdX M O w p0 p1) (tdV M O w p0 p1) ∧ Sy g (if tdX M O w p0 p1 = 0 then tdM M O w p0 p1 else M) (if tdX M O w p0 p1 = 0 then tdO M O w p0 p1 else O) (if tdX N P w p0 p1 = 0 then tdM N P w p0 p1 else N) (if tdX N P w p0 p1 = 0 then tdO N P w p0 p1 else P) ∧ zInv (if tdX M O w p0 p1 = 0 then tdM M O w p0 p1 else M) ∧ zInv (if tdX N P w p0 p1 = 0 then tdM N P w p0 p1 else N) := by
  obtain ⟨h1, h2⟩ := sy_does h hI hw p0 p1
  refine ⟨rV_cg h1 (fun zz1 => (h2 zz1).1), ?_, iz_does hI hw _ _, iz_does hJ hw _ _⟩
  rw [h1]
  by_cases h0 : tdX M O w p0 p1 = 0
  · rw [if_pos h0, if_pos h0, if_pos h0, if_pos h0]; exact (h2 h0).2
  · rw [if_neg h0, if_neg h0, if_neg h0, if_neg h0]; exact h
end LK2
set_option maxRecDepth 100000 in
set_option maxHeartbeats 2000000 in
theorem lp_0 {p : Program} {l : Launch} {e : Env} {s : State} {m : MethodId} {args : Array Value} {below : List Frame} {meth : Method} {c : Code} {cells slots : Nat} {Q : State → Prop} {D : va_G} {k : Nat → ClassId} {sa : Nat → Nat} {b g i st v : Nat} {ad bd : Nat → Nat} {M N : Nat → Nat → Nat} {O P : Nat → Nat → Int32} {cs : Int32} {H : Heap} {locs : List Loc} {ls : Array Slot} (F : CallFix p m c cL_law 16 s args wsL_law RL) (hK : va_K D vwCl (tyL k) s) (hN : lwN s) (hE : zE (fun q => s.heap.size ≤ q) sa s s.heap) (hfl : l.stackTraces = false) (hv : v < 1073741824) (hst : st < 4) (hy : Sy g M O N P) (hI : zInv M) (hJ : zInv N) (hP : va_P D vwCl (zw (20 + 2 * M 0 1) ad (cX k ad M O) ++ zw (20 + 2 * N 0 1) bd (cX k bd N P)) H) (hD : va_D (fun q => s.heap.size ≤ q) (zw (20 + 2 * M 0 1) ad (cX k ad M O) ++ zw (20 + 2 * N 0 1) bd (cX k bd N P))) (hS : va_S (fun q => s.heap.size ≤ q) s.heap H locs) (hl : lv_has ls 16 [(0, .ref b), (1, .ref (ad 0)), (2, .ref (bd 0)), (3, .int (nI g)), (4, .int cs), (5, .int (nI 1)), (6, .int (nI i)), (8, .int (nI 0)), (9, .int (nI v)), (10, .int (nI st)), (11, .int (nI (sg g st))), (12, .int (nI (v / 4 % 40)))])
    (hc1 : cells + 12 ≤ 623114) (hc2 : slots + 70 ≤ 7232282) (nx : ∀ (M N : Nat → Nat → Nat) (O P : Nat → Nat → Int32) (ad bd : Nat → Nat) (cs : Int32) (H : Heap) (locs : List Loc) (ls : Array Slot), Sy g M O N P → zInv M → zInv N → va_P D vwCl (zw (20 + 2 * M 0 1) ad (cX k ad M O) ++ zw (20 + 2 * N 0 1) bd (cX k bd N P)) H → va_D (fun q => s.heap.size ≤ q) (zw (20 + 2 * M 0 1) ad (cX k ad M O) ++ zw (20 + 2 * N 0 1) bd (cX k bd N P)) → va_S (fun q => s.heap.size ≤ q) s.heap H locs → lv_has ls 16 [(0, .ref b), (1, .ref (ad 0)), (2, .ref (bd 0)), (3, .int (nI g)), (4, .int cs), (5, .int (nI 1)), (6, .int (nI i)), (9, .int (nI v)), (10, .int (nI st)), (11, .int (nI (sg g st))), (12, .int (nI (v / 4 % 40)))] → W p l e room_1 s m args below meth c H locs (cells + 12) (slots + 70) Q (F0 m 634 ls [])) : W p l e room_1 s m args below meth c H locs cells slots Q (F0 m 112 ls []) := by
  have hx := F.1
  have hb := F.2.1
  have hts := F.2.2.2.2
  have hA : ∀ q : Nat, s.heap.size ≤ q → (fun q => s.heap.size ≤ q) q := fun _ h => h
  refine lv_iload hx hb dL_law_112 (lv_at hl 7 rfl) ?_
  refine lv_iconst (v := nI 2) hx hb dL_law_114 (by decide) ?_
  refine z_icmp_ge (tgt := 238) F (by omega) (by omega) dL_law_115 (by decide) (fun zc => absurd zc (by decide)) (fun _ => ?_)
  refine lv_iload hx hb dL_law_118 (lv_at hl 8 rfl) ?_
  refine lv_sipush (v := nI 160) hx hb dL_law_120 (by decide) ?_
  refine z_div F (by omega) (by omega) (by omega) dL_law_123 ?_
  refine lv_bipush (v := nI 24) hx hb dL_law_124 (by decide) ?_
  refine z_rem F (by omega) (by omega) (by omega) dL_law_126 ?_
  refine lv_istore (lv' := [(13, .int (nI ((v / 160) % 24))), (0, .ref b), (1, .ref (ad 0)), (2, .ref (bd 0)), (3, .int (nI g)), (4, .int cs), (5, .int (nI 1)), (6, .int (nI i)), (8, .int (nI 0)), (9, .int (nI v)), (10, .int (nI st)), (11, .int (nI (sg g st))), (12, .int (nI (v / 4 % 40)))]) hx hb dL_law_127 hl (by decide) rfl (fun ls hl => ?_)
  refine lv_iload hx hb dL_law_129 (lv_at hl 8 rfl) ?_
  refine z_ifn_neF (tgt := 139) F dL_law_131 (by decide) ?_
  refine lv_iload hx hb dL_law_134 (lv_at hl 0 rfl) ?_
  refine lv_goto (tgt := 148) hx hb dL_law_136 (by decide) ?_
  refine lv_istore (lv' := [(14, .int (nI ((v / 160) % 24))), (13, .int (nI ((v / 160) % 24))), (0, .ref b), (1, .ref (ad 0)), (2, .ref (bd 0)), (3, .int (nI g)), (4, .int cs), (5, .int (nI 1)), (6, .int (nI i)), (8, .int (nI 0)), (9, .int (nI v)), (10, .int (nI st)), (11, .int (nI (sg g st))), (12, .int (nI (v / 4 % 40)))]) hx hb dL_law_148 hl (by decide) rfl (fun ls hl => ?_)
  refine lv_iload hx hb dL_law_150 (lv_at hl 9 rfl) ?_
  refine z_ifn_neF (tgt := 172) F dL_law_152 (by decide) ?_
  refine lv_iload hx hb dL_law_155 (lv_at hl 1 rfl) ?_
  refine lv_iload hx hb dL_law_157 (lv_at hl 10 rfl) ?_
  refine lv_bipush (v := nI 7) hx hb dL_law_159 (by decide) ?_
  refine z_div F (by omega) (by omega) (by omega) dL_law_161 ?_
  refine lv_bipush (v := nI 24) hx hb dL_law_162 (by decide) ?_
  refine lv_iload hx hb dL_law_164 (lv_at hl 1 rfl) ?_
  refine z_sub F (by omega) dL_law_166 ?_
  refine z_rem F (by omega) (by omega) (by omega) dL_law_167 ?_
  refine z_add F dL_law_168 ?_
  refine lv_goto (tgt := 183) hx hb dL_law_169 (by decide) ?_
  refine lv_istore (lv' := [(15, .int (nI (((v / 160) % 24) + ((v / 7) % (24 - ((v / 160) % 24)))))), (14, .int (nI ((v / 160) % 24))), (13, .int (nI ((v / 160) % 24))), (0, .ref b), (1, .ref (ad 0)), (2, .ref (bd 0)), (3, .int (nI g)), (4, .int cs), (5, .int (nI 1)), (6, .int (nI i)), (8, .int (nI 0)), (9, .int (nI v)), (10, .int (nI st)), (11, .int (nI (sg g st))), (12, .int (nI (v / 4 % 40)))]) hx hb dL_law_183 hl (by decide) rfl (fun ls hl => ?_)
  refine lv_aload_n hx hb dL_law_185 rfl (lv_at hl 4 rfl) ?_
  refine lv_iload hx hb dL_law_186 (lv_at hl 10 rfl) ?_
  refine lv_iload hx hb dL_law_188 (lv_at hl 12 rfl) ?_
  refine lv_iload hx hb dL_law_190 (lv_at hl 11 rfl) ?_
  refine lv_iconst (v := nI 4) hx hb dL_law_192 (by decide) ?_
  refine z_div F (by omega) (by omega) (by omega) dL_law_193 ?_
  refine lv_sipush (v := nI 129) hx hb dL_law_194 (by decide) ?_
  refine z_rem F (by omega) (by omega) (by omega) dL_law_197 ?_
  refine lv_iload hx hb dL_law_198 (lv_at hl 1 rfl) ?_
  refine lv_iload hx hb dL_law_200 (lv_at hl 0 rfl) ?_
  refine tw_call (As := [.ref (ad 0), .int (nI 0), .int (nI st), .int (nI ((v / 4) % 129)), .int (nI ((v / 160) % 24)), .int (nI (((v / 160) % 24) + ((v / 7) % (24 - ((v / 160) % 24)))))]) (rest := []) F (c_L_set l hfl sa D k ad M O _ hI 0 (by decide) (nI st) (nI ((v / 4) % 129)) (nI ((v / 160) % 24)) (nI (((v / 160) % 24) + ((v / 7) % (24 - ((v / 160) % 24)))))) (vx_cwSW 6 hts gL_law_L_set rfl rfl rfl (by decide +kernel) ⟨Nat.le_of_ble_eq_true rfl, Nat.le_of_ble_eq_true rfl⟩) hK hN hE hP hD hS hA rfl hl.1 rfl (Nat.le_of_ble_eq_true rfl) dL_law_202 ⟨by show _ ≤ 623114; omega, by show _ ≤ 7232282; omega⟩ (fun ad1 H locs had hP hD hS => ?_)
  rw [← had 0 (by omega)] at hl
  refine lv_aload_n hx hb dL_law_205 rfl (lv_at hl 5 rfl) ?_
  refine lv_iload hx hb dL_law_206 (lv_at hl 10 rfl) ?_
  refine lv_iload hx hb dL_law_208 (lv_at hl 13 rfl) ?_
  refine lv_iload hx hb dL_law_210 (lv_at hl 11 rfl) ?_
  refine lv_iconst (v := nI 4) hx hb dL_law_212 (by decide) ?_
  refine z_div F (by omega) (by omega) (by omega) dL_law_213 ?_
  refine lv_sipush (v := nI 129) hx hb dL_law_214 (by decide) ?_
  refine z_rem F (by omega) (by omega) (by omega) dL_law_217 ?_
  refine lv_iload hx hb dL_law_218 (lv_at hl 1 rfl) ?_
  refine lv_iload hx hb dL_law_220 (lv_at hl 0 rfl) ?_
  replace hP := wPs hP
  replace hD := wDs hD
  refine tw_call (As := [.ref (bd 0), .int (nI 0), .int (nI (sg g st)), .int (nI ((v / 4) % 129)), .int (nI ((v / 160) % 24)), .int (nI (((v / 160) % 24) + ((v / 7) % (24 - ((v / 160) % 24)))))]) (rest := [.int (rV (tsX M O 0 (nI st) (nI ((v / 4) % 129)) (nI ((v / 160) % 24)) (nI (((v / 160) % 24) + ((v / 7) % (24 - ((v / 160) % 24)))))) (tsV M O 0 (nI st) (nI ((v / 4) % 129)) (nI ((v / 160) % 24)) (nI (((v / 160) % 24) + ((v / 7) % (24 - ((v / 160) % 24)))))))]) F (c_L_set l hfl sa D k bd N P _ hJ 0 (by decide) (nI (sg g st)) (nI ((v / 4) % 129)) (nI ((v / 160) % 24)) (nI (((v / 160) % 24) + ((v / 7) % (24 - ((v / 160) % 24)))))) (vx_cwSW 6 hts gL_law_L_set rfl rfl rfl (by decide +kernel) ⟨Nat.le_of_ble_eq_true rfl, Nat.le_of_ble_eq_true rfl⟩) hK hN hE hP hD hS hA rfl hl.1 rfl (Nat.le_of_ble_eq_true rfl) dL_law_222 ⟨by show _ ≤ 623114; omega, by show _ ≤ 7232282; omega⟩ (fun bd2 H locs had hP hD hS => ?_)
  rw [← had 0 (by omega)] at hl
  replace hP := wPs hP
  replace hD := wDs hD
  obtain ⟨hv1, hy1, hI1, hJ1⟩ := sy_set2 hy hI hJ (w := 0) (by decide) (p0 := nI st) (q0 := nI (sg g st)) (Or.inr ⟨st, hst, rfl, rfl⟩) (nI ((v / 4) % 129)) (nI ((v / 160) % 24)) (nI (((v / 160) % 24) + ((v / 7) % (24 - ((v / 160) % 24)))))
  refine lv_icmp_ne (tgt := 232) hx hb dL_law_225 (by decide) (fun zc => absurd (hv1.symm) zc) (fun _ => ?_)
  refine lv_iconst (v := nI 1) hx hb dL_law_228 (by decide) ?_
  refine lv_goto (tgt := 233) hx hb dL_law_229 (by decide) ?_
  refine lv_istore (lv' := [(5, .int (nI 1)), (15, .int (nI (((v / 160) % 24) + ((v / 7) % (24 - ((v / 160) % 24)))))), (14, .int (nI ((v / 160) % 24))), (13, .int (nI ((v / 160) % 24))), (0, .ref b), (1, .ref (ad1 0)), (2, .ref (bd2 0)), (3, .int (nI g)), (4, .int cs), (6, .int (nI i)), (8, .int (nI 0)), (9, .int (nI v)), (10, .int (nI st)), (11, .int (nI (sg g st))), (12, .int (nI (v / 4 % 40)))]) hx hb dL_law_233 hl (by decide) rfl (fun ls hl => ?_)
  refine lv_goto (tgt := 634) hx hb dL_law_235 (by decide) ?_
  refine W.widen (k := cells + 12) (n := slots + 70) (by omega) (by omega) ?_
  exact nx _ _ _ _ _ _ _ _ _ _ hy1 hI1 hJ1 hP hD hS (lv_sub hl [4, 5, 6, 7, 8, 0, 9, 11, 12, 13, 14] rfl)
set_option maxRecDepth 100000 in
set_option maxHeartbeats 2000000 in
theorem lp_1 {p : Program} {l : Launch} {e : Env} {s : State} {m : MethodId} {args : Array Value} {below : List Frame} {meth : Method} {c : Code} {cells slots : Nat} {Q : State → Prop} {D : va_G} {k : Nat → ClassId} {sa : Nat → Nat} {b g i st v : Nat} {ad bd : Nat → Nat} {M N : Nat → Nat → Nat} {O P : Nat → Nat → Int32} {cs : Int32} {H : Heap} {locs : List Loc} {ls : Array Slot} (F : CallFix p m c cL_law 16 s args wsL_law RL) (hK : va_K D vwCl (tyL k) s) (hN : lwN s) (hE : zE (fun q => s.heap.size ≤ q) sa s s.heap) (hfl : l.stackTraces = false) (hv : v < 1073741824) (hst : st < 4) (hy : Sy g M O N P) (hI : zInv M) (hJ : zInv N) (hP : va_P D vwCl (zw (20 + 2 * M 0 1) ad (cX k ad M O) ++ zw (20 + 2 * N 0 1) bd (cX k bd N P)) H) (hD : va_D (fun q => s.heap.size ≤ q) (zw (20 + 2 * M 0 1) ad (cX k ad M O) ++ zw (20 + 2 * N 0 1) bd (cX k bd N P))) (hS : va_S (fun q => s.heap.size ≤ q) s.heap H locs) (hl : lv_has ls 16 [(0, .ref b), (1, .ref (ad 0)), (2, .ref (bd 0)), (3, .int (nI g)), (4, .int cs), (5, .int (nI 1)), (6, .int (nI i)), (8, .int (nI 1)), (9, .int (nI v)), (10, .int (nI st)), (11, .int (nI (sg g st))), (12, .int (nI (v / 4 % 40)))])
    (hc1 : cells + 12 ≤ 623114) (hc2 : slots + 70 ≤ 7232282) (nx : ∀ (M N : Nat → Nat → Nat) (O P : Nat → Nat → Int32) (ad bd : Nat → Nat) (cs : Int32) (H : Heap) (locs : List Loc) (ls : Array Slot), Sy g M O N P → zInv M → zInv N → va_P D vwCl (zw (20 + 2 * M 0 1) ad (cX k ad M O) ++ zw (20 + 2 * N 0 1) bd (cX k bd N P)) H → va_D (fun q => s.heap.size ≤ q) (zw (20 + 2 * M 0 1) ad (cX k ad M O) ++ zw (20 + 2 * N 0 1) bd (cX k bd N P)) → va_S (fun q => s.heap.size ≤ q) s.heap H locs → lv_has ls 16 [(0, .ref b), (1, .ref (ad 0)), (2, .ref (bd 0)), (3, .int (nI g)), (4, .int cs), (5, .int (nI 1)), (6, .int (nI i)), (9, .int (nI v)), (10, .int (nI st)), (11, .int (nI (sg g st))), (12, .int (nI (v / 4 % 40)))] → W p l e room_1 s m args below meth c H locs (cells + 12) (slots + 70) Q (F0 m 634 ls [])) : W p l e room_1 s m args below meth c H locs cells slots Q (F0 m 112 ls []) := by
  have hx := F.1
  have hb := F.2.1
  have hts := F.2.2.2.2
  have hA : ∀ q : Nat, s.heap.size ≤ q → (fun q => s.heap.size ≤ q) q := fun _ h => h
  refine lv_iload hx hb dL_law_112 (lv_at hl 7 rfl) ?_
  refine lv_iconst (v := nI 2) hx hb dL_law_114 (by decide) ?_
  refine z_icmp_ge (tgt := 238) F (by omega) (by omega) dL_law_115 (by decide) (fun zc => absurd zc (by decide)) (fun _ => ?_)
  refine lv_iload hx hb dL_law_118 (lv_at hl 8 rfl) ?_
  refine lv_sipush (v := nI 160) hx hb dL_law_120 (by decide) ?_
  refine z_div F (by omega) (by omega) (by omega) dL_law_123 ?_
  refine lv_bipush (v := nI 24) hx hb dL_law_124 (by decide) ?_
  refine z_rem F (by omega) (by omega) (by omega) dL_law_126 ?_
  refine lv_istore (lv' := [(13, .int (nI ((v / 160) % 24))), (0, .ref b), (1, .ref (ad 0)), (2, .ref (bd 0)), (3, .int (nI g)), (4, .int cs), (5, .int (nI 1)), (6, .int (nI i)), (8, .int (nI 1)), (9, .int (nI v)), (10, .int (nI st)), (11, .int (nI (sg g st))), (12, .int (nI (v / 4 % 40)))]) hx hb dL_law_127 hl (by decide) rfl (fun ls hl => ?_)
  refine lv_iload hx hb dL_law_129 (lv_at hl 8 rfl) ?_
  refine z_ifn_neT (tgt := 139) F (by decide) dL_law_131 (by decide) ?_
  refine lv_iload hx hb dL_law_139 (lv_at hl 9 rfl) ?_
  refine lv_sipush (v := nI 160) hx hb dL_law_141 (by decide) ?_
  refine z_div F (by omega) (by omega) (by omega) dL_law_144 ?_
  refine lv_bipush (v := nI 50) hx hb dL_law_145 (by decide) ?_
  refine z_rem F (by omega) (by omega) (by omega) dL_law_147 ?_
  refine lv_istore (lv' := [(14, .int (nI ((v / 160) % 50))), (13, .int (nI ((v / 160) % 24))), (0, .ref b), (1, .ref (ad 0)), (2, .ref (bd 0)), (3, .int (nI g)), (4, .int cs), (5, .int (nI 1)), (6, .int (nI i)), (8, .int (nI 1)), (9, .int (nI v)), (10, .int (nI st)), (11, .int (nI (sg g st))), (12, .int (nI (v / 4 % 40)))]) hx hb dL_law_148 hl (by decide) rfl (fun ls hl => ?_)
  refine lv_iload hx hb dL_law_150 (lv_at hl 9 rfl) ?_
  refine z_ifn_neT (tgt := 172) F (by decide) dL_law_152 (by decide) ?_
  refine lv_iload hx hb dL_law_172 (lv_at hl 0 rfl) ?_
  refine lv_iload hx hb dL_law_174 (lv_at hl 10 rfl) ?_
  refine lv_bipush (v := nI 7) hx hb dL_law_176 (by decide) ?_
  refine z_div F (by omega) (by omega) (by omega) dL_law_178 ?_
  refine lv_bipush (v := nI 60) hx hb dL_law_179 (by decide) ?_
  refine z_rem F (by omega) (by omega) (by omega) dL_law_181 ?_
  refine z_add F dL_law_182 ?_
  refine lv_istore (lv' := [(15, .int (nI (((v / 160) % 50) + ((v / 7) % 60)))), (14, .int (nI ((v / 160) % 50))), (13, .int (nI ((v / 160) % 24))), (0, .ref b), (1, .ref (ad 0)), (2, .ref (bd 0)), (3, .int (nI g)), (4, .int cs), (5, .int (nI 1)), (6, .int (nI i)), (8, .int (nI 1)), (9, .int (nI v)), (10, .int (nI st)), (11, .int (nI (sg g st))), (12, .int (nI (v / 4 % 40)))]) hx hb dL_law_183 hl (by decide) rfl (fun ls hl => ?_)
  refine lv_aload_n hx hb dL_law_185 rfl (lv_at hl 4 rfl) ?_
  refine lv_iload hx hb dL_law_186 (lv_at hl 10 rfl) ?_
  refine lv_iload hx hb dL_law_188 (lv_at hl 12 rfl) ?_
  refine lv_iload hx hb dL_law_190 (lv_at hl 11 rfl) ?_
  refine lv_iconst (v := nI 4) hx hb dL_law_192 (by decide) ?_
  refine z_div F (by omega) (by omega) (by omega) dL_law_193 ?_
  refine lv_sipush (v := nI 129) hx hb dL_law_194 (by decide) ?_
  refine z_rem F (by omega) (by omega) (by omega) dL_law_197 ?_
  refine lv_iload hx hb dL_law_198 (lv_at hl 1 rfl) ?_
  refine lv_iload hx hb dL_law_200 (lv_at hl 0 rfl) ?_
  refine tw_call (As := [.ref (ad 0), .int (nI 1), .int (nI st), .int (nI ((v / 4) % 129)), .int (nI ((v / 160) % 50)), .int (nI (((v / 160) % 50) + ((v / 7) % 60)))]) (rest := []) F (c_L_set l hfl sa D k ad M O _ hI 1 (by decide) (nI st) (nI ((v / 4) % 129)) (nI ((v / 160) % 50)) (nI (((v / 160) % 50) + ((v / 7) % 60)))) (vx_cwSW 6 hts gL_law_L_set rfl rfl rfl (by decide +kernel) ⟨Nat.le_of_ble_eq_true rfl, Nat.le_of_ble_eq_true rfl⟩) hK hN hE hP hD hS hA rfl hl.1 rfl (Nat.le_of_ble_eq_true rfl) dL_law_202 ⟨by show _ ≤ 623114; omega, by show _ ≤ 7232282; omega⟩ (fun ad3 H locs had hP hD hS => ?_)
  rw [← had 0 (by omega)] at hl
  refine lv_aload_n hx hb dL_law_205 rfl (lv_at hl 5 rfl) ?_
  refine lv_iload hx hb dL_law_206 (lv_at hl 10 rfl) ?_
  refine lv_iload hx hb dL_law_208 (lv_at hl 13 rfl) ?_
  refine lv_iload hx hb dL_law_210 (lv_at hl 11 rfl) ?_
  refine lv_iconst (v := nI 4) hx hb dL_law_212 (by decide) ?_
  refine z_div F (by omega) (by omega) (by omega) dL_law_213 ?_
  refine lv_sipush (v := nI 129) hx hb dL_law_214 (by decide) ?_
  refine z_rem F (by omega) (by omega) (by omega) dL_law_217 ?_
  refine lv_iload hx hb dL_law_218 (lv_at hl 1 rfl) ?_
  refine lv_iload hx hb dL_law_220 (lv_at hl 0 rfl) ?_
  replace hP := wPs hP
  replace hD := wDs hD
  refine tw_call (As := [.ref (bd 0), .int (nI 1), .int (nI (sg g st)), .int (nI ((v / 4) % 129)), .int (nI ((v / 160) % 50)), .int (nI (((v / 160) % 50) + ((v / 7) % 60)))]) (rest := [.int (rV (tsX M O 1 (nI st) (nI ((v / 4) % 129)) (nI ((v / 160) % 50)) (nI (((v / 160) % 50) + ((v / 7) % 60)))) (tsV M O 1 (nI st) (nI ((v / 4) % 129)) (nI ((v / 160) % 50)) (nI (((v / 160) % 50) + ((v / 7) % 60)))))]) F (c_L_set l hfl sa D k bd N P _ hJ 1 (by decide) (nI (sg g st)) (nI ((v / 4) % 129)) (nI ((v / 160) % 50)) (nI (((v / 160) % 50) + ((v / 7) % 60)))) (vx_cwSW 6 hts gL_law_L_set rfl rfl rfl (by decide +kernel) ⟨Nat.le_of_ble_eq_true rfl, Nat.le_of_ble_eq_true rfl⟩) hK hN hE hP hD hS hA rfl hl.1 rfl (Nat.le_of_ble_eq_true rfl) dL_law_222 ⟨by show _ ≤ 623114; omega, by show _ ≤ 7232282; omega⟩ (fun bd4 H locs had hP hD hS => ?_)
  rw [← had 0 (by omega)] at hl
  replace hP := wPs hP
  replace hD := wDs hD
  obtain ⟨hv1, hy1, hI1, hJ1⟩ := sy_set2 hy hI hJ (w := 1) (by decide) (p0 := nI st) (q0 := nI (sg g st)) (Or.inr ⟨st, hst, rfl, rfl⟩) (nI ((v / 4) % 129)) (nI ((v / 160) % 50)) (nI (((v / 160) % 50) + ((v / 7) % 60)))
  refine lv_icmp_ne (tgt := 232) hx hb dL_law_225 (by decide) (fun zc => absurd (hv1.symm) zc) (fun _ => ?_)
  refine lv_iconst (v := nI 1) hx hb dL_law_228 (by decide) ?_
  refine lv_goto (tgt := 233) hx hb dL_law_229 (by decide) ?_
  refine lv_istore (lv' := [(5, .int (nI 1)), (15, .int (nI (((v / 160) % 50) + ((v / 7) % 60)))), (14, .int (nI ((v / 160) % 50))), (13, .int (nI ((v / 160) % 24))), (0, .ref b), (1, .ref (ad3 0)), (2, .ref (bd4 0)), (3, .int (nI g)), (4, .int cs), (6, .int (nI i)), (8, .int (nI 1)), (9, .int (nI v)), (10, .int (nI st)), (11, .int (nI (sg g st))), (12, .int (nI (v / 4 % 40)))]) hx hb dL_law_233 hl (by decide) rfl (fun ls hl => ?_)
  refine lv_goto (tgt := 634) hx hb dL_law_235 (by decide) ?_
  refine W.widen (k := cells + 12) (n := slots + 70) (by omega) (by omega) ?_
  exact nx _ _ _ _ _ _ _ _ _ _ hy1 hI1 hJ1 hP hD hS (lv_sub hl [4, 5, 6, 7, 8, 0, 9, 11, 12, 13, 14] rfl)
set_option maxRecDepth 100000 in
set_option maxHeartbeats 2000000 in
theorem lp_2 {p : Program} {l : Launch} {e : Env} {s : State} {m : MethodId} {args : Array Value} {below : List Frame} {meth : Method} {c : Code} {cells slots : Nat} {Q : State → Prop} {D : va_G} {k : Nat → ClassId} {sa : Nat → Nat} {b g i st v : Nat} {ad bd : Nat → Nat} {M N : Nat → Nat → Nat} {O P : Nat → Nat → Int32} {cs : Int32} {H : Heap} {locs : List Loc} {ls : Array Slot} (F : CallFix p m c cL_law 16 s args wsL_law RL) (hK : va_K D vwCl (tyL k) s) (hN : lwN s) (hE : zE (fun q => s.heap.size ≤ q) sa s s.heap) (hfl : l.stackTraces = false) (hv : v < 1073741824) (hst : st < 4) (hy : Sy g M O N P) (hI : zInv M) (hJ : zInv N) (hP : va_P D vwCl (zw (20 + 2 * M 0 1) ad (cX k ad M O) ++ zw (20 + 2 * N 0 1) bd (cX k bd N P)) H) (hD : va_D (fun q => s.heap.size ≤ q) (zw (20 + 2 * M 0 1) ad (cX k ad M O) ++ zw (20 + 2 * N 0 1) bd (cX k bd N P))) (hS : va_S (fun q => s.heap.size ≤ q) s.heap H locs) (hl : lv_has ls 16 [(0, .ref b), (1, .ref (ad 0)), (2, .ref (bd 0)), (3, .int (nI g)), (4, .int cs), (5, .int (nI 1)), (6, .int (nI i)), (8, .int (nI 2)), (9, .int (nI v)), (10, .int (nI st)), (11, .int (nI (sg g st))), (12, .int (nI (v / 4 % 40)))])
    (hc1 : cells + 12 ≤ 623114) (hc2 : slots + 70 ≤ 7232282) (nx : ∀ (M N : Nat → Nat → Nat) (O P : Nat → Nat → Int32) (ad bd : Nat → Nat) (cs : Int32) (H : Heap) (locs : List Loc) (ls : Array Slot), Sy g M O N P → zInv M → zInv N → va_P D vwCl (zw (20 + 2 * M 0 1) ad (cX k ad M O) ++ zw (20 + 2 * N 0 1) bd (cX k bd N P)) H → va_D (fun q => s.heap.size ≤ q) (zw (20 + 2 * M 0 1) ad (cX k ad M O) ++ zw (20 + 2 * N 0 1) bd (cX k bd N P)) → va_S (fun q => s.heap.size ≤ q) s.heap H locs → lv_has ls 16 [(0, .ref b), (1, .ref (ad 0)), (2, .ref (bd 0)), (3, .int (nI g)), (4, .int cs), (5, .int (nI 1)), (6, .int (nI i)), (9, .int (nI v)), (10, .int (nI st)), (11, .int (nI (sg g st))), (12, .int (nI (v / 4 % 40)))] → W p l e room_1 s m args below meth c H locs (cells + 12) (slots + 70) Q (F0 m 634 ls [])) : W p l e room_1 s m args below meth c H locs cells slots Q (F0 m 112 ls []) := by
  have hx := F.1
  have hb := F.2.1
  have hts := F.2.2.2.2
  have hA : ∀ q : Nat, s.heap.size ≤ q → (fun q => s.heap.size ≤ q) q := fun _ h => h
  refine lv_iload hx hb dL_law_112 (lv_at hl 7 rfl) ?_
  refine lv_iconst (v := nI 2) hx hb dL_law_114 (by decide) ?_
  refine z_icmp_ge (tgt := 238) F (by omega) (by omega) dL_law_115 (by decide) (fun _ => ?_) (fun zc => absurd zc (by decide))
  refine lv_iload hx hb dL_law_238 (lv_at hl 7 rfl) ?_
  refine lv_iconst (v := nI 2) hx hb dL_law_240 (by decide) ?_
  refine z_icmp_ne (tgt := 309) F (by omega) (by omega) dL_law_241 (by decide) (fun zc => absurd zc (by decide)) (fun _ => ?_)
  refine lv_aload_n hx hb dL_law_244 rfl (lv_at hl 1 rfl) ?_
  refine lv_iconst (v := nI 2) hx hb dL_law_245 (by decide) ?_
  refine lv_iconst (v := nI 0) hx hb dL_law_246 (by decide) ?_
  refine lv_iload hx hb dL_law_247 (lv_at hl 8 rfl) ?_
  refine lv_iconst (v := nI 3) hx hb dL_law_249 (by decide) ?_
  refine z_rem F (by omega) (by omega) (by omega) dL_law_250 ?_
  refine lv_iload hx hb dL_law_251 (lv_at hl 8 rfl) ?_
  refine lv_iconst (v := nI 3) hx hb dL_law_253 (by decide) ?_
  refine z_div F (by omega) (by omega) (by omega) dL_law_254 ?_
  refine lv_iconst (v := nI 3) hx hb dL_law_255 (by decide) ?_
  refine z_rem F (by omega) (by omega) (by omega) dL_law_256 ?_
  refine lv_iconst (v := nI 1) hx hb dL_law_257 (by decide) ?_
  refine lv_iload hx hb dL_law_258 (lv_at hl 8 rfl) ?_
  refine lv_bipush (v := nI 9) hx hb dL_law_260 (by decide) ?_
  refine z_div F (by omega) (by omega) (by omega) dL_law_262 ?_
  refine lv_bipush (v := nI 40) hx hb dL_law_263 (by decide) ?_
  refine z_rem F (by omega) (by omega) (by omega) dL_law_265 ?_
  refine z_add F dL_law_266 ?_
  refine tw_call (As := [.ref (ad 0), .int (nI 2), .int (nI 0), .int (nI (v % 3)), .int (nI ((v / 3) % 3)), .int (nI (1 + ((v / 9) % 40)))]) (rest := []) F (c_L_set l hfl sa D k ad M O _ hI 2 (by decide) (nI 0) (nI (v % 3)) (nI ((v / 3) % 3)) (nI (1 + ((v / 9) % 40)))) (vx_cwSW 6 hts gL_law_L_set rfl rfl rfl (by decide +kernel) ⟨Nat.le_of_ble_eq_true rfl, Nat.le_of_ble_eq_true rfl⟩) hK hN hE hP hD hS hA rfl hl.1 rfl (Nat.le_of_ble_eq_true rfl) dL_law_267 ⟨by show _ ≤ 623114; omega, by show _ ≤ 7232282; omega⟩ (fun ad5 H locs had hP hD hS => ?_)
  rw [← had 0 (by omega)] at hl
  refine lv_aload_n hx hb dL_law_270 rfl (lv_at hl 2 rfl) ?_
  refine lv_iconst (v := nI 2) hx hb dL_law_271 (by decide) ?_
  refine lv_iconst (v := nI 0) hx hb dL_law_272 (by decide) ?_
  refine lv_iload hx hb dL_law_273 (lv_at hl 8 rfl) ?_
  refine lv_iconst (v := nI 3) hx hb dL_law_275 (by decide) ?_
  refine z_rem F (by omega) (by omega) (by omega) dL_law_276 ?_
  refine lv_iload hx hb dL_law_277 (lv_at hl 8 rfl) ?_
  refine lv_iconst (v := nI 3) hx hb dL_law_279 (by decide) ?_
  refine z_div F (by omega) (by omega) (by omega) dL_law_280 ?_
  refine lv_iconst (v := nI 3) hx hb dL_law_281 (by decide) ?_
  refine z_rem F (by omega) (by omega) (by omega) dL_law_282 ?_
  refine lv_iconst (v := nI 1) hx hb dL_law_283 (by decide) ?_
  refine lv_iload hx hb dL_law_284 (lv_at hl 8 rfl) ?_
  refine lv_bipush (v := nI 9) hx hb dL_law_286 (by decide) ?_
  refine z_div F (by omega) (by omega) (by omega) dL_law_288 ?_
  refine lv_bipush (v := nI 40) hx hb dL_law_289 (by decide) ?_
  refine z_rem F (by omega) (by omega) (by omega) dL_law_291 ?_
  refine z_add F dL_law_292 ?_
  replace hP := wPs hP
  replace hD := wDs hD
  refine tw_call (As := [.ref (bd 0), .int (nI 2), .int (nI 0), .int (nI (v % 3)), .int (nI ((v / 3) % 3)), .int (nI (1 + ((v / 9) % 40)))]) (rest := [.int (rV (tsX M O 2 (nI 0) (nI (v % 3)) (nI ((v / 3) % 3)) (nI (1 + ((v / 9) % 40)))) (tsV M O 2 (nI 0) (nI (v % 3)) (nI ((v / 3) % 3)) (nI (1 + ((v / 9) % 40)))))]) F (c_L_set l hfl sa D k bd N P _ hJ 2 (by decide) (nI 0) (nI (v % 3)) (nI ((v / 3) % 3)) (nI (1 + ((v / 9) % 40)))) (vx_cwSW 6 hts gL_law_L_set rfl rfl rfl (by decide +kernel) ⟨Nat.le_of_ble_eq_true rfl, Nat.le_of_ble_eq_true rfl⟩) hK hN hE hP hD hS hA rfl hl.1 rfl (Nat.le_of_ble_eq_true rfl) dL_law_293 ⟨by show _ ≤ 623114; omega, by show _ ≤ 7232282; omega⟩ (fun bd6 H locs had hP hD hS => ?_)
  rw [← had 0 (by omega)] at hl
  replace hP := wPs hP
  replace hD := wDs hD
  obtain ⟨hv1, hy1, hI1, hJ1⟩ := sy_set2 hy hI hJ (w := 2) (by decide) (p0 := nI 0) (q0 := nI 0) (Or.inl (Or.inl rfl)) (nI (v % 3)) (nI ((v / 3) % 3)) (nI (1 + ((v / 9) % 40)))
  refine lv_icmp_ne (tgt := 303) hx hb dL_law_296 (by decide) (fun zc => absurd (hv1.symm) zc) (fun _ => ?_)
  refine lv_iconst (v := nI 1) hx hb dL_law_299 (by decide) ?_
  refine lv_goto (tgt := 304) hx hb dL_law_300 (by decide) ?_
  refine lv_istore (lv' := [(5, .int (nI 1)), (0, .ref b), (1, .ref (ad5 0)), (2, .ref (bd6 0)), (3, .int (nI g)), (4, .int cs), (6, .int (nI i)), (8, .int (nI 2)), (9, .int (nI v)), (10, .int (nI st)), (11, .int (nI (sg g st))), (12, .int (nI (v / 4 % 40)))]) hx hb dL_law_304 hl (by decide) rfl (fun ls hl => ?_)
  refine lv_goto (tgt := 634) hx hb dL_law_306 (by decide) ?_
  refine W.widen (k := cells + 12) (n := slots + 70) (by omega) (by omega) ?_
  exact nx _ _ _ _ _ _ _ _ _ _ hy1 hI1 hJ1 hP hD hS (lv_sub hl [1, 2, 3, 4, 5, 0, 6, 8, 9, 10, 11] rfl)
set_option maxRecDepth 100000 in
set_option maxHeartbeats 2000000 in
theorem lp_3 {p : Program} {l : Launch} {e : Env} {s : State} {m : MethodId} {args : Array Value} {below : List Frame} {meth : Method} {c : Code} {cells slots : Nat} {Q : State → Prop} {D : va_G} {k : Nat → ClassId} {sa : Nat → Nat} {b g i st v : Nat} {ad bd : Nat → Nat} {M N : Nat → Nat → Nat} {O P : Nat → Nat → Int32} {cs : Int32} {H : Heap} {locs : List Loc} {ls : Array Slot} (F : CallFix p m c cL_law 16 s args wsL_law RL) (hK : va_K D vwCl (tyL k) s) (hN : lwN s) (hE : zE (fun q => s.heap.size ≤ q) sa s s.heap) (hfl : l.stackTraces = false) {kd : Nat} (hk1 : 3 ≤ kd) (hk2 : kd < 7) (hv : v < 1073741824) (hst : st < 4) (hy : Sy g M O N P) (hI : zInv M) (hJ : zInv N) (hP : va_P D vwCl (zw (20 + 2 * M 0 1) ad (cX k ad M O) ++ zw (20 + 2 * N 0 1) bd (cX k bd N P)) H) (hD : va_D (fun q => s.heap.size ≤ q) (zw (20 + 2 * M 0 1) ad (cX k ad M O) ++ zw (20 + 2 * N 0 1) bd (cX k bd N P))) (hS : va_S (fun q => s.heap.size ≤ q) s.heap H locs) (hl : lv_has ls 16 [(0, .ref b), (1, .ref (ad 0)), (2, .ref (bd 0)), (3, .int (nI g)), (4, .int cs), (5, .int (nI 1)), (6, .int (nI i)), (8, .int (nI kd)), (9, .int (nI v)), (10, .int (nI st)), (11, .int (nI (sg g st))), (12, .int (nI (v / 4 % 40)))])
    (hc1 : cells + 12 ≤ 623114) (hc2 : slots + 70 ≤ 7232282) (nx : ∀ (M N : Nat → Nat → Nat) (O P : Nat → Nat → Int32) (ad bd : Nat → Nat) (cs : Int32) (H : Heap) (locs : List Loc) (ls : Array Slot), Sy g M O N P → zInv M → zInv N → va_P D vwCl (zw (20 + 2 * M 0 1) ad (cX k ad M O) ++ zw (20 + 2 * N 0 1) bd (cX k bd N P)) H → va_D (fun q => s.heap.size ≤ q) (zw (20 + 2 * M 0 1) ad (cX k ad M O) ++ zw (20 + 2 * N 0 1) bd (cX k bd N P)) → va_S (fun q => s.heap.size ≤ q) s.heap H locs → lv_has ls 16 [(0, .ref b), (1, .ref (ad 0)), (2, .ref (bd 0)), (3, .int (nI g)), (4, .int cs), (5, .int (nI 1)), (6, .int (nI i)), (9, .int (nI v)), (10, .int (nI st)), (11, .int (nI (sg g st))), (12, .int (nI (v / 4 % 40)))] → W p l e room_1 s m args below meth c H locs (cells + 12) (slots + 70) Q (F0 m 634 ls [])) : W p l e room_1 s m args below meth c H locs cells slots Q (F0 m 112 ls []) := by
  have hx := F.1
  have hb := F.2.1
  have hts := F.2.2.2.2
  have hA : ∀ q : Nat, s.heap.size ≤ q → (fun q => s.heap.size ≤ q) q := fun _ h => h
  refine lv_iload hx hb dL_law_112 (lv_at hl 7 rfl) ?_
  refine lv_iconst (v := nI 2) hx hb dL_law_114 (by decide) ?_
  refine z_icmp_ge (tgt := 238) F (by omega) (by omega) dL_law_115 (by decide) (fun _ => ?_) (fun zc => absurd zc (by omega))
  refine lv_iload hx hb dL_law_238 (lv_at hl 7 rfl) ?_
  refine lv_iconst (v := nI 2) hx hb dL_law_240 (by decide) ?_
  refine z_icmp_ne (tgt := 309) F (by omega) (by omega) dL_law_241 (by decide) (fun _ => ?_) (fun zc => absurd zc (by omega))
  refine lv_iload hx hb dL_law_309 (lv_at hl 7 rfl) ?_
  refine lv_bipush (v := nI 7) hx hb dL_law_311 (by decide) ?_
  refine z_icmp_ge (tgt := 383) F (by omega) (by omega) dL_law_313 (by decide) (fun zc => absurd zc (by omega)) (fun _ => ?_)
  refine lv_iload hx hb dL_law_316 (lv_at hl 8 rfl) ?_
  refine lv_bipush (v := nI 8) hx hb dL_law_318 (by decide) ?_
  refine z_rem F (by omega) (by omega) (by omega) dL_law_320 ?_
  refine z_ifn_ne (tgt := 338) F (by omega) dL_law_321 (by decide) (fun c5 => ?_) (fun c5 => ?_)
  · refine lv_iconst (v := nI 1) hx hb dL_law_338 (by decide) ?_
    refine lv_iload hx hb dL_law_339 (lv_at hl 8 rfl) ?_
    refine lv_bipush (v := nI 8) hx hb dL_law_341 (by decide) ?_
    refine z_div F (by omega) (by omega) (by omega) dL_law_343 ?_
    refine lv_bipush (v := nI 14) hx hb dL_law_344 (by decide) ?_
    refine z_rem F (by omega) (by omega) (by omega) dL_law_346 ?_
    refine z_add F dL_law_347 ?_
    refine lv_istore (lv' := [(13, .int (nI (1 + ((v / 8) % 14)))), (0, .ref b), (1, .ref (ad 0)), (2, .ref (bd 0)), (3, .int (nI g)), (4, .int cs), (5, .int (nI 1)), (6, .int (nI i)), (8, .int (nI kd)), (9, .int (nI v)), (10, .int (nI st)), (11, .int (nI (sg g st))), (12, .int (nI (v / 4 % 40)))]) hx hb dL_law_348 hl (by decide) rfl (fun ls hl => ?_)
    refine lv_aload_n hx hb dL_law_350 rfl (lv_at hl 2 rfl) ?_
    refine lv_iconst (v := nI 3) hx hb dL_law_351 (by decide) ?_
    refine lv_iconst (v := nI 0) hx hb dL_law_352 (by decide) ?_
    refine lv_iload hx hb dL_law_353 (lv_at hl 0 rfl) ?_
    refine lv_iconst (v := nI 0) hx hb dL_law_355 (by decide) ?_
    refine lv_iconst (v := nI 0) hx hb dL_law_356 (by decide) ?_
    refine tw_call (As := [.ref (ad 0), .int (nI 3), .int (nI 0), .int (nI (1 + ((v / 8) % 14))), .int (nI 0), .int (nI 0)]) (rest := []) F (c_L_set l hfl sa D k ad M O _ hI 3 (by decide) (nI 0) (nI (1 + ((v / 8) % 14))) (nI 0) (nI 0)) (vx_cwSW 6 hts gL_law_L_set rfl rfl rfl (by decide +kernel) ⟨Nat.le_of_ble_eq_true rfl, Nat.le_of_ble_eq_true rfl⟩) hK hN hE hP hD hS hA rfl hl.1 rfl (Nat.le_of_ble_eq_true rfl) dL_law_357 ⟨by show _ ≤ 623114; omega, by show _ ≤ 7232282; omega⟩ (fun ad7 H locs had hP hD hS => ?_)
    rw [← had 0 (by omega)] at hl
    refine lv_aload_n hx hb dL_law_360 rfl (lv_at hl 3 rfl) ?_
    refine lv_iconst (v := nI 3) hx hb dL_law_361 (by decide) ?_
    refine lv_iconst (v := nI 0) hx hb dL_law_362 (by decide) ?_
    refine lv_iload hx hb dL_law_363 (lv_at hl 0 rfl) ?_
    refine lv_iconst (v := nI 0) hx hb dL_law_365 (by decide) ?_
    refine lv_iconst (v := nI 0) hx hb dL_law_366 (by decide) ?_
    replace hP := wPs hP
    replace hD := wDs hD
    refine tw_call (As := [.ref (bd 0), .int (nI 3), .int (nI 0), .int (nI (1 + ((v / 8) % 14))), .int (nI 0), .int (nI 0)]) (rest := [.int (rV (tsX M O 3 (nI 0) (nI (1 + ((v / 8) % 14))) (nI 0) (nI 0)) (tsV M O 3 (nI 0) (nI (1 + ((v / 8) % 14))) (nI 0) (nI 0)))]) F (c_L_set l hfl sa D k bd N P _ hJ 3 (by decide) (nI 0) (nI (1 + ((v / 8) % 14))) (nI 0) (nI 0)) (vx_cwSW 6 hts gL_law_L_set rfl rfl rfl (by decide +kernel) ⟨Nat.le_of_ble_eq_true rfl, Nat.le_of_ble_eq_true rfl⟩) hK hN hE hP hD hS hA rfl hl.1 rfl (Nat.le_of_ble_eq_true rfl) dL_law_367 ⟨by show _ ≤ 623114; omega, by show _ ≤ 7232282; omega⟩ (fun bd8 H locs had hP hD hS => ?_)
    rw [← had 0 (by omega)] at hl
    replace hP := wPs hP
    replace hD := wDs hD
    obtain ⟨hv1, hy1, hI1, hJ1⟩ := sy_set2 hy hI hJ (w := 3) (by decide) (p0 := nI 0) (q0 := nI 0) (Or.inl (Or.inr rfl)) (nI (1 + ((v / 8) % 14))) (nI 0) (nI 0)
    refine lv_icmp_ne (tgt := 377) hx hb dL_law_370 (by decide) (fun zc => absurd (hv1.symm) zc) (fun _ => ?_)
    refine lv_iconst (v := nI 1) hx hb dL_law_373 (by decide) ?_
    refine lv_goto (tgt := 378) hx hb dL_law_374 (by decide) ?_
    refine lv_istore (lv' := [(5, .int (nI 1)), (13, .int (nI (1 + ((v / 8) % 14)))), (0, .ref b), (1, .ref (ad7 0)), (2, .ref (bd8 0)), (3, .int (nI g)), (4, .int cs), (6, .int (nI i)), (8, .int (nI kd)), (9, .int (nI v)), (10, .int (nI st)), (11, .int (nI (sg g st))), (12, .int (nI (v / 4 % 40)))]) hx hb dL_law_378 hl (by decide) rfl (fun ls hl => ?_)
    refine lv_goto (tgt := 634) hx hb dL_law_380 (by decide) ?_
    refine W.widen (k := cells + 12) (n := slots + 70) (by omega) (by omega) ?_
    exact nx _ _ _ _ _ _ _ _ _ _ hy1 hI1 hJ1 hP hD hS (lv_sub hl [2, 3, 4, 5, 6, 0, 7, 9, 10, 11, 12] rfl)
  · refine lv_iconst (v := nI 1) hx hb dL_law_324 (by decide) ?_
    refine lv_iload hx hb dL_law_325 (lv_at hl 8 rfl) ?_
    refine lv_bipush (v := nI 8) hx hb dL_law_327 (by decide) ?_
    refine z_div F (by omega) (by omega) (by omega) dL_law_329 ?_
    refine lv_sipush (v := nI 800) hx hb dL_law_330 (by decide) ?_
    refine z_rem F (by omega) (by omega) (by omega) dL_law_333 ?_
    refine z_add F dL_law_334 ?_
    refine lv_goto (tgt := 348) hx hb dL_law_335 (by decide) ?_
    refine lv_istore (lv' := [(13, .int (nI (1 + ((v / 8) % 800)))), (0, .ref b), (1, .ref (ad 0)), (2, .ref (bd 0)), (3, .int (nI g)), (4, .int cs), (5, .int (nI 1)), (6, .int (nI i)), (8, .int (nI kd)), (9, .int (nI v)), (10, .int (nI st)), (11, .int (nI (sg g st))), (12, .int (nI (v / 4 % 40)))]) hx hb dL_law_348 hl (by decide) rfl (fun ls hl => ?_)
    refine lv_aload_n hx hb dL_law_350 rfl (lv_at hl 2 rfl) ?_
    refine lv_iconst (v := nI 3) hx hb dL_law_351 (by decide) ?_
    refine lv_iconst (v := nI 0) hx hb dL_law_352 (by decide) ?_
    refine lv_iload hx hb dL_law_353 (lv_at hl 0 rfl) ?_
    refine lv_iconst (v := nI 0) hx hb dL_law_355 (by decide) ?_
    refine lv_iconst (v := nI 0) hx hb dL_law_356 (by decide) ?_
    refine tw_call (As := [.ref (ad 0), .int (nI 3), .int (nI 0), .int (nI (1 + ((v / 8) % 800))), .int (nI 0), .int (nI 0)]) (rest := []) F (c_L_set l hfl sa D k ad M O _ hI 3 (by decide) (nI 0) (nI (1 + ((v / 8) % 800))) (nI 0) (nI 0)) (vx_cwSW 6 hts gL_law_L_set rfl rfl rfl (by decide +kernel) ⟨Nat.le_of_ble_eq_true rfl, Nat.le_of_ble_eq_true rfl⟩) hK hN hE hP hD hS hA rfl hl.1 rfl (Nat.le_of_ble_eq_true rfl) dL_law_357 ⟨by show _ ≤ 623114; omega, by show _ ≤ 7232282; omega⟩ (fun ad9 H locs had hP hD hS => ?_)
    rw [← had 0 (by omega)] at hl
    refine lv_aload_n hx hb dL_law_360 rfl (lv_at hl 3 rfl) ?_
    refine lv_iconst (v := nI 3) hx hb dL_law_361 (by decide) ?_
    refine lv_iconst (v := nI 0) hx hb dL_law_362 (by decide) ?_
    refine lv_iload hx hb dL_law_363 (lv_at hl 0 rfl) ?_
    refine lv_iconst (v := nI 0) hx hb dL_law_365 (by decide) ?_
    refine lv_iconst (v := nI 0) hx hb dL_law_366 (by decide) ?_
    replace hP := wPs hP
    replace hD := wDs hD
    refine tw_call (As := [.ref (bd 0), .int (nI 3), .int (nI 0), .int (nI (1 + ((v / 8) % 800))), .int (nI 0), .int (nI 0)]) (rest := [.int (rV (tsX M O 3 (nI 0) (nI (1 + ((v / 8) % 800))) (nI 0) (nI 0)) (tsV M O 3 (nI 0) (nI (1 + ((v / 8) % 800))) (nI 0) (nI 0)))]) F (c_L_set l hfl sa D k bd N P _ hJ 3 (by decide) (nI 0) (nI (1 + ((v / 8) % 800))) (nI 0) (nI 0)) (vx_cwSW 6 hts gL_law_L_set rfl rfl rfl (by decide +kernel) ⟨Nat.le_of_ble_eq_true rfl, Nat.le_of_ble_eq_true rfl⟩) hK hN hE hP hD hS hA rfl hl.1 rfl (Nat.le_of_ble_eq_true rfl) dL_law_367 ⟨by show _ ≤ 623114; omega, by show _ ≤ 7232282; omega⟩ (fun bd10 H locs had hP hD hS => ?_)
    rw [← had 0 (by omega)] at hl
    replace hP := wPs hP
    replace hD := wDs hD
    obtain ⟨hv1, hy1, hI1, hJ1⟩ := sy_set2 hy hI hJ (w := 3) (by decide) (p0 := nI 0) (q0 := nI 0) (Or.inl (Or.inr rfl)) (nI (1 + ((v / 8) % 800))) (nI 0) (nI 0)
    refine lv_icmp_ne (tgt := 377) hx hb dL_law_370 (by decide) (fun zc => absurd (hv1.symm) zc) (fun _ => ?_)
    refine lv_iconst (v := nI 1) hx hb dL_law_373 (by decide) ?_
    refine lv_goto (tgt := 378) hx hb dL_law_374 (by decide) ?_
    refine lv_istore (lv' := [(5, .int (nI 1)), (13, .int (nI (1 + ((v / 8) % 800)))), (0, .ref b), (1, .ref (ad9 0)), (2, .ref (bd10 0)), (3, .int (nI g)), (4, .int cs), (6, .int (nI i)), (8, .int (nI kd)), (9, .int (nI v)), (10, .int (nI st)), (11, .int (nI (sg g st))), (12, .int (nI (v / 4 % 40)))]) hx hb dL_law_378 hl (by decide) rfl (fun ls hl => ?_)
    refine lv_goto (tgt := 634) hx hb dL_law_380 (by decide) ?_
    refine W.widen (k := cells + 12) (n := slots + 70) (by omega) (by omega) ?_
    exact nx _ _ _ _ _ _ _ _ _ _ hy1 hI1 hJ1 hP hD hS (lv_sub hl [2, 3, 4, 5, 6, 0, 7, 9, 10, 11, 12] rfl)
set_option maxRecDepth 100000 in
set_option maxHeartbeats 2000000 in
theorem lp_7 {p : Program} {l : Launch} {e : Env} {s : State} {m : MethodId} {args : Array Value} {below : List Frame} {meth : Method} {c : Code} {cells slots : Nat} {Q : State → Prop} {D : va_G} {k : Nat → ClassId} {sa : Nat → Nat} {b g i st v : Nat} {ad bd : Nat → Nat} {M N : Nat → Nat → Nat} {O P : Nat → Nat → Int32} {cs : Int32} {H : Heap} {locs : List Loc} {ls : Array Slot} (F : CallFix p m c cL_law 16 s args wsL_law RL) (hK : va_K D vwCl (tyL k) s) (hN : lwN s) (hE : zE (fun q => s.heap.size ≤ q) sa s s.heap) (hfl : l.stackTraces = false) (hv : v < 1073741824) (hst : st < 4) (hy : Sy g M O N P) (hI : zInv M) (hJ : zInv N) (hP : va_P D vwCl (zw (20 + 2 * M 0 1) ad (cX k ad M O) ++ zw (20 + 2 * N 0 1) bd (cX k bd N P)) H) (hD : va_D (fun q => s.heap.size ≤ q) (zw (20 + 2 * M 0 1) ad (cX k ad M O) ++ zw (20 + 2 * N 0 1) bd (cX k bd N P))) (hS : va_S (fun q => s.heap.size ≤ q) s.heap H locs) (hl : lv_has ls 16 [(0, .ref b), (1, .ref (ad 0)), (2, .ref (bd 0)), (3, .int (nI g)), (4, .int cs), (5, .int (nI 1)), (6, .int (nI i)), (8, .int (nI 7)), (9, .int (nI v)), (10, .int (nI st)), (11, .int (nI (sg g st))), (12, .int (nI (v / 4 % 40)))])
    (hc1 : cells + 12 ≤ 623114) (hc2 : slots + 70 ≤ 7232282) (nx : ∀ (M N : Nat → Nat → Nat) (O P : Nat → Nat → Int32) (ad bd : Nat → Nat) (cs : Int32) (H : Heap) (locs : List Loc) (ls : Array Slot), Sy g M O N P → zInv M → zInv N → va_P D vwCl (zw (20 + 2 * M 0 1) ad (cX k ad M O) ++ zw (20 + 2 * N 0 1) bd (cX k bd N P)) H → va_D (fun q => s.heap.size ≤ q) (zw (20 + 2 * M 0 1) ad (cX k ad M O) ++ zw (20 + 2 * N 0 1) bd (cX k bd N P)) → va_S (fun q => s.heap.size ≤ q) s.heap H locs → lv_has ls 16 [(0, .ref b), (1, .ref (ad 0)), (2, .ref (bd 0)), (3, .int (nI g)), (4, .int cs), (5, .int (nI 1)), (6, .int (nI i)), (9, .int (nI v)), (10, .int (nI st)), (11, .int (nI (sg g st))), (12, .int (nI (v / 4 % 40)))] → W p l e room_1 s m args below meth c H locs (cells + 12) (slots + 70) Q (F0 m 634 ls [])) : W p l e room_1 s m args below meth c H locs cells slots Q (F0 m 112 ls []) := by
  have hx := F.1
  have hb := F.2.1
  have hts := F.2.2.2.2
  have hA : ∀ q : Nat, s.heap.size ≤ q → (fun q => s.heap.size ≤ q) q := fun _ h => h
  refine lv_iload hx hb dL_law_112 (lv_at hl 7 rfl) ?_
  refine lv_iconst (v := nI 2) hx hb dL_law_114 (by decide) ?_
  refine z_icmp_ge (tgt := 238) F (by omega) (by omega) dL_law_115 (by decide) (fun _ => ?_) (fun zc => absurd zc (by decide))
  refine lv_iload hx hb dL_law_238 (lv_at hl 7 rfl) ?_
  refine lv_iconst (v := nI 2) hx hb dL_law_240 (by decide) ?_
  refine z_icmp_ne (tgt := 309) F (by omega) (by omega) dL_law_241 (by decide) (fun _ => ?_) (fun zc => absurd zc (by decide))
  refine lv_iload hx hb dL_law_309 (lv_at hl 7 rfl) ?_
  refine lv_bipush (v := nI 7) hx hb dL_law_311 (by decide) ?_
  refine z_icmp_ge (tgt := 383) F (by omega) (by omega) dL_law_313 (by decide) (fun _ => ?_) (fun zc => absurd zc (by decide))
  refine lv_iload hx hb dL_law_383 (lv_at hl 7 rfl) ?_
  refine lv_bipush (v := nI 7) hx hb dL_law_385 (by decide) ?_
  refine z_icmp_ne (tgt := 429) F (by omega) (by omega) dL_law_387 (by decide) (fun zc => absurd zc (by decide)) (fun _ => ?_)
  refine lv_aload_n hx hb dL_law_390 rfl (lv_at hl 1 rfl) ?_
  refine lv_iconst (v := nI 4) hx hb dL_law_391 (by decide) ?_
  refine lv_iload hx hb dL_law_392 (lv_at hl 9 rfl) ?_
  refine lv_iconst (v := nI 1) hx hb dL_law_394 (by decide) ?_
  refine lv_iload hx hb dL_law_395 (lv_at hl 11 rfl) ?_
  refine z_add F dL_law_397 ?_
  refine lv_iconst (v := nI 0) hx hb dL_law_398 (by decide) ?_
  refine lv_iconst (v := nI 0) hx hb dL_law_399 (by decide) ?_
  refine tw_call (As := [.ref (ad 0), .int (nI 4), .int (nI st), .int (nI (1 + (v / 4 % 40))), .int (nI 0), .int (nI 0)]) (rest := []) F (c_L_set l hfl sa D k ad M O _ hI 4 (by decide) (nI st) (nI (1 + (v / 4 % 40))) (nI 0) (nI 0)) (vx_cwSW 6 hts gL_law_L_set rfl rfl rfl (by decide +kernel) ⟨Nat.le_of_ble_eq_true rfl, Nat.le_of_ble_eq_true rfl⟩) hK hN hE hP hD hS hA rfl hl.1 rfl (Nat.le_of_ble_eq_true rfl) dL_law_400 ⟨by show _ ≤ 623114; omega, by show _ ≤ 7232282; omega⟩ (fun ad11 H locs had hP hD hS => ?_)
  rw [← had 0 (by omega)] at hl
  refine lv_aload_n hx hb dL_law_403 rfl (lv_at hl 2 rfl) ?_
  refine lv_iconst (v := nI 4) hx hb dL_law_404 (by decide) ?_
  refine lv_iload hx hb dL_law_405 (lv_at hl 10 rfl) ?_
  refine lv_iconst (v := nI 1) hx hb dL_law_407 (by decide) ?_
  refine lv_iload hx hb dL_law_408 (lv_at hl 11 rfl) ?_
  refine z_add F dL_law_410 ?_
  refine lv_iconst (v := nI 0) hx hb dL_law_411 (by decide) ?_
  refine lv_iconst (v := nI 0) hx hb dL_law_412 (by decide) ?_
  replace hP := wPs hP
  replace hD := wDs hD
  refine tw_call (As := [.ref (bd 0), .int (nI 4), .int (nI (sg g st)), .int (nI (1 + (v / 4 % 40))), .int (nI 0), .int (nI 0)]) (rest := [.int (rV (tsX M O 4 (nI st) (nI (1 + (v / 4 % 40))) (nI 0) (nI 0)) (tsV M O 4 (nI st) (nI (1 + (v / 4 % 40))) (nI 0) (nI 0)))]) F (c_L_set l hfl sa D k bd N P _ hJ 4 (by decide) (nI (sg g st)) (nI (1 + (v / 4 % 40))) (nI 0) (nI 0)) (vx_cwSW 6 hts gL_law_L_set rfl rfl rfl (by decide +kernel) ⟨Nat.le_of_ble_eq_true rfl, Nat.le_of_ble_eq_true rfl⟩) hK hN hE hP hD hS hA rfl hl.1 rfl (Nat.le_of_ble_eq_true rfl) dL_law_413 ⟨by show _ ≤ 623114; omega, by show _ ≤ 7232282; omega⟩ (fun bd12 H locs had hP hD hS => ?_)
  rw [← had 0 (by omega)] at hl
  replace hP := wPs hP
  replace hD := wDs hD
  obtain ⟨hv1, hy1, hI1, hJ1⟩ := sy_set2 hy hI hJ (w := 4) (by decide) (p0 := nI st) (q0 := nI (sg g st)) (Or.inr ⟨st, hst, rfl, rfl⟩) (nI (1 + (v / 4 % 40))) (nI 0) (nI 0)
  refine lv_icmp_ne (tgt := 423) hx hb dL_law_416 (by decide) (fun zc => absurd (hv1.symm) zc) (fun _ => ?_)
  refine lv_iconst (v := nI 1) hx hb dL_law_419 (by decide) ?_
  refine lv_goto (tgt := 424) hx hb dL_law_420 (by decide) ?_
  refine lv_istore (lv' := [(5, .int (nI 1)), (0, .ref b), (1, .ref (ad11 0)), (2, .ref (bd12 0)), (3, .int (nI g)), (4, .int cs), (6, .int (nI i)), (8, .int (nI 7)), (9, .int (nI v)), (10, .int (nI st)), (11, .int (nI (sg g st))), (12, .int (nI (v / 4 % 40)))]) hx hb dL_law_424 hl (by decide) rfl (fun ls hl => ?_)
  refine lv_goto (tgt := 634) hx hb dL_law_426 (by decide) ?_
  refine W.widen (k := cells + 12) (n := slots + 70) (by omega) (by omega) ?_
  exact nx _ _ _ _ _ _ _ _ _ _ hy1 hI1 hJ1 hP hD hS (lv_sub hl [1, 2, 3, 4, 5, 0, 6, 8, 9, 10, 11] rfl)
set_option maxRecDepth 100000 in
set_option maxHeartbeats 2000000 in
theorem lp_open {p : Program} {l : Launch} {e : Env} {s : State} {m : MethodId} {args : Array Value} {below : List Frame} {meth : Method} {c : Code} {cells slots : Nat} {Q : State → Prop} {D : va_G} {k : Nat → ClassId} {sa : Nat → Nat} {b g i st v : Nat} {ad bd : Nat → Nat} {M N : Nat → Nat → Nat} {O P : Nat → Nat → Int32} {cs : Int32} {H : Heap} {locs : List Loc} {ls : Array Slot} (F : CallFix p m c cL_law 16 s args wsL_law RL) (hK : va_K D vwCl (tyL k) s) (hN : lwN s) (hE : zE (fun q => s.heap.size ≤ q) sa s s.heap) (hfl : l.stackTraces = false) (hv : v < 1073741824) (hst : st < 4) (hy : Sy g M O N P) (hI : zInv M) (hJ : zInv N) (hP : va_P D vwCl (zw (20 + 2 * M 0 1) ad (cX k ad M O) ++ zw (20 + 2 * N 0 1) bd (cX k bd N P)) H) (hD : va_D (fun q => s.heap.size ≤ q) (zw (20 + 2 * M 0 1) ad (cX k ad M O) ++ zw (20 + 2 * N 0 1) bd (cX k bd N P))) (hS : va_S (fun q => s.heap.size ≤ q) s.heap H locs) (hl : lv_has ls 16 [(0, .ref b), (1, .ref (ad 0)), (2, .ref (bd 0)), (3, .int (nI g)), (4, .int cs), (5, .int (nI 1)), (6, .int (nI i)), (9, .int (nI v)), (10, .int (nI st)), (11, .int (nI (sg g st))), (12, .int (nI (v / 4 % 40)))])
    (hc1 : cells + 12 ≤ 623114) (hc2 : slots + 70 ≤ 7232282) (nx : ∀ (M N : Nat → Nat → Nat) (O P : Nat → Nat → Int32) (ad bd : Nat → Nat) (cs : Int32) (H : Heap) (locs : List Loc) (ls : Array Slot), Sy g M O N P → zInv M → zInv N → va_P D vwCl (zw (20 + 2 * M 0 1) ad (cX k ad M O) ++ zw (20 + 2 * N 0 1) bd (cX k bd N P)) H → va_D (fun q => s.heap.size ≤ q) (zw (20 + 2 * M 0 1) ad (cX k ad M O) ++ zw (20 + 2 * N 0 1) bd (cX k bd N P)) → va_S (fun q => s.heap.size ≤ q) s.heap H locs → lv_has ls 16 [(0, .ref b), (1, .ref (ad 0)), (2, .ref (bd 0)), (3, .int (nI g)), (4, .int cs), (5, .int (nI 1)), (6, .int (nI i)), (9, .int (nI v)), (10, .int (nI st)), (11, .int (nI (sg g st))), (12, .int (nI (v / 4 % 40)))] → W p l e room_1 s m args below meth c H locs (cells + 12) (slots + 70) Q (F0 m 634 ls [])) : W p l e room_1 s m args below meth c H locs cells slots Q (F0 m 441 ls []) := by
  have hx := F.1
  have hb := F.2.1
  have hts := F.2.2.2.2
  have hA : ∀ q : Nat, s.heap.size ≤ q → (fun q => s.heap.size ≤ q) q := fun _ h => h
  refine lv_aload_n hx hb dL_law_441 rfl (lv_at hl 1 rfl) ?_
  refine lv_iconst (v := nI 5) hx hb dL_law_442 (by decide) ?_
  refine lv_iload hx hb dL_law_443 (lv_at hl 8 rfl) ?_
  refine lv_iload hx hb dL_law_445 (lv_at hl 7 rfl) ?_
  refine lv_iconst (v := nI 4) hx hb dL_law_447 (by decide) ?_
  refine z_div F (by omega) (by omega) (by omega) dL_law_448 ?_
  refine lv_iconst (v := nI 4) hx hb dL_law_449 (by decide) ?_
  refine z_rem F (by omega) (by omega) (by omega) dL_law_450 ?_
  refine lv_iload hx hb dL_law_451 (lv_at hl 7 rfl) ?_
  refine lv_bipush (v := nI 16) hx hb dL_law_453 (by decide) ?_
  refine z_div F (by omega) (by omega) (by omega) dL_law_455 ?_
  refine lv_iconst (v := nI 3) hx hb dL_law_456 (by decide) ?_
  refine z_rem F (by omega) (by omega) (by omega) dL_law_457 ?_
  refine lv_iconst (v := nI 0) hx hb dL_law_458 (by decide) ?_
  refine tw_call (As := [.ref (ad 0), .int (nI 5), .int (nI st), .int (nI ((v / 4) % 4)), .int (nI ((v / 16) % 3)), .int (nI 0)]) (rest := []) F (c_L_set l hfl sa D k ad M O _ hI 5 (by decide) (nI st) (nI ((v / 4) % 4)) (nI ((v / 16) % 3)) (nI 0)) (vx_cwSW 6 hts gL_law_L_set rfl rfl rfl (by decide +kernel) ⟨Nat.le_of_ble_eq_true rfl, Nat.le_of_ble_eq_true rfl⟩) hK hN hE hP hD hS hA rfl hl.1 rfl (Nat.le_of_ble_eq_true rfl) dL_law_459 ⟨by show _ ≤ 623114; omega, by show _ ≤ 7232282; omega⟩ (fun ad13 H locs had hP hD hS => ?_)
  rw [← had 0 (by omega)] at hl
  refine lv_istore (lv' := [(13, .int (rV (tsX M O 5 (nI st) (nI ((v / 4) % 4)) (nI ((v / 16) % 3)) (nI 0)) (tsV M O 5 (nI st) (nI ((v / 4) % 4)) (nI ((v / 16) % 3)) (nI 0)))), (0, .ref b), (1, .ref (ad13 0)), (2, .ref (bd 0)), (3, .int (nI g)), (4, .int cs), (5, .int (nI 1)), (6, .int (nI i)), (9, .int (nI v)), (10, .int (nI st)), (11, .int (nI (sg g st))), (12, .int (nI (v / 4 % 40)))]) hx hb dL_law_462 hl (by decide) rfl (fun ls hl => ?_)
  refine lv_iload hx hb dL_law_464 (lv_at hl 5 rfl) ?_
  refine lv_iload hx hb dL_law_466 (lv_at hl 0 rfl) ?_
  refine lv_if_lt (tgt := 475) hx hb dL_law_468 (by decide) (fun c6 => ?_) (fun c6 => ?_)
  · refine lv_iconst (v := nI 0) hx hb dL_law_475 (by decide) ?_
    refine lv_iadd hx hb dL_law_476 ?_
    refine lv_istore (lv' := [(4, .int (cs + (nI 0))), (13, .int (rV (tsX M O 5 (nI st) (nI ((v / 4) % 4)) (nI ((v / 16) % 3)) (nI 0)) (tsV M O 5 (nI st) (nI ((v / 4) % 4)) (nI ((v / 16) % 3)) (nI 0)))), (0, .ref b), (1, .ref (ad13 0)), (2, .ref (bd 0)), (3, .int (nI g)), (5, .int (nI 1)), (6, .int (nI i)), (9, .int (nI v)), (10, .int (nI st)), (11, .int (nI (sg g st))), (12, .int (nI (v / 4 % 40)))]) hx hb dL_law_477 hl (by decide) rfl (fun ls hl => ?_)
    refine lv_aload_n hx hb dL_law_479 rfl (lv_at hl 4 rfl) ?_
    refine lv_iconst (v := nI 5) hx hb dL_law_480 (by decide) ?_
    refine lv_iload hx hb dL_law_481 (lv_at hl 10 rfl) ?_
    refine lv_iload hx hb dL_law_483 (lv_at hl 8 rfl) ?_
    refine lv_iconst (v := nI 4) hx hb dL_law_485 (by decide) ?_
    refine z_div F (by omega) (by omega) (by omega) dL_law_486 ?_
    refine lv_iconst (v := nI 4) hx hb dL_law_487 (by decide) ?_
    refine z_rem F (by omega) (by omega) (by omega) dL_law_488 ?_
    refine lv_iload hx hb dL_law_489 (lv_at hl 8 rfl) ?_
    refine lv_bipush (v := nI 16) hx hb dL_law_491 (by decide) ?_
    refine z_div F (by omega) (by omega) (by omega) dL_law_493 ?_
    refine lv_iconst (v := nI 3) hx hb dL_law_494 (by decide) ?_
    refine z_rem F (by omega) (by omega) (by omega) dL_law_495 ?_
    refine lv_iconst (v := nI 0) hx hb dL_law_496 (by decide) ?_
    replace hP := wPs hP
    replace hD := wDs hD
    refine tw_call (As := [.ref (bd 0), .int (nI 5), .int (nI (sg g st)), .int (nI ((v / 4) % 4)), .int (nI ((v / 16) % 3)), .int (nI 0)]) (rest := []) F (c_L_set l hfl sa D k bd N P _ hJ 5 (by decide) (nI (sg g st)) (nI ((v / 4) % 4)) (nI ((v / 16) % 3)) (nI 0)) (vx_cwSW 6 hts gL_law_L_set rfl rfl rfl (by decide +kernel) ⟨Nat.le_of_ble_eq_true rfl, Nat.le_of_ble_eq_true rfl⟩) hK hN hE hP hD hS hA rfl hl.1 rfl (Nat.le_of_ble_eq_true rfl) dL_law_497 ⟨by show _ ≤ 623114; omega, by show _ ≤ 7232282; omega⟩ (fun bd14 H locs had hP hD hS => ?_)
    rw [← had 0 (by omega)] at hl
    replace hP := wPs hP
    replace hD := wDs hD
    refine lv_iload hx hb dL_law_500 (lv_at hl 1 rfl) ?_
    obtain ⟨hv1, hy1, hI1, hJ1⟩ := sy_set2 hy hI hJ (w := 5) (by decide) (p0 := nI st) (q0 := nI (sg g st)) (Or.inr ⟨st, hst, rfl, rfl⟩) (nI ((v / 4) % 4)) (nI ((v / 16) % 3)) (nI 0)
    refine lv_icmp_ne (tgt := 509) hx hb dL_law_502 (by decide) (fun zc => absurd (hv1) zc) (fun _ => ?_)
    refine lv_iconst (v := nI 1) hx hb dL_law_505 (by decide) ?_
    refine lv_goto (tgt := 510) hx hb dL_law_506 (by decide) ?_
    refine lv_istore (lv' := [(5, .int (nI 1)), (4, .int (cs + (nI 0))), (13, .int (rV (tsX M O 5 (nI st) (nI ((v / 4) % 4)) (nI ((v / 16) % 3)) (nI 0)) (tsV M O 5 (nI st) (nI ((v / 4) % 4)) (nI ((v / 16) % 3)) (nI 0)))), (0, .ref b), (1, .ref (ad13 0)), (2, .ref (bd14 0)), (3, .int (nI g)), (6, .int (nI i)), (9, .int (nI v)), (10, .int (nI st)), (11, .int (nI (sg g st))), (12, .int (nI (v / 4 % 40)))]) hx hb dL_law_510 hl (by decide) rfl (fun ls hl => ?_)
    refine lv_goto (tgt := 634) hx hb dL_law_512 (by decide) ?_
    refine W.widen (k := cells + 12) (n := slots + 70) (by omega) (by omega) ?_
    exact nx _ _ _ _ _ _ _ _ _ _ hy1 hI1 hJ1 hP hD hS (lv_sub hl [3, 4, 5, 6, 1, 0, 7, 8, 9, 10, 11] rfl)
  · refine lv_iconst (v := nI 1) hx hb dL_law_471 (by decide) ?_
    refine lv_goto (tgt := 476) hx hb dL_law_472 (by decide) ?_
    refine lv_iadd hx hb dL_law_476 ?_
    refine lv_istore (lv' := [(4, .int (cs + (nI 1))), (13, .int (rV (tsX M O 5 (nI st) (nI ((v / 4) % 4)) (nI ((v / 16) % 3)) (nI 0)) (tsV M O 5 (nI st) (nI ((v / 4) % 4)) (nI ((v / 16) % 3)) (nI 0)))), (0, .ref b), (1, .ref (ad13 0)), (2, .ref (bd 0)), (3, .int (nI g)), (5, .int (nI 1)), (6, .int (nI i)), (9, .int (nI v)), (10, .int (nI st)), (11, .int (nI (sg g st))), (12, .int (nI (v / 4 % 40)))]) hx hb dL_law_477 hl (by decide) rfl (fun ls hl => ?_)
    refine lv_aload_n hx hb dL_law_479 rfl (lv_at hl 4 rfl) ?_
    refine lv_iconst (v := nI 5) hx hb dL_law_480 (by decide) ?_
    refine lv_iload hx hb dL_law_481 (lv_at hl 10 rfl) ?_
    refine lv_iload hx hb dL_law_483 (lv_at hl 8 rfl) ?_
    refine lv_iconst (v := nI 4) hx hb dL_law_485 (by decide) ?_
    refine z_div F (by omega) (by omega) (by omega) dL_law_486 ?_
    refine lv_iconst (v := nI 4) hx hb dL_law_487 (by decide) ?_
    refine z_rem F (by omega) (by omega) (by omega) dL_law_488 ?_
    refine lv_iload hx hb dL_law_489 (lv_at hl 8 rfl) ?_
    refine lv_bipush (v := nI 16) hx hb dL_law_491 (by decide) ?_
    refine z_div F (by omega) (by omega) (by omega) dL_law_493 ?_
    refine lv_iconst (v := nI 3) hx hb dL_law_494 (by decide) ?_
    refine z_rem F (by omega) (by omega) (by omega) dL_law_495 ?_
    refine lv_iconst (v := nI 0) hx hb dL_law_496 (by decide) ?_
    replace hP := wPs hP
    replace hD := wDs hD
    refine tw_call (As := [.ref (bd 0), .int (nI 5), .int (nI (sg g st)), .int (nI ((v / 4) % 4)), .int (nI ((v / 16) % 3)), .int (nI 0)]) (rest := []) F (c_L_set l hfl sa D k bd N P _ hJ 5 (by decide) (nI (sg g st)) (nI ((v / 4) % 4)) (nI ((v / 16) % 3)) (nI 0)) (vx_cwSW 6 hts gL_law_L_set rfl rfl rfl (by decide +kernel) ⟨Nat.le_of_ble_eq_true rfl, Nat.le_of_ble_eq_true rfl⟩) hK hN hE hP hD hS hA rfl hl.1 rfl (Nat.le_of_ble_eq_true rfl) dL_law_497 ⟨by show _ ≤ 623114; omega, by show _ ≤ 7232282; omega⟩ (fun bd15 H locs had hP hD hS => ?_)
    rw [← had 0 (by omega)] at hl
    replace hP := wPs hP
    replace hD := wDs hD
    refine lv_iload hx hb dL_law_500 (lv_at hl 1 rfl) ?_
    obtain ⟨hv1, hy1, hI1, hJ1⟩ := sy_set2 hy hI hJ (w := 5) (by decide) (p0 := nI st) (q0 := nI (sg g st)) (Or.inr ⟨st, hst, rfl, rfl⟩) (nI ((v / 4) % 4)) (nI ((v / 16) % 3)) (nI 0)
    refine lv_icmp_ne (tgt := 509) hx hb dL_law_502 (by decide) (fun zc => absurd (hv1) zc) (fun _ => ?_)
    refine lv_iconst (v := nI 1) hx hb dL_law_505 (by decide) ?_
    refine lv_goto (tgt := 510) hx hb dL_law_506 (by decide) ?_
    refine lv_istore (lv' := [(5, .int (nI 1)), (4, .int (cs + (nI 1))), (13, .int (rV (tsX M O 5 (nI st) (nI ((v / 4) % 4)) (nI ((v / 16) % 3)) (nI 0)) (tsV M O 5 (nI st) (nI ((v / 4) % 4)) (nI ((v / 16) % 3)) (nI 0)))), (0, .ref b), (1, .ref (ad13 0)), (2, .ref (bd15 0)), (3, .int (nI g)), (6, .int (nI i)), (9, .int (nI v)), (10, .int (nI st)), (11, .int (nI (sg g st))), (12, .int (nI (v / 4 % 40)))]) hx hb dL_law_510 hl (by decide) rfl (fun ls hl => ?_)
    refine lv_goto (tgt := 634) hx hb dL_law_512 (by decide) ?_
    refine W.widen (k := cells + 12) (n := slots + 70) (by omega) (by omega) ?_
    exact nx _ _ _ _ _ _ _ _ _ _ hy1 hI1 hJ1 hP hD hS (lv_sub hl [3, 4, 5, 6, 1, 0, 7, 8, 9, 10, 11] rfl)
