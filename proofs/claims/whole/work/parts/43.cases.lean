/-! THE LAW, case by case. -/
theorem kq_le {xq : Nat} (h : xq ≤ 3) : kq xq ≤ 3 := by unfold kq; split <;> omega
theorem kq_0 {xq : Nat} (h : kq xq = 0) : xq = 0 := by
  unfold kq at h
  split at h <;> omega
theorem lw_sld {p : Program} {l : Launch} {e : Env} {R : Room} {s : State} {m : MethodId} {args : Array Value} {below : List Frame} {meth : Method} {c : Code} {H : Heap} {locs : List Loc} {cells slots : Nat} {Q : State → Prop} {cc : ByteArray} {nL pc j b L : Nat} {Ts : List Cond} {own : String} {ls : Array Slot} {rest : List Value} {A : Nat → Prop} {xs : Nat → Int32} (F : CallFix p m c cc nL s args Ts own) (hX : va_X b L xs s s.heap) (hbl : b < s.heap.size) (hbA : ¬ A b) (hS : va_S A s.heap H locs) (hj : j < L) (hL : L ≤ 2560) (hdg : decode cc pc = .ok (.iaload, 1))
    (kk : W p l e R s m args below meth c H locs cells slots Q (F0 m (pc + 1) ls (.int (xs j) :: rest))) : W p l e R s m args below meth c H locs cells slots Q (F0 m pc ls (.int (nI j) :: .ref b :: rest)) := by
  refine va_sld F.1 F.2.1 hX hbl hbA hS (vp_in_nI hj (by omega)) hdg ?_
  rw [nI_clamp (by omega)]
  exact kk
set_option maxRecDepth 100000 in
set_option maxHeartbeats 2000000 in
theorem lc_setCalendar {p : Program} {l : Launch} {e : Env} {s : State} {m : MethodId} {args : Array Value} {below : List Frame} {meth : Method} {c : Code} {cells slots : Nat} {Q : State → Prop} {D : va_G} {k : Nat → ClassId} {sa : Nat → Nat} {b L i : Nat} {xs : Nat → Int32} {ad bd : Nat → Nat} {o : Nat} {g : Nat → Int64} {M M' M1 : Nat → Nat → Nat} {O O' O1 : Nat → Nat → Int32} {th rr : Int32} {xq : Nat} {H : Heap} {locs : List Loc} {ls : Array Slot} (F : CallFix p m c cL_law 7 s args wsL_law RL) (hK : va_K D vwCl (tyL k) s) (hN : lwN s) (hE : zE (fun q => s.heap.size ≤ q) sa s s.heap) (hX : va_X b L xs s s.heap) (hbl : b < s.heap.size) (hi : i + 5 ≤ L) (hL : L ≤ 2560) (hc1 : cells + 6 ≤ 601024) (hc2 : slots + 35 ≤ 7293034) (hP : va_P D vwCl (lX k o g ad M O ++ zw 19 bd (cM k bd M O th)) H) (hD : va_D (fun q => s.heap.size ≤ q) (lX k o g ad M O ++ zw 19 bd (cM k bd M O th))) (hS : va_S (fun q => s.heap.size ≤ q) s.heap H locs) (hl : lv_has ls 7 [(0, .ref b), (1, .ref (ad 0)), (2, .ref (bd 0)), (3, .ref o), (4, .int (nI i))])
    (hcX : vx_Met l yX2_setCalendar wsX2_setCalendar ({ frames := 8, cells := 4, slots := 24, locals := 124 }) (va_Pc [.ref (ad 0), .int (xs (i + 1)), .int (xs (i + 2)), .int (xs (i + 3)), .int (xs (i + 4))] (zPre D k ad M O H.size sa)) (zQop D k ad M M' O' (va_A (zw (20 + 2 * M 0 1) ad (cX k ad M O)) H.size) xq rr) (zX (fun E => exC E xq)) 4 24 (va_A (zw (20 + 2 * M 0 1) ad (cX k ad M O)) H.size))
    (hcM : ∀ sz : Nat, Met l yX3_setCalendar wsX3_setCalendar ({ frames := 2, cells := 0, slots := 0, locals := 42 }) (va_Pc [.ref (bd 0), .int (xs (i + 1)), .int (xs (i + 2)), .int (xs (i + 3)), .int (xs (i + 4))] (zG D k 19 bd (cM k bd M O th) sz)) (zQw D k 19 bd (cM k bd M1 O1 (nI (xq))) (va_A (zw 19 bd (cM k bd M O th)) sz) (fun r => xq = 0 → r = rr)) 0 0 (va_A (zw 19 bd (cM k bd M O th)) sz))
    (hq : xq ≤ 3) (h93 : xq ≠ 3) (e1 : xq = 0 → M1 = M' ∧ O1 = O') (e2 : xq ≠ 0 → M1 = M ∧ O1 = O)
    (kk : ∀ (g1 : Nat → Int64) (ad1 : Nat → Nat) (H : Heap) (locs : List Loc) (ls : Array Slot), va_P D vwCl (lX k o g1 ad1 M1 O1 ++ zw 19 bd (cM k bd M1 O1 (nI (xq)))) H → va_D (fun q => s.heap.size ≤ q) (lX k o g1 ad1 M1 O1 ++ zw 19 bd (cM k bd M1 O1 (nI (xq)))) → va_S (fun q => s.heap.size ≤ q) s.heap H locs → lv_has ls 7 [(0, .ref b), (1, .ref (ad1 0)), (2, .ref (bd 0)), (3, .ref o), (4, .int (nI i))] → W p l e room_1 s m args below meth c H locs (cells + 6) (slots + 35) Q (F0 m 1755 ls [])) : W p l e room_1 s m args below meth c H locs cells slots Q (F0 m 148 ls []) := by
  have hx := F.1
  have hb := F.2.1
  have hts := F.2.2.2.2
  have hown := F.2.2.2.1
  have hA : ∀ q : Nat, s.heap.size ≤ q → (fun q => s.heap.size ≤ q) q := fun _ h => h
  have hbA : ¬ (fun q => s.heap.size ≤ q) b := Nat.not_le.mpr hbl
  refine lv_aload_n hx hb dL_law_148 rfl (lv_at hl 1 rfl) ?_
  refine lv_aload_n hx hb dL_law_149 rfl (lv_at hl 0 rfl) ?_
  refine lv_iload hx hb dL_law_150 (lv_at hl 4 rfl) ?_
  refine lv_iconst (v := nI 1) hx hb dL_law_152 (by decide) ?_
  refine z_add F dL_law_153 ?_
  refine lw_sld F hX hbl hbA hS (show i + 1 < L by omega) hL dL_law_154 ?_
  refine lv_aload_n hx hb dL_law_155 rfl (lv_at hl 0 rfl) ?_
  refine lv_iload hx hb dL_law_156 (lv_at hl 4 rfl) ?_
  refine lv_iconst (v := nI 2) hx hb dL_law_158 (by decide) ?_
  refine z_add F dL_law_159 ?_
  refine lw_sld F hX hbl hbA hS (show i + 2 < L by omega) hL dL_law_160 ?_
  refine lv_aload_n hx hb dL_law_161 rfl (lv_at hl 0 rfl) ?_
  refine lv_iload hx hb dL_law_162 (lv_at hl 4 rfl) ?_
  refine lv_iconst (v := nI 3) hx hb dL_law_164 (by decide) ?_
  refine z_add F dL_law_165 ?_
  refine lw_sld F hX hbl hbA hS (show i + 3 < L by omega) hL dL_law_166 ?_
  refine lv_aload_n hx hb dL_law_167 rfl (lv_at hl 0 rfl) ?_
  refine lv_iload hx hb dL_law_168 (lv_at hl 4 rfl) ?_
  refine lv_iconst (v := nI 4) hx hb dL_law_170 (by decide) ?_
  refine z_add F dL_law_171 ?_
  refine lw_sld F hX hbl hbA hS (show i + 4 < L by omega) hL dL_law_172 ?_
  refine lv_aload_n hx hb dL_law_173 rfl (lv_at hl 3 rfl) ?_
  refine law_X (wb := zw 19 bd (cM k bd M O th)) (As := [.ref (ad 0), .int (xs (i + 1)), .int (xs (i + 2)), .int (xs (i + 3)), .int (xs (i + 4)), .ref o]) (rest := []) F (c_L_setCalendar l sa D k ad M O o g H.size (xs (i + 1)) (xs (i + 2)) (xs (i + 3)) (xs (i + 4)) hcX h93 e1 e2) (vx_cwSW 6 hts gL_law_L_setCalendar rfl rfl rfl (by decide +kernel) ⟨Nat.le_of_ble_eq_true rfl, Nat.le_of_ble_eq_true rfl⟩) hK hN hE hP hD hS hA rfl hl.1 rfl (Nat.le_of_ble_eq_true rfl) dL_law_174 ⟨by show _ ≤ 601024; omega, by show _ ≤ 7293034; omega⟩ (fun ad1 g1 H locs hg had hP hD hS => ?_)
  refine lv_istore (lv' := [(5, .int (nI xq)), (0, .ref b), (1, .ref (ad 0)), (2, .ref (bd 0)), (3, .ref o), (4, .int (nI i))]) hx hb dL_law_177 hl (by decide) rfl (fun ls hl => ?_)
  refine lv_aload_n hx hb dL_law_179 rfl (lv_at hl 3 rfl) ?_
  refine lv_aload_n hx hb dL_law_180 rfl (lv_at hl 1 rfl) ?_
  refine lv_iload hx hb dL_law_181 (lv_at hl 5 rfl) ?_
  refine lv_iconst (v := nI 1) hx hb dL_law_183 (by decide) ?_
  refine z_add F dL_law_184 ?_
  refine lw_sld F hX hbl hbA hS (show i + 1 < L by omega) hL dL_law_185 ?_
  refine lv_aload_n hx hb dL_law_186 rfl (lv_at hl 1 rfl) ?_
  refine lv_iload hx hb dL_law_187 (lv_at hl 5 rfl) ?_
  refine lv_iconst (v := nI 2) hx hb dL_law_189 (by decide) ?_
  refine z_add F dL_law_190 ?_
  refine lw_sld F hX hbl hbA hS (show i + 2 < L by omega) hL dL_law_191 ?_
  refine lv_aload_n hx hb dL_law_192 rfl (lv_at hl 1 rfl) ?_
  refine lv_iload hx hb dL_law_193 (lv_at hl 5 rfl) ?_
  refine lv_iconst (v := nI 3) hx hb dL_law_195 (by decide) ?_
  refine z_add F dL_law_196 ?_
  refine lw_sld F hX hbl hbA hS (show i + 3 < L by omega) hL dL_law_197 ?_
  refine lv_aload_n hx hb dL_law_198 rfl (lv_at hl 1 rfl) ?_
  refine lv_iload hx hb dL_law_199 (lv_at hl 5 rfl) ?_
  refine lv_iconst (v := nI 4) hx hb dL_law_201 (by decide) ?_
  refine z_add F dL_law_202 ?_
  refine lw_sld F hX hbl hbA hS (show i + 4 < L by omega) hL dL_law_203 ?_
  refine law_M (wb := lX k o g1 ad1 M1 O1) (As := [.int (xs (i + 1)), .int (xs (i + 2)), .int (xs (i + 3)), .int (xs (i + 4))]) (rest := []) F (hcM _) (cwV 4 hts gL_law_X3_setCalendar rfl rfl rfl (by decide +kernel) ⟨Nat.le_of_ble_eq_true rfl, Nat.le_of_ble_eq_true rfl⟩) hK hP hD hS hA rfl hl.1 rfl (Nat.le_of_ble_eq_true rfl) dL_law_204 ⟨by show _ ≤ 601024; omega, by show _ ≤ 7293034; omega⟩ (fun r H locs hr0 hP hD hS => ?_)
  refine lv_istore (lv' := [(6, .int r), (5, .int (nI xq)), (0, .ref b), (1, .ref (ad 0)), (2, .ref (bd 0)), (3, .ref o), (4, .int (nI i))]) hx hb dL_law_207 hl (by decide) rfl (fun ls hl => ?_)
  refine lv_aload_n hx hb dL_law_209 rfl (lv_at hl 4 rfl) ?_
  refine z_cV (qc := (RX3, TX3, 21)) (As := []) (rest := []) (0) F (c_X3_thrown l D k bd M1 O1 (nI (xq))) (cwV 0 hts gL_law_X3_thrown rfl rfl rfl (by decide +kernel) ⟨Nat.le_of_ble_eq_true rfl, Nat.le_of_ble_eq_true rfl⟩) hK (wP_r hP) (by omega) cM_0 rfl rfl hl.1 rfl (Nat.le_of_ble_eq_true rfl) dL_law_210 ⟨by show _ ≤ 601024; omega, by show _ ≤ 7293034; omega⟩ (fun r9 hr9 => ?_)
  subst hr9
  refine lv_iload hx hb dL_law_213 (lv_at hl 1 rfl) ?_
  refine lv_icmp_eq (tgt := 220) hx hb dL_law_215 (by decide) (fun _ => ?_) (fun zz1 => absurd rfl zz1)
  refine lv_iload hx hb dL_law_220 (lv_at hl 1 rfl) ?_
  refine z_ifn_ne (tgt := 237) F (by omega) dL_law_222 (by decide) (fun zc => ?_) (fun zc => ?_)
  · refine lv_goto (tgt := 1755) hx hb dL_law_237 (by decide) ?_
    refine W.widen (k := cells + 6) (n := slots + 35) (by omega) (by omega) ?_
    exact kk _ _ _ _ _ hP hD hS (by rw [had 0 (by omega)]; exact lv_sub hl [2, 3, 4, 5, 6] rfl)
  · have h0 : xq = 0 := by omega
    refine lv_aload_n hx hb dL_law_225 rfl (lv_at hl 5 rfl) ?_
    refine lv_iconst (v := nI 0) hx hb dL_law_226 (by decide) ?_
    refine lw_lald (g := g1) (ad := ad1) (M := M1) (O := O1) F hK hP dL_law_227 ?_
    refine lv_iload hx hb dL_law_228 (lv_at hl 0 rfl) ?_
    refine lv_i2l (v := (r).toInt64) hx hb dL_law_230 rfl ?_
    refine W.lcmp hx hb dL_law_231 ?_
    refine lv_if_eq (tgt := 237) hx hb dL_law_232 (by decide) (fun _ => ?_) (fun zz1 => absurd ((lg_cmp_eq _ _).mpr (by rw [hg h0, hr0 h0])) zz1)
    refine lv_goto (tgt := 1755) hx hb dL_law_237 (by decide) ?_
    refine W.widen (k := cells + 6) (n := slots + 35) (by omega) (by omega) ?_
    exact kk _ _ _ _ _ hP hD hS (by rw [had 0 (by omega)]; exact lv_sub hl [2, 3, 4, 5, 6] rfl)
set_option maxRecDepth 100000 in
set_option maxHeartbeats 2000000 in
theorem lc_addContract {p : Program} {l : Launch} {e : Env} {s : State} {m : MethodId} {args : Array Value} {below : List Frame} {meth : Method} {c : Code} {cells slots : Nat} {Q : State → Prop} {D : va_G} {k : Nat → ClassId} {sa : Nat → Nat} {b L i : Nat} {xs : Nat → Int32} {ad bd : Nat → Nat} {o : Nat} {g : Nat → Int64} {M M' M1 : Nat → Nat → Nat} {O O' O1 : Nat → Nat → Int32} {th rr : Int32} {xq : Nat} {H : Heap} {locs : List Loc} {ls : Array Slot} (F : CallFix p m c cL_law 7 s args wsL_law RL) (hK : va_K D vwCl (tyL k) s) (hN : lwN s) (hE : zE (fun q => s.heap.size ≤ q) sa s s.heap) (hX : va_X b L xs s s.heap) (hbl : b < s.heap.size) (hi : i + 5 ≤ L) (hL : L ≤ 2560) (hc1 : cells + 6 ≤ 601024) (hc2 : slots + 35 ≤ 7293034) (hP : va_P D vwCl (lX k o g ad M O ++ zw 19 bd (cM k bd M O th)) H) (hD : va_D (fun q => s.heap.size ≤ q) (lX k o g ad M O ++ zw 19 bd (cM k bd M O th))) (hS : va_S (fun q => s.heap.size ≤ q) s.heap H locs) (hl : lv_has ls 7 [(0, .ref b), (1, .ref (ad 0)), (2, .ref (bd 0)), (3, .ref o), (4, .int (nI i))])
    (hcX : vx_Met l yX2_addContract wsX2_addContract ({ frames := 8, cells := 5, slots := 30, locals := 124 }) (va_Pc [.ref (ad 0), .int (xs (i + 1)), .int (xs (i + 2)), .int (xs (i + 3)), .int (xs (i + 4))] (zPre D k ad M O H.size sa)) (zQop D k ad M M' O' (va_A (zw (20 + 2 * M 0 1) ad (cX k ad M O)) H.size) xq rr) (zX (fun E => exC E xq)) 5 30 (va_A (zw (20 + 2 * M 0 1) ad (cX k ad M O)) H.size))
    (hcM : ∀ sz : Nat, Met l yX3_addContract wsX3_addContract ({ frames := 2, cells := 0, slots := 0, locals := 42 }) (va_Pc [.ref (bd 0), .int (xs (i + 1)), .int (xs (i + 2)), .int (xs (i + 3)), .int (xs (i + 4))] (zG D k 19 bd (cM k bd M O th) sz)) (zQw D k 19 bd (cM k bd M1 O1 (nI (xq))) (va_A (zw 19 bd (cM k bd M O th)) sz) (fun r => xq = 0 → r = rr)) 0 0 (va_A (zw 19 bd (cM k bd M O th)) sz))
    (hq : xq ≤ 3) (e1 : xq = 0 → M1 = M' ∧ O1 = O') (e2 : xq ≠ 0 → M1 = M ∧ O1 = O)
    (kk : ∀ (g1 : Nat → Int64) (ad1 : Nat → Nat) (H : Heap) (locs : List Loc) (ls : Array Slot), va_P D vwCl (lX k o g1 ad1 M1 O1 ++ zw 19 bd (cM k bd M1 O1 (nI (xq)))) H → va_D (fun q => s.heap.size ≤ q) (lX k o g1 ad1 M1 O1 ++ zw 19 bd (cM k bd M1 O1 (nI (xq)))) → va_S (fun q => s.heap.size ≤ q) s.heap H locs → lv_has ls 7 [(0, .ref b), (1, .ref (ad1 0)), (2, .ref (bd 0)), (3, .ref o), (4, .int (nI i))] → W p l e room_1 s m args below meth c H locs (cells + 6) (slots + 35) Q (F0 m 1755 ls [])) : W p l e room_1 s m args below meth c H locs cells slots Q (F0 m 240 ls []) := by
  have hx := F.1
  have hb := F.2.1
  have hts := F.2.2.2.2
  have hown := F.2.2.2.1
  have hA : ∀ q : Nat, s.heap.size ≤ q → (fun q => s.heap.size ≤ q) q := fun _ h => h
  have hbA : ¬ (fun q => s.heap.size ≤ q) b := Nat.not_le.mpr hbl
  refine lv_aload_n hx hb dL_law_240 rfl (lv_at hl 1 rfl) ?_
  refine lv_aload_n hx hb dL_law_241 rfl (lv_at hl 0 rfl) ?_
  refine lv_iload hx hb dL_law_242 (lv_at hl 4 rfl) ?_
  refine lv_iconst (v := nI 1) hx hb dL_law_244 (by decide) ?_
  refine z_add F dL_law_245 ?_
  refine lw_sld F hX hbl hbA hS (show i + 1 < L by omega) hL dL_law_246 ?_
  refine lv_aload_n hx hb dL_law_247 rfl (lv_at hl 0 rfl) ?_
  refine lv_iload hx hb dL_law_248 (lv_at hl 4 rfl) ?_
  refine lv_iconst (v := nI 2) hx hb dL_law_250 (by decide) ?_
  refine z_add F dL_law_251 ?_
  refine lw_sld F hX hbl hbA hS (show i + 2 < L by omega) hL dL_law_252 ?_
  refine lv_aload_n hx hb dL_law_253 rfl (lv_at hl 0 rfl) ?_
  refine lv_iload hx hb dL_law_254 (lv_at hl 4 rfl) ?_
  refine lv_iconst (v := nI 3) hx hb dL_law_256 (by decide) ?_
  refine z_add F dL_law_257 ?_
  refine lw_sld F hX hbl hbA hS (show i + 3 < L by omega) hL dL_law_258 ?_
  refine lv_aload_n hx hb dL_law_259 rfl (lv_at hl 0 rfl) ?_
  refine lv_iload hx hb dL_law_260 (lv_at hl 4 rfl) ?_
  refine lv_iconst (v := nI 4) hx hb dL_law_262 (by decide) ?_
  refine z_add F dL_law_263 ?_
  refine lw_sld F hX hbl hbA hS (show i + 4 < L by omega) hL dL_law_264 ?_
  refine lv_aload_n hx hb dL_law_265 rfl (lv_at hl 3 rfl) ?_
  refine law_X (wb := zw 19 bd (cM k bd M O th)) (As := [.ref (ad 0), .int (xs (i + 1)), .int (xs (i + 2)), .int (xs (i + 3)), .int (xs (i + 4)), .ref o]) (rest := []) F (c_L_addContract l sa D k ad M O o g H.size (xs (i + 1)) (xs (i + 2)) (xs (i + 3)) (xs (i + 4)) hcX e1 e2) (vx_cwSW 6 hts gL_law_L_addContract rfl rfl rfl (by decide +kernel) ⟨Nat.le_of_ble_eq_true rfl, Nat.le_of_ble_eq_true rfl⟩) hK hN hE hP hD hS hA rfl hl.1 rfl (Nat.le_of_ble_eq_true rfl) dL_law_266 ⟨by show _ ≤ 601024; omega, by show _ ≤ 7293034; omega⟩ (fun ad1 g1 H locs hg had hP hD hS => ?_)
  refine lv_istore (lv' := [(5, .int (nI xq)), (0, .ref b), (1, .ref (ad 0)), (2, .ref (bd 0)), (3, .ref o), (4, .int (nI i))]) hx hb dL_law_269 hl (by decide) rfl (fun ls hl => ?_)
  refine lv_aload_n hx hb dL_law_271 rfl (lv_at hl 3 rfl) ?_
  refine lv_aload_n hx hb dL_law_272 rfl (lv_at hl 1 rfl) ?_
  refine lv_iload hx hb dL_law_273 (lv_at hl 5 rfl) ?_
  refine lv_iconst (v := nI 1) hx hb dL_law_275 (by decide) ?_
  refine z_add F dL_law_276 ?_
  refine lw_sld F hX hbl hbA hS (show i + 1 < L by omega) hL dL_law_277 ?_
  refine lv_aload_n hx hb dL_law_278 rfl (lv_at hl 1 rfl) ?_
  refine lv_iload hx hb dL_law_279 (lv_at hl 5 rfl) ?_
  refine lv_iconst (v := nI 2) hx hb dL_law_281 (by decide) ?_
  refine z_add F dL_law_282 ?_
  refine lw_sld F hX hbl hbA hS (show i + 2 < L by omega) hL dL_law_283 ?_
  refine lv_aload_n hx hb dL_law_284 rfl (lv_at hl 1 rfl) ?_
  refine lv_iload hx hb dL_law_285 (lv_at hl 5 rfl) ?_
  refine lv_iconst (v := nI 3) hx hb dL_law_287 (by decide) ?_
  refine z_add F dL_law_288 ?_
  refine lw_sld F hX hbl hbA hS (show i + 3 < L by omega) hL dL_law_289 ?_
  refine lv_aload_n hx hb dL_law_290 rfl (lv_at hl 1 rfl) ?_
  refine lv_iload hx hb dL_law_291 (lv_at hl 5 rfl) ?_
  refine lv_iconst (v := nI 4) hx hb dL_law_293 (by decide) ?_
  refine z_add F dL_law_294 ?_
  refine lw_sld F hX hbl hbA hS (show i + 4 < L by omega) hL dL_law_295 ?_
  refine law_M (wb := lX k o g1 ad1 M1 O1) (As := [.int (xs (i + 1)), .int (xs (i + 2)), .int (xs (i + 3)), .int (xs (i + 4))]) (rest := []) F (hcM _) (cwV 4 hts gL_law_X3_addContract rfl rfl rfl (by decide +kernel) ⟨Nat.le_of_ble_eq_true rfl, Nat.le_of_ble_eq_true rfl⟩) hK hP hD hS hA rfl hl.1 rfl (Nat.le_of_ble_eq_true rfl) dL_law_296 ⟨by show _ ≤ 601024; omega, by show _ ≤ 7293034; omega⟩ (fun r H locs hr0 hP hD hS => ?_)
  refine lv_istore (lv' := [(6, .int r), (5, .int (nI xq)), (0, .ref b), (1, .ref (ad 0)), (2, .ref (bd 0)), (3, .ref o), (4, .int (nI i))]) hx hb dL_law_299 hl (by decide) rfl (fun ls hl => ?_)
  refine lv_aload_n hx hb dL_law_301 rfl (lv_at hl 4 rfl) ?_
  refine z_cV (qc := (RX3, TX3, 21)) (As := []) (rest := []) (0) F (c_X3_thrown l D k bd M1 O1 (nI (xq))) (cwV 0 hts gL_law_X3_thrown rfl rfl rfl (by decide +kernel) ⟨Nat.le_of_ble_eq_true rfl, Nat.le_of_ble_eq_true rfl⟩) hK (wP_r hP) (by omega) cM_0 rfl rfl hl.1 rfl (Nat.le_of_ble_eq_true rfl) dL_law_302 ⟨by show _ ≤ 601024; omega, by show _ ≤ 7293034; omega⟩ (fun r9 hr9 => ?_)
  subst hr9
  refine lv_iload hx hb dL_law_305 (lv_at hl 1 rfl) ?_
  refine lv_icmp_eq (tgt := 312) hx hb dL_law_307 (by decide) (fun _ => ?_) (fun zz1 => absurd rfl zz1)
  refine lv_iload hx hb dL_law_312 (lv_at hl 1 rfl) ?_
  refine z_ifn_ne (tgt := 329) F (by omega) dL_law_314 (by decide) (fun zc => ?_) (fun zc => ?_)
  · refine lv_goto (tgt := 1755) hx hb dL_law_329 (by decide) ?_
    refine W.widen (k := cells + 6) (n := slots + 35) (by omega) (by omega) ?_
    exact kk _ _ _ _ _ hP hD hS (by rw [had 0 (by omega)]; exact lv_sub hl [2, 3, 4, 5, 6] rfl)
  · have h0 : xq = 0 := by omega
    refine lv_aload_n hx hb dL_law_317 rfl (lv_at hl 5 rfl) ?_
    refine lv_iconst (v := nI 0) hx hb dL_law_318 (by decide) ?_
    refine lw_lald (g := g1) (ad := ad1) (M := M1) (O := O1) F hK hP dL_law_319 ?_
    refine lv_iload hx hb dL_law_320 (lv_at hl 0 rfl) ?_
    refine lv_i2l (v := (r).toInt64) hx hb dL_law_322 rfl ?_
    refine W.lcmp hx hb dL_law_323 ?_
    refine lv_if_eq (tgt := 329) hx hb dL_law_324 (by decide) (fun _ => ?_) (fun zz1 => absurd ((lg_cmp_eq _ _).mpr (by rw [hg h0, hr0 h0])) zz1)
    refine lv_goto (tgt := 1755) hx hb dL_law_329 (by decide) ?_
    refine W.widen (k := cells + 6) (n := slots + 35) (by omega) (by omega) ?_
    exact kk _ _ _ _ _ hP hD hS (by rw [had 0 (by omega)]; exact lv_sub hl [2, 3, 4, 5, 6] rfl)
set_option maxRecDepth 100000 in
set_option maxHeartbeats 2000000 in
theorem lc_setPromise {p : Program} {l : Launch} {e : Env} {s : State} {m : MethodId} {args : Array Value} {below : List Frame} {meth : Method} {c : Code} {cells slots : Nat} {Q : State → Prop} {D : va_G} {k : Nat → ClassId} {sa : Nat → Nat} {b L i : Nat} {xs : Nat → Int32} {ad bd : Nat → Nat} {o : Nat} {g : Nat → Int64} {M M' M1 : Nat → Nat → Nat} {O O' O1 : Nat → Nat → Int32} {th rr : Int32} {xq : Nat} {H : Heap} {locs : List Loc} {ls : Array Slot} (F : CallFix p m c cL_law 7 s args wsL_law RL) (hK : va_K D vwCl (tyL k) s) (hN : lwN s) (hE : zE (fun q => s.heap.size ≤ q) sa s s.heap) (hX : va_X b L xs s s.heap) (hbl : b < s.heap.size) (hi : i + 5 ≤ L) (hL : L ≤ 2560) (hc1 : cells + 6 ≤ 601024) (hc2 : slots + 35 ≤ 7293034) (hP : va_P D vwCl (lX k o g ad M O ++ zw 19 bd (cM k bd M O th)) H) (hD : va_D (fun q => s.heap.size ≤ q) (lX k o g ad M O ++ zw 19 bd (cM k bd M O th))) (hS : va_S (fun q => s.heap.size ≤ q) s.heap H locs) (hl : lv_has ls 7 [(0, .ref b), (1, .ref (ad 0)), (2, .ref (bd 0)), (3, .ref o), (4, .int (nI i))])
    (hcX : vx_Met l yX2_setPromise wsX2_setPromise ({ frames := 8, cells := 3, slots := 18, locals := 124 }) (va_Pc [.ref (ad 0), .int (xs (i + 1)), .int (xs (i + 2)), .int (xs (i + 3))] (zPre D k ad M O H.size sa)) (zQop D k ad M M' O' (va_A (zw (20 + 2 * M 0 1) ad (cX k ad M O)) H.size) xq rr) (zX (fun E => exC E xq)) 3 18 (va_A (zw (20 + 2 * M 0 1) ad (cX k ad M O)) H.size))
    (hcM : ∀ sz : Nat, Met l yX3_setPromise wsX3_setPromise ({ frames := 1, cells := 0, slots := 0, locals := 22 }) (va_Pc [.ref (bd 0), .int (xs (i + 1)), .int (xs (i + 2)), .int (xs (i + 3))] (zG D k 19 bd (cM k bd M O th) sz)) (zQw D k 19 bd (cM k bd M1 O1 (nI (xq - 1))) (va_A (zw 19 bd (cM k bd M O th)) sz) (fun r => xq = 0 → r = rr)) 0 0 (va_A (zw 19 bd (cM k bd M O th)) sz))
    (hq : xq ≤ 3) (h91 : xq ≠ 1) (h93 : xq ≠ 3) (e1 : xq = 0 → M1 = M' ∧ O1 = O') (e2 : xq ≠ 0 → M1 = M ∧ O1 = O)
    (kk : ∀ (g1 : Nat → Int64) (ad1 : Nat → Nat) (H : Heap) (locs : List Loc) (ls : Array Slot), va_P D vwCl (lX k o g1 ad1 M1 O1 ++ zw 19 bd (cM k bd M1 O1 (nI (xq - 1)))) H → va_D (fun q => s.heap.size ≤ q) (lX k o g1 ad1 M1 O1 ++ zw 19 bd (cM k bd M1 O1 (nI (xq - 1)))) → va_S (fun q => s.heap.size ≤ q) s.heap H locs → lv_has ls 7 [(0, .ref b), (1, .ref (ad1 0)), (2, .ref (bd 0)), (3, .ref o), (4, .int (nI i))] → W p l e room_1 s m args below meth c H locs (cells + 6) (slots + 35) Q (F0 m 1755 ls [])) : W p l e room_1 s m args below meth c H locs cells slots Q (F0 m 332 ls []) := by
  have hx := F.1
  have hb := F.2.1
  have hts := F.2.2.2.2
  have hown := F.2.2.2.1
  have hA : ∀ q : Nat, s.heap.size ≤ q → (fun q => s.heap.size ≤ q) q := fun _ h => h
  have hbA : ¬ (fun q => s.heap.size ≤ q) b := Nat.not_le.mpr hbl
  refine lv_aload_n hx hb dL_law_332 rfl (lv_at hl 1 rfl) ?_
  refine lv_aload_n hx hb dL_law_333 rfl (lv_at hl 0 rfl) ?_
  refine lv_iload hx hb dL_law_334 (lv_at hl 4 rfl) ?_
  refine lv_iconst (v := nI 1) hx hb dL_law_336 (by decide) ?_
  refine z_add F dL_law_337 ?_
  refine lw_sld F hX hbl hbA hS (show i + 1 < L by omega) hL dL_law_338 ?_
  refine lv_aload_n hx hb dL_law_339 rfl (lv_at hl 0 rfl) ?_
  refine lv_iload hx hb dL_law_340 (lv_at hl 4 rfl) ?_
  refine lv_iconst (v := nI 2) hx hb dL_law_342 (by decide) ?_
  refine z_add F dL_law_343 ?_
  refine lw_sld F hX hbl hbA hS (show i + 2 < L by omega) hL dL_law_344 ?_
  refine lv_aload_n hx hb dL_law_345 rfl (lv_at hl 0 rfl) ?_
  refine lv_iload hx hb dL_law_346 (lv_at hl 4 rfl) ?_
  refine lv_iconst (v := nI 3) hx hb dL_law_348 (by decide) ?_
  refine z_add F dL_law_349 ?_
  refine lw_sld F hX hbl hbA hS (show i + 3 < L by omega) hL dL_law_350 ?_
  refine lv_aload_n hx hb dL_law_351 rfl (lv_at hl 3 rfl) ?_
  refine law_X (wb := zw 19 bd (cM k bd M O th)) (As := [.ref (ad 0), .int (xs (i + 1)), .int (xs (i + 2)), .int (xs (i + 3)), .ref o]) (rest := []) F (c_L_setPromise l sa D k ad M O o g H.size (xs (i + 1)) (xs (i + 2)) (xs (i + 3)) hcX h91 h93 e1 e2) (vx_cwSW 5 hts gL_law_L_setPromise rfl rfl rfl (by decide +kernel) ⟨Nat.le_of_ble_eq_true rfl, Nat.le_of_ble_eq_true rfl⟩) hK hN hE hP hD hS hA rfl hl.1 rfl (Nat.le_of_ble_eq_true rfl) dL_law_352 ⟨by show _ ≤ 601024; omega, by show _ ≤ 7293034; omega⟩ (fun ad1 g1 H locs hg had hP hD hS => ?_)
  refine lv_istore (lv' := [(5, .int (nI (xq - 1))), (0, .ref b), (1, .ref (ad 0)), (2, .ref (bd 0)), (3, .ref o), (4, .int (nI i))]) hx hb dL_law_355 hl (by decide) rfl (fun ls hl => ?_)
  refine lv_aload_n hx hb dL_law_357 rfl (lv_at hl 3 rfl) ?_
  refine lv_aload_n hx hb dL_law_358 rfl (lv_at hl 1 rfl) ?_
  refine lv_iload hx hb dL_law_359 (lv_at hl 5 rfl) ?_
  refine lv_iconst (v := nI 1) hx hb dL_law_361 (by decide) ?_
  refine z_add F dL_law_362 ?_
  refine lw_sld F hX hbl hbA hS (show i + 1 < L by omega) hL dL_law_363 ?_
  refine lv_aload_n hx hb dL_law_364 rfl (lv_at hl 1 rfl) ?_
  refine lv_iload hx hb dL_law_365 (lv_at hl 5 rfl) ?_
  refine lv_iconst (v := nI 2) hx hb dL_law_367 (by decide) ?_
  refine z_add F dL_law_368 ?_
  refine lw_sld F hX hbl hbA hS (show i + 2 < L by omega) hL dL_law_369 ?_
  refine lv_aload_n hx hb dL_law_370 rfl (lv_at hl 1 rfl) ?_
  refine lv_iload hx hb dL_law_371 (lv_at hl 5 rfl) ?_
  refine lv_iconst (v := nI 3) hx hb dL_law_373 (by decide) ?_
  refine z_add F dL_law_374 ?_
  refine lw_sld F hX hbl hbA hS (show i + 3 < L by omega) hL dL_law_375 ?_
  refine law_M (wb := lX k o g1 ad1 M1 O1) (As := [.int (xs (i + 1)), .int (xs (i + 2)), .int (xs (i + 3))]) (rest := []) F (hcM _) (cwV 3 hts gL_law_X3_setPromise rfl rfl rfl (by decide +kernel) ⟨Nat.le_of_ble_eq_true rfl, Nat.le_of_ble_eq_true rfl⟩) hK hP hD hS hA rfl hl.1 rfl (Nat.le_of_ble_eq_true rfl) dL_law_376 ⟨by show _ ≤ 601024; omega, by show _ ≤ 7293034; omega⟩ (fun r H locs hr0 hP hD hS => ?_)
  refine lv_istore (lv' := [(6, .int r), (5, .int (nI (xq - 1))), (0, .ref b), (1, .ref (ad 0)), (2, .ref (bd 0)), (3, .ref o), (4, .int (nI i))]) hx hb dL_law_379 hl (by decide) rfl (fun ls hl => ?_)
  refine lv_aload_n hx hb dL_law_381 rfl (lv_at hl 4 rfl) ?_
  refine z_cV (qc := (RX3, TX3, 21)) (As := []) (rest := []) (0) F (c_X3_thrown l D k bd M1 O1 (nI (xq - 1))) (cwV 0 hts gL_law_X3_thrown rfl rfl rfl (by decide +kernel) ⟨Nat.le_of_ble_eq_true rfl, Nat.le_of_ble_eq_true rfl⟩) hK (wP_r hP) (by omega) cM_0 rfl rfl hl.1 rfl (Nat.le_of_ble_eq_true rfl) dL_law_382 ⟨by show _ ≤ 601024; omega, by show _ ≤ 7293034; omega⟩ (fun r9 hr9 => ?_)
  subst hr9
  refine lv_iload hx hb dL_law_385 (lv_at hl 1 rfl) ?_
  refine lv_icmp_eq (tgt := 392) hx hb dL_law_387 (by decide) (fun _ => ?_) (fun zz1 => absurd rfl zz1)
  refine lv_iload hx hb dL_law_392 (lv_at hl 1 rfl) ?_
  refine z_ifn_ne (tgt := 409) F (by omega) dL_law_394 (by decide) (fun zc => ?_) (fun zc => ?_)
  · refine lv_goto (tgt := 1755) hx hb dL_law_409 (by decide) ?_
    refine W.widen (k := cells + 6) (n := slots + 35) (by omega) (by omega) ?_
    exact kk _ _ _ _ _ hP hD hS (by rw [had 0 (by omega)]; exact lv_sub hl [2, 3, 4, 5, 6] rfl)
  · have h0 : xq = 0 := by omega
    refine lv_aload_n hx hb dL_law_397 rfl (lv_at hl 5 rfl) ?_
    refine lv_iconst (v := nI 0) hx hb dL_law_398 (by decide) ?_
    refine lw_lald (g := g1) (ad := ad1) (M := M1) (O := O1) F hK hP dL_law_399 ?_
    refine lv_iload hx hb dL_law_400 (lv_at hl 0 rfl) ?_
    refine lv_i2l (v := (r).toInt64) hx hb dL_law_402 rfl ?_
    refine W.lcmp hx hb dL_law_403 ?_
    refine lv_if_eq (tgt := 409) hx hb dL_law_404 (by decide) (fun _ => ?_) (fun zz1 => absurd ((lg_cmp_eq _ _).mpr (by rw [hg h0, hr0 h0])) zz1)
    refine lv_goto (tgt := 1755) hx hb dL_law_409 (by decide) ?_
    refine W.widen (k := cells + 6) (n := slots + 35) (by omega) (by omega) ?_
    exact kk _ _ _ _ _ hP hD hS (by rw [had 0 (by omega)]; exact lv_sub hl [2, 3, 4, 5, 6] rfl)
set_option maxRecDepth 100000 in
set_option maxHeartbeats 2000000 in
theorem lc_isCovered {p : Program} {l : Launch} {e : Env} {s : State} {m : MethodId} {args : Array Value} {below : List Frame} {meth : Method} {c : Code} {cells slots : Nat} {Q : State → Prop} {D : va_G} {k : Nat → ClassId} {sa : Nat → Nat} {b L i : Nat} {xs : Nat → Int32} {ad bd : Nat → Nat} {o : Nat} {g : Nat → Int64} {M M' M1 : Nat → Nat → Nat} {O O' O1 : Nat → Nat → Int32} {th rr : Int32} {xq : Nat} {H : Heap} {locs : List Loc} {ls : Array Slot} (F : CallFix p m c cL_law 7 s args wsL_law RL) (hK : va_K D vwCl (tyL k) s) (hN : lwN s) (hE : zE (fun q => s.heap.size ≤ q) sa s s.heap) (hX : va_X b L xs s s.heap) (hbl : b < s.heap.size) (hi : i + 5 ≤ L) (hL : L ≤ 2560) (hc1 : cells + 6 ≤ 601024) (hc2 : slots + 35 ≤ 7293034) (hP : va_P D vwCl (lX k o g ad M O ++ zw 19 bd (cM k bd M O th)) H) (hD : va_D (fun q => s.heap.size ≤ q) (lX k o g ad M O ++ zw 19 bd (cM k bd M O th))) (hS : va_S (fun q => s.heap.size ≤ q) s.heap H locs) (hl : lv_has ls 7 [(0, .ref b), (1, .ref (ad 0)), (2, .ref (bd 0)), (3, .ref o), (4, .int (nI i))])
    (hcX : vx_Met l yX2_isCovered wsX2_isCovered ({ frames := 8, cells := 3, slots := 18, locals := 124 }) (va_Pc [.ref (ad 0), .int (xs (i + 1)), .int (xs (i + 2)), .int (xs (i + 3))] (zPre D k ad M O H.size sa)) (zQop D k ad M M' O' (va_A (zw (20 + 2 * M 0 1) ad (cX k ad M O)) H.size) xq rr) (zX (fun E => exC E xq)) 3 18 (va_A (zw (20 + 2 * M 0 1) ad (cX k ad M O)) H.size))
    (hcM : ∀ sz : Nat, Met l yX3_isCovered wsX3_isCovered ({ frames := 2, cells := 0, slots := 0, locals := 47 }) (va_Pc [.ref (bd 0), .int (xs (i + 1)), .int (xs (i + 2)), .int (xs (i + 3))] (zG D k 19 bd (cM k bd M O th) sz)) (zQw D k 19 bd (cM k bd M1 O1 (nI (xq))) (va_A (zw 19 bd (cM k bd M O th)) sz) (fun r => xq = 0 → r = rr)) 0 0 (va_A (zw 19 bd (cM k bd M O th)) sz))
    (hq : xq ≤ 3) (h93 : xq ≠ 3) (e1 : xq = 0 → M1 = M' ∧ O1 = O') (e2 : xq ≠ 0 → M1 = M ∧ O1 = O)
    (kk : ∀ (g1 : Nat → Int64) (ad1 : Nat → Nat) (H : Heap) (locs : List Loc) (ls : Array Slot), va_P D vwCl (lX k o g1 ad1 M1 O1 ++ zw 19 bd (cM k bd M1 O1 (nI (xq)))) H → va_D (fun q => s.heap.size ≤ q) (lX k o g1 ad1 M1 O1 ++ zw 19 bd (cM k bd M1 O1 (nI (xq)))) → va_S (fun q => s.heap.size ≤ q) s.heap H locs → lv_has ls 7 [(0, .ref b), (1, .ref (ad1 0)), (2, .ref (bd 0)), (3, .ref o), (4, .int (nI i))] → W p l e room_1 s m args below meth c H locs (cells + 6) (slots + 35) Q (F0 m 1755 ls [])) : W p l e room_1 s m args below meth c H locs cells slots Q (F0 m 412 ls []) := by
  have hx := F.1
  have hb := F.2.1
  have hts := F.2.2.2.2
  have hown := F.2.2.2.1
  have hA : ∀ q : Nat, s.heap.size ≤ q → (fun q => s.heap.size ≤ q) q := fun _ h => h
  have hbA : ¬ (fun q => s.heap.size ≤ q) b := Nat.not_le.mpr hbl
  refine lv_aload_n hx hb dL_law_412 rfl (lv_at hl 1 rfl) ?_
  refine lv_aload_n hx hb dL_law_413 rfl (lv_at hl 0 rfl) ?_
  refine lv_iload hx hb dL_law_414 (lv_at hl 4 rfl) ?_
  refine lv_iconst (v := nI 1) hx hb dL_law_416 (by decide) ?_
  refine z_add F dL_law_417 ?_
  refine lw_sld F hX hbl hbA hS (show i + 1 < L by omega) hL dL_law_418 ?_
  refine lv_aload_n hx hb dL_law_419 rfl (lv_at hl 0 rfl) ?_
  refine lv_iload hx hb dL_law_420 (lv_at hl 4 rfl) ?_
  refine lv_iconst (v := nI 2) hx hb dL_law_422 (by decide) ?_
  refine z_add F dL_law_423 ?_
  refine lw_sld F hX hbl hbA hS (show i + 2 < L by omega) hL dL_law_424 ?_
  refine lv_aload_n hx hb dL_law_425 rfl (lv_at hl 0 rfl) ?_
  refine lv_iload hx hb dL_law_426 (lv_at hl 4 rfl) ?_
  refine lv_iconst (v := nI 3) hx hb dL_law_428 (by decide) ?_
  refine z_add F dL_law_429 ?_
  refine lw_sld F hX hbl hbA hS (show i + 3 < L by omega) hL dL_law_430 ?_
  refine lv_aload_n hx hb dL_law_431 rfl (lv_at hl 3 rfl) ?_
  refine law_X (wb := zw 19 bd (cM k bd M O th)) (As := [.ref (ad 0), .int (xs (i + 1)), .int (xs (i + 2)), .int (xs (i + 3)), .ref o]) (rest := []) F (c_L_isCovered l sa D k ad M O o g H.size (xs (i + 1)) (xs (i + 2)) (xs (i + 3)) hcX h93 e1 e2) (vx_cwSW 5 hts gL_law_L_isCovered rfl rfl rfl (by decide +kernel) ⟨Nat.le_of_ble_eq_true rfl, Nat.le_of_ble_eq_true rfl⟩) hK hN hE hP hD hS hA rfl hl.1 rfl (Nat.le_of_ble_eq_true rfl) dL_law_432 ⟨by show _ ≤ 601024; omega, by show _ ≤ 7293034; omega⟩ (fun ad1 g1 H locs hg had hP hD hS => ?_)
  refine lv_istore (lv' := [(5, .int (nI xq)), (0, .ref b), (1, .ref (ad 0)), (2, .ref (bd 0)), (3, .ref o), (4, .int (nI i))]) hx hb dL_law_435 hl (by decide) rfl (fun ls hl => ?_)
  refine lv_aload_n hx hb dL_law_437 rfl (lv_at hl 3 rfl) ?_
  refine lv_aload_n hx hb dL_law_438 rfl (lv_at hl 1 rfl) ?_
  refine lv_iload hx hb dL_law_439 (lv_at hl 5 rfl) ?_
  refine lv_iconst (v := nI 1) hx hb dL_law_441 (by decide) ?_
  refine z_add F dL_law_442 ?_
  refine lw_sld F hX hbl hbA hS (show i + 1 < L by omega) hL dL_law_443 ?_
  refine lv_aload_n hx hb dL_law_444 rfl (lv_at hl 1 rfl) ?_
  refine lv_iload hx hb dL_law_445 (lv_at hl 5 rfl) ?_
  refine lv_iconst (v := nI 2) hx hb dL_law_447 (by decide) ?_
  refine z_add F dL_law_448 ?_
  refine lw_sld F hX hbl hbA hS (show i + 2 < L by omega) hL dL_law_449 ?_
  refine lv_aload_n hx hb dL_law_450 rfl (lv_at hl 1 rfl) ?_
  refine lv_iload hx hb dL_law_451 (lv_at hl 5 rfl) ?_
  refine lv_iconst (v := nI 3) hx hb dL_law_453 (by decide) ?_
  refine z_add F dL_law_454 ?_
  refine lw_sld F hX hbl hbA hS (show i + 3 < L by omega) hL dL_law_455 ?_
  refine law_M (wb := lX k o g1 ad1 M1 O1) (As := [.int (xs (i + 1)), .int (xs (i + 2)), .int (xs (i + 3))]) (rest := []) F (hcM _) (cwV 3 hts gL_law_X3_isCovered rfl rfl rfl (by decide +kernel) ⟨Nat.le_of_ble_eq_true rfl, Nat.le_of_ble_eq_true rfl⟩) hK hP hD hS hA rfl hl.1 rfl (Nat.le_of_ble_eq_true rfl) dL_law_456 ⟨by show _ ≤ 601024; omega, by show _ ≤ 7293034; omega⟩ (fun r H locs hr0 hP hD hS => ?_)
  refine lv_istore (lv' := [(6, .int r), (5, .int (nI xq)), (0, .ref b), (1, .ref (ad 0)), (2, .ref (bd 0)), (3, .ref o), (4, .int (nI i))]) hx hb dL_law_459 hl (by decide) rfl (fun ls hl => ?_)
  refine lv_aload_n hx hb dL_law_461 rfl (lv_at hl 4 rfl) ?_
  refine z_cV (qc := (RX3, TX3, 21)) (As := []) (rest := []) (0) F (c_X3_thrown l D k bd M1 O1 (nI (xq))) (cwV 0 hts gL_law_X3_thrown rfl rfl rfl (by decide +kernel) ⟨Nat.le_of_ble_eq_true rfl, Nat.le_of_ble_eq_true rfl⟩) hK (wP_r hP) (by omega) cM_0 rfl rfl hl.1 rfl (Nat.le_of_ble_eq_true rfl) dL_law_462 ⟨by show _ ≤ 601024; omega, by show _ ≤ 7293034; omega⟩ (fun r9 hr9 => ?_)
  subst hr9
  refine lv_iload hx hb dL_law_465 (lv_at hl 1 rfl) ?_
  refine lv_icmp_eq (tgt := 472) hx hb dL_law_467 (by decide) (fun _ => ?_) (fun zz1 => absurd rfl zz1)
  refine lv_iload hx hb dL_law_472 (lv_at hl 1 rfl) ?_
  refine z_ifn_ne (tgt := 496) F (by omega) dL_law_474 (by decide) (fun zc => ?_) (fun zc => ?_)
  · refine lv_goto (tgt := 1755) hx hb dL_law_496 (by decide) ?_
    refine W.widen (k := cells + 6) (n := slots + 35) (by omega) (by omega) ?_
    exact kk _ _ _ _ _ hP hD hS (by rw [had 0 (by omega)]; exact lv_sub hl [2, 3, 4, 5, 6] rfl)
  · have h0 : xq = 0 := by omega
    refine lv_aload_n hx hb dL_law_477 rfl (lv_at hl 5 rfl) ?_
    refine lv_iconst (v := nI 0) hx hb dL_law_478 (by decide) ?_
    refine lw_lald (g := g1) (ad := ad1) (M := M1) (O := O1) F hK hP dL_law_479 ?_
    refine lv_iload hx hb dL_law_480 (lv_at hl 0 rfl) ?_
    refine lv_if_eq (tgt := 489) hx hb dL_law_482 (by decide) (fun zr => ?_) (fun zr => ?_)
    · refine lv_lconst (v := 0) hx hb dL_law_489 (by decide) ?_
      refine W.lcmp hx hb dL_law_490 ?_
      refine lv_if_eq (tgt := 496) hx hb dL_law_491 (by decide) (fun _ => ?_) (fun zz1 => absurd ((lg_cmp_eq _ _).mpr (by rw [hg h0, ← hr0 h0]; exact if_pos zr)) zz1)
      refine lv_goto (tgt := 1755) hx hb dL_law_496 (by decide) ?_
      refine W.widen (k := cells + 6) (n := slots + 35) (by omega) (by omega) ?_
      exact kk _ _ _ _ _ hP hD hS (by rw [had 0 (by omega)]; exact lv_sub hl [2, 3, 4, 5, 6] rfl)
    · refine lv_lconst (v := 1) hx hb dL_law_485 (by decide) ?_
      refine lv_goto (tgt := 490) hx hb dL_law_486 (by decide) ?_
      refine W.lcmp hx hb dL_law_490 ?_
      refine lv_if_eq (tgt := 496) hx hb dL_law_491 (by decide) (fun _ => ?_) (fun zz1 => absurd ((lg_cmp_eq _ _).mpr (by rw [hg h0, ← hr0 h0]; exact if_neg zr)) zz1)
      refine lv_goto (tgt := 1755) hx hb dL_law_496 (by decide) ?_
      refine W.widen (k := cells + 6) (n := slots + 35) (by omega) (by omega) ?_
      exact kk _ _ _ _ _ hP hD hS (by rw [had 0 (by omega)]; exact lv_sub hl [2, 3, 4, 5, 6] rfl)
set_option maxRecDepth 100000 in
set_option maxHeartbeats 2000000 in
theorem lc_nextGap {p : Program} {l : Launch} {e : Env} {s : State} {m : MethodId} {args : Array Value} {below : List Frame} {meth : Method} {c : Code} {cells slots : Nat} {Q : State → Prop} {D : va_G} {k : Nat → ClassId} {sa : Nat → Nat} {b L i : Nat} {xs : Nat → Int32} {ad bd : Nat → Nat} {o : Nat} {g : Nat → Int64} {M M' M1 : Nat → Nat → Nat} {O O' O1 : Nat → Nat → Int32} {th rr : Int32} {xq : Nat} {H : Heap} {locs : List Loc} {ls : Array Slot} (F : CallFix p m c cL_law 7 s args wsL_law RL) (hK : va_K D vwCl (tyL k) s) (hN : lwN s) (hE : zE (fun q => s.heap.size ≤ q) sa s s.heap) (hX : va_X b L xs s s.heap) (hbl : b < s.heap.size) (hi : i + 5 ≤ L) (hL : L ≤ 2560) (hc1 : cells + 6 ≤ 601024) (hc2 : slots + 35 ≤ 7293034) (hP : va_P D vwCl (lX k o g ad M O ++ zw 19 bd (cM k bd M O th)) H) (hD : va_D (fun q => s.heap.size ≤ q) (lX k o g ad M O ++ zw 19 bd (cM k bd M O th))) (hS : va_S (fun q => s.heap.size ≤ q) s.heap H locs) (hl : lv_has ls 7 [(0, .ref b), (1, .ref (ad 0)), (2, .ref (bd 0)), (3, .ref o), (4, .int (nI i))])
    (hcX : vx_Met l yX2_nextGap wsX2_nextGap ({ frames := 8, cells := 3, slots := 18, locals := 124 }) (va_Pc [.ref (ad 0), .int (xs (i + 1)), .int (xs (i + 2)), .int (xs (i + 3))] (zPre D k ad M O H.size sa)) (zQop D k ad M M' O' (va_A (zw (20 + 2 * M 0 1) ad (cX k ad M O)) H.size) xq rr) (zX (fun E => exC E xq)) 3 18 (va_A (zw (20 + 2 * M 0 1) ad (cX k ad M O)) H.size))
    (hcM : ∀ sz : Nat, Met l yX3_nextGap wsX3_nextGap ({ frames := 2, cells := 0, slots := 0, locals := 47 }) (va_Pc [.ref (bd 0), .int (xs (i + 1)), .int (xs (i + 2)), .int (xs (i + 3))] (zG D k 19 bd (cM k bd M O th) sz)) (zQw D k 19 bd (cM k bd M1 O1 (nI (xq))) (va_A (zw 19 bd (cM k bd M O th)) sz) (fun r => xq = 0 → r = rr)) 0 0 (va_A (zw 19 bd (cM k bd M O th)) sz))
    (hq : xq ≤ 3) (h93 : xq ≠ 3) (e1 : xq = 0 → M1 = M' ∧ O1 = O') (e2 : xq ≠ 0 → M1 = M ∧ O1 = O)
    (kk : ∀ (g1 : Nat → Int64) (ad1 : Nat → Nat) (H : Heap) (locs : List Loc) (ls : Array Slot), va_P D vwCl (lX k o g1 ad1 M1 O1 ++ zw 19 bd (cM k bd M1 O1 (nI (xq)))) H → va_D (fun q => s.heap.size ≤ q) (lX k o g1 ad1 M1 O1 ++ zw 19 bd (cM k bd M1 O1 (nI (xq)))) → va_S (fun q => s.heap.size ≤ q) s.heap H locs → lv_has ls 7 [(0, .ref b), (1, .ref (ad1 0)), (2, .ref (bd 0)), (3, .ref o), (4, .int (nI i))] → W p l e room_1 s m args below meth c H locs (cells + 6) (slots + 35) Q (F0 m 1755 ls [])) : W p l e room_1 s m args below meth c H locs cells slots Q (F0 m 499 ls []) := by
  have hx := F.1
  have hb := F.2.1
  have hts := F.2.2.2.2
  have hown := F.2.2.2.1
  have hA : ∀ q : Nat, s.heap.size ≤ q → (fun q => s.heap.size ≤ q) q := fun _ h => h
  have hbA : ¬ (fun q => s.heap.size ≤ q) b := Nat.not_le.mpr hbl
  refine lv_aload_n hx hb dL_law_499 rfl (lv_at hl 1 rfl) ?_
  refine lv_aload_n hx hb dL_law_500 rfl (lv_at hl 0 rfl) ?_
  refine lv_iload hx hb dL_law_501 (lv_at hl 4 rfl) ?_
  refine lv_iconst (v := nI 1) hx hb dL_law_503 (by decide) ?_
  refine z_add F dL_law_504 ?_
  refine lw_sld F hX hbl hbA hS (show i + 1 < L by omega) hL dL_law_505 ?_
  refine lv_aload_n hx hb dL_law_506 rfl (lv_at hl 0 rfl) ?_
  refine lv_iload hx hb dL_law_507 (lv_at hl 4 rfl) ?_
  refine lv_iconst (v := nI 2) hx hb dL_law_509 (by decide) ?_
  refine z_add F dL_law_510 ?_
  refine lw_sld F hX hbl hbA hS (show i + 2 < L by omega) hL dL_law_511 ?_
  refine lv_aload_n hx hb dL_law_512 rfl (lv_at hl 0 rfl) ?_
  refine lv_iload hx hb dL_law_513 (lv_at hl 4 rfl) ?_
  refine lv_iconst (v := nI 3) hx hb dL_law_515 (by decide) ?_
  refine z_add F dL_law_516 ?_
  refine lw_sld F hX hbl hbA hS (show i + 3 < L by omega) hL dL_law_517 ?_
  refine lv_aload_n hx hb dL_law_518 rfl (lv_at hl 3 rfl) ?_
  refine law_X (wb := zw 19 bd (cM k bd M O th)) (As := [.ref (ad 0), .int (xs (i + 1)), .int (xs (i + 2)), .int (xs (i + 3)), .ref o]) (rest := []) F (c_L_nextGap l sa D k ad M O o g H.size (xs (i + 1)) (xs (i + 2)) (xs (i + 3)) hcX h93 e1 e2) (vx_cwSW 5 hts gL_law_L_nextGap rfl rfl rfl (by decide +kernel) ⟨Nat.le_of_ble_eq_true rfl, Nat.le_of_ble_eq_true rfl⟩) hK hN hE hP hD hS hA rfl hl.1 rfl (Nat.le_of_ble_eq_true rfl) dL_law_519 ⟨by show _ ≤ 601024; omega, by show _ ≤ 7293034; omega⟩ (fun ad1 g1 H locs hg had hP hD hS => ?_)
  refine lv_istore (lv' := [(5, .int (nI xq)), (0, .ref b), (1, .ref (ad 0)), (2, .ref (bd 0)), (3, .ref o), (4, .int (nI i))]) hx hb dL_law_522 hl (by decide) rfl (fun ls hl => ?_)
  refine lv_aload_n hx hb dL_law_524 rfl (lv_at hl 3 rfl) ?_
  refine lv_aload_n hx hb dL_law_525 rfl (lv_at hl 1 rfl) ?_
  refine lv_iload hx hb dL_law_526 (lv_at hl 5 rfl) ?_
  refine lv_iconst (v := nI 1) hx hb dL_law_528 (by decide) ?_
  refine z_add F dL_law_529 ?_
  refine lw_sld F hX hbl hbA hS (show i + 1 < L by omega) hL dL_law_530 ?_
  refine lv_aload_n hx hb dL_law_531 rfl (lv_at hl 1 rfl) ?_
  refine lv_iload hx hb dL_law_532 (lv_at hl 5 rfl) ?_
  refine lv_iconst (v := nI 2) hx hb dL_law_534 (by decide) ?_
  refine z_add F dL_law_535 ?_
  refine lw_sld F hX hbl hbA hS (show i + 2 < L by omega) hL dL_law_536 ?_
  refine lv_aload_n hx hb dL_law_537 rfl (lv_at hl 1 rfl) ?_
  refine lv_iload hx hb dL_law_538 (lv_at hl 5 rfl) ?_
  refine lv_iconst (v := nI 3) hx hb dL_law_540 (by decide) ?_
  refine z_add F dL_law_541 ?_
  refine lw_sld F hX hbl hbA hS (show i + 3 < L by omega) hL dL_law_542 ?_
  refine law_M (wb := lX k o g1 ad1 M1 O1) (As := [.int (xs (i + 1)), .int (xs (i + 2)), .int (xs (i + 3))]) (rest := []) F (hcM _) (cwV 3 hts gL_law_X3_nextGap rfl rfl rfl (by decide +kernel) ⟨Nat.le_of_ble_eq_true rfl, Nat.le_of_ble_eq_true rfl⟩) hK hP hD hS hA rfl hl.1 rfl (Nat.le_of_ble_eq_true rfl) dL_law_543 ⟨by show _ ≤ 601024; omega, by show _ ≤ 7293034; omega⟩ (fun r H locs hr0 hP hD hS => ?_)
  refine lv_istore (lv' := [(6, .int r), (5, .int (nI xq)), (0, .ref b), (1, .ref (ad 0)), (2, .ref (bd 0)), (3, .ref o), (4, .int (nI i))]) hx hb dL_law_546 hl (by decide) rfl (fun ls hl => ?_)
  refine lv_aload_n hx hb dL_law_548 rfl (lv_at hl 4 rfl) ?_
  refine z_cV (qc := (RX3, TX3, 21)) (As := []) (rest := []) (0) F (c_X3_thrown l D k bd M1 O1 (nI (xq))) (cwV 0 hts gL_law_X3_thrown rfl rfl rfl (by decide +kernel) ⟨Nat.le_of_ble_eq_true rfl, Nat.le_of_ble_eq_true rfl⟩) hK (wP_r hP) (by omega) cM_0 rfl rfl hl.1 rfl (Nat.le_of_ble_eq_true rfl) dL_law_549 ⟨by show _ ≤ 601024; omega, by show _ ≤ 7293034; omega⟩ (fun r9 hr9 => ?_)
  subst hr9
  refine lv_iload hx hb dL_law_552 (lv_at hl 1 rfl) ?_
  refine lv_icmp_eq (tgt := 559) hx hb dL_law_554 (by decide) (fun _ => ?_) (fun zz1 => absurd rfl zz1)
  refine lv_iload hx hb dL_law_559 (lv_at hl 1 rfl) ?_
  refine z_ifn_ne (tgt := 576) F (by omega) dL_law_561 (by decide) (fun zc => ?_) (fun zc => ?_)
  · refine lv_goto (tgt := 1755) hx hb dL_law_576 (by decide) ?_
    refine W.widen (k := cells + 6) (n := slots + 35) (by omega) (by omega) ?_
    exact kk _ _ _ _ _ hP hD hS (by rw [had 0 (by omega)]; exact lv_sub hl [2, 3, 4, 5, 6] rfl)
  · have h0 : xq = 0 := by omega
    refine lv_aload_n hx hb dL_law_564 rfl (lv_at hl 5 rfl) ?_
    refine lv_iconst (v := nI 0) hx hb dL_law_565 (by decide) ?_
    refine lw_lald (g := g1) (ad := ad1) (M := M1) (O := O1) F hK hP dL_law_566 ?_
    refine lv_iload hx hb dL_law_567 (lv_at hl 0 rfl) ?_
    refine lv_i2l (v := (r).toInt64) hx hb dL_law_569 rfl ?_
    refine W.lcmp hx hb dL_law_570 ?_
    refine lv_if_eq (tgt := 576) hx hb dL_law_571 (by decide) (fun _ => ?_) (fun zz1 => absurd ((lg_cmp_eq _ _).mpr (by rw [hg h0, hr0 h0])) zz1)
    refine lv_goto (tgt := 1755) hx hb dL_law_576 (by decide) ?_
    refine W.widen (k := cells + 6) (n := slots + 35) (by omega) (by omega) ?_
    exact kk _ _ _ _ _ hP hD hS (by rw [had 0 (by omega)]; exact lv_sub hl [2, 3, 4, 5, 6] rfl)
set_option maxRecDepth 100000 in
set_option maxHeartbeats 2000000 in
theorem lc_pass {p : Program} {l : Launch} {e : Env} {s : State} {m : MethodId} {args : Array Value} {below : List Frame} {meth : Method} {c : Code} {cells slots : Nat} {Q : State → Prop} {D : va_G} {k : Nat → ClassId} {sa : Nat → Nat} {b L i : Nat} {xs : Nat → Int32} {ad bd : Nat → Nat} {o : Nat} {g : Nat → Int64} {M M' M1 : Nat → Nat → Nat} {O O' O1 : Nat → Nat → Int32} {th rr : Int32} {xq : Nat} {H : Heap} {locs : List Loc} {ls : Array Slot} (F : CallFix p m c cL_law 7 s args wsL_law RL) (hK : va_K D vwCl (tyL k) s) (hN : lwN s) (hE : zE (fun q => s.heap.size ≤ q) sa s s.heap) (hX : va_X b L xs s s.heap) (hbl : b < s.heap.size) (hi : i + 5 ≤ L) (hL : L ≤ 2560) (hc1 : cells + 6 ≤ 601024) (hc2 : slots + 35 ≤ 7293034) (hP : va_P D vwCl (lX k o g ad M O ++ zw 19 bd (cM k bd M O th)) H) (hD : va_D (fun q => s.heap.size ≤ q) (lX k o g ad M O ++ zw 19 bd (cM k bd M O th))) (hS : va_S (fun q => s.heap.size ≤ q) s.heap H locs) (hl : lv_has ls 7 [(0, .ref b), (1, .ref (ad 0)), (2, .ref (bd 0)), (3, .ref o), (4, .int (nI i))])
    (hcX : vx_Met l yX2_pass wsX2_pass ({ frames := 8, cells := 2, slots := 12, locals := 124 }) (va_Pc [.ref (ad 0), .int (xs (i + 1))] (zPre D k ad M O H.size sa)) (zQop D k ad M M' O' (va_A (zw (20 + 2 * M 0 1) ad (cX k ad M O)) H.size) xq rr) (zX (fun E => exC E xq)) 2 12 (va_A (zw (20 + 2 * M 0 1) ad (cX k ad M O)) H.size))
    (hcM : ∀ sz : Nat, Met l yX3_pass wsX3_pass ({ frames := 2, cells := 0, slots := 0, locals := 44 }) (va_Pc [.ref (bd 0), .int (xs (i + 1))] (zG D k 19 bd (cM k bd M O th) sz)) (zQw D k 19 bd (cM k bd M1 O1 (nI (xq - 1))) (va_A (zw 19 bd (cM k bd M O th)) sz) (fun r => xq = 0 → r = rr)) 0 0 (va_A (zw 19 bd (cM k bd M O th)) sz))
    (hq : xq ≤ 3) (h91 : xq ≠ 1) (e1 : xq = 0 → M1 = M' ∧ O1 = O') (e2 : xq ≠ 0 → M1 = M ∧ O1 = O)
    (kk : ∀ (g1 : Nat → Int64) (ad1 : Nat → Nat) (H : Heap) (locs : List Loc) (ls : Array Slot), va_P D vwCl (lX k o g1 ad1 M1 O1 ++ zw 19 bd (cM k bd M1 O1 (nI (xq - 1)))) H → va_D (fun q => s.heap.size ≤ q) (lX k o g1 ad1 M1 O1 ++ zw 19 bd (cM k bd M1 O1 (nI (xq - 1)))) → va_S (fun q => s.heap.size ≤ q) s.heap H locs → lv_has ls 7 [(0, .ref b), (1, .ref (ad1 0)), (2, .ref (bd 0)), (3, .ref o), (4, .int (nI i))] → W p l e room_1 s m args below meth c H locs (cells + 6) (slots + 35) Q (F0 m 1755 ls [])) : W p l e room_1 s m args below meth c H locs cells slots Q (F0 m 579 ls []) := by
  have hx := F.1
  have hb := F.2.1
  have hts := F.2.2.2.2
  have hown := F.2.2.2.1
  have hA : ∀ q : Nat, s.heap.size ≤ q → (fun q => s.heap.size ≤ q) q := fun _ h => h
  have hbA : ¬ (fun q => s.heap.size ≤ q) b := Nat.not_le.mpr hbl
  refine lv_aload_n hx hb dL_law_579 rfl (lv_at hl 1 rfl) ?_
  refine lv_aload_n hx hb dL_law_580 rfl (lv_at hl 0 rfl) ?_
  refine lv_iload hx hb dL_law_581 (lv_at hl 4 rfl) ?_
  refine lv_iconst (v := nI 1) hx hb dL_law_583 (by decide) ?_
  refine z_add F dL_law_584 ?_
  refine lw_sld F hX hbl hbA hS (show i + 1 < L by omega) hL dL_law_585 ?_
  refine lv_aload_n hx hb dL_law_586 rfl (lv_at hl 3 rfl) ?_
  refine law_X (wb := zw 19 bd (cM k bd M O th)) (As := [.ref (ad 0), .int (xs (i + 1)), .ref o]) (rest := []) F (c_L_pass l sa D k ad M O o g H.size (xs (i + 1)) hcX h91 e1 e2) (vx_cwSW 3 hts gL_law_L_pass rfl rfl rfl (by decide +kernel) ⟨Nat.le_of_ble_eq_true rfl, Nat.le_of_ble_eq_true rfl⟩) hK hN hE hP hD hS hA rfl hl.1 rfl (Nat.le_of_ble_eq_true rfl) dL_law_587 ⟨by show _ ≤ 601024; omega, by show _ ≤ 7293034; omega⟩ (fun ad1 g1 H locs hg had hP hD hS => ?_)
  refine lv_istore (lv' := [(5, .int (nI (xq - 1))), (0, .ref b), (1, .ref (ad 0)), (2, .ref (bd 0)), (3, .ref o), (4, .int (nI i))]) hx hb dL_law_590 hl (by decide) rfl (fun ls hl => ?_)
  refine lv_aload_n hx hb dL_law_592 rfl (lv_at hl 3 rfl) ?_
  refine lv_aload_n hx hb dL_law_593 rfl (lv_at hl 1 rfl) ?_
  refine lv_iload hx hb dL_law_594 (lv_at hl 5 rfl) ?_
  refine lv_iconst (v := nI 1) hx hb dL_law_596 (by decide) ?_
  refine z_add F dL_law_597 ?_
  refine lw_sld F hX hbl hbA hS (show i + 1 < L by omega) hL dL_law_598 ?_
  refine law_M (wb := lX k o g1 ad1 M1 O1) (As := [.int (xs (i + 1))]) (rest := []) F (hcM _) (cwV 1 hts gL_law_X3_pass rfl rfl rfl (by decide +kernel) ⟨Nat.le_of_ble_eq_true rfl, Nat.le_of_ble_eq_true rfl⟩) hK hP hD hS hA rfl hl.1 rfl (Nat.le_of_ble_eq_true rfl) dL_law_599 ⟨by show _ ≤ 601024; omega, by show _ ≤ 7293034; omega⟩ (fun r H locs hr0 hP hD hS => ?_)
  refine lv_istore (lv' := [(6, .int r), (5, .int (nI (xq - 1))), (0, .ref b), (1, .ref (ad 0)), (2, .ref (bd 0)), (3, .ref o), (4, .int (nI i))]) hx hb dL_law_602 hl (by decide) rfl (fun ls hl => ?_)
  refine lv_aload_n hx hb dL_law_604 rfl (lv_at hl 4 rfl) ?_
  refine z_cV (qc := (RX3, TX3, 21)) (As := []) (rest := []) (0) F (c_X3_thrown l D k bd M1 O1 (nI (xq - 1))) (cwV 0 hts gL_law_X3_thrown rfl rfl rfl (by decide +kernel) ⟨Nat.le_of_ble_eq_true rfl, Nat.le_of_ble_eq_true rfl⟩) hK (wP_r hP) (by omega) cM_0 rfl rfl hl.1 rfl (Nat.le_of_ble_eq_true rfl) dL_law_605 ⟨by show _ ≤ 601024; omega, by show _ ≤ 7293034; omega⟩ (fun r9 hr9 => ?_)
  subst hr9
  refine lv_iload hx hb dL_law_608 (lv_at hl 1 rfl) ?_
  refine lv_icmp_eq (tgt := 615) hx hb dL_law_610 (by decide) (fun _ => ?_) (fun zz1 => absurd rfl zz1)
  refine lv_iload hx hb dL_law_615 (lv_at hl 1 rfl) ?_
  refine z_ifn_ne (tgt := 632) F (by omega) dL_law_617 (by decide) (fun zc => ?_) (fun zc => ?_)
  · refine lv_goto (tgt := 1755) hx hb dL_law_632 (by decide) ?_
    refine W.widen (k := cells + 6) (n := slots + 35) (by omega) (by omega) ?_
    exact kk _ _ _ _ _ hP hD hS (by rw [had 0 (by omega)]; exact lv_sub hl [2, 3, 4, 5, 6] rfl)
  · have h0 : xq = 0 := by omega
    refine lv_aload_n hx hb dL_law_620 rfl (lv_at hl 5 rfl) ?_
    refine lv_iconst (v := nI 0) hx hb dL_law_621 (by decide) ?_
    refine lw_lald (g := g1) (ad := ad1) (M := M1) (O := O1) F hK hP dL_law_622 ?_
    refine lv_iload hx hb dL_law_623 (lv_at hl 0 rfl) ?_
    refine lv_i2l (v := (r).toInt64) hx hb dL_law_625 rfl ?_
    refine W.lcmp hx hb dL_law_626 ?_
    refine lv_if_eq (tgt := 632) hx hb dL_law_627 (by decide) (fun _ => ?_) (fun zz1 => absurd ((lg_cmp_eq _ _).mpr (by rw [hg h0, hr0 h0])) zz1)
    refine lv_goto (tgt := 1755) hx hb dL_law_632 (by decide) ?_
    refine W.widen (k := cells + 6) (n := slots + 35) (by omega) (by omega) ?_
    exact kk _ _ _ _ _ hP hD hS (by rw [had 0 (by omega)]; exact lv_sub hl [2, 3, 4, 5, 6] rfl)
set_option maxRecDepth 100000 in
set_option maxHeartbeats 2000000 in
theorem lc_time {p : Program} {l : Launch} {e : Env} {s : State} {m : MethodId} {args : Array Value} {below : List Frame} {meth : Method} {c : Code} {cells slots : Nat} {Q : State → Prop} {D : va_G} {k : Nat → ClassId} {sa : Nat → Nat} {b L i : Nat} {xs : Nat → Int32} {ad bd : Nat → Nat} {o : Nat} {g : Nat → Int64} {M M' M1 : Nat → Nat → Nat} {O O' O1 : Nat → Nat → Int32} {th rr : Int32} {xq : Nat} {H : Heap} {locs : List Loc} {ls : Array Slot} (F : CallFix p m c cL_law 7 s args wsL_law RL) (hK : va_K D vwCl (tyL k) s) (hN : lwN s) (hE : zE (fun q => s.heap.size ≤ q) sa s s.heap) (hX : va_X b L xs s s.heap) (hbl : b < s.heap.size) (hi : i + 5 ≤ L) (hL : L ≤ 2560) (hc1 : cells + 6 ≤ 601024) (hc2 : slots + 35 ≤ 7293034) (hP : va_P D vwCl (lX k o g ad M O ++ zw 19 bd (cM k bd M O th)) H) (hD : va_D (fun q => s.heap.size ≤ q) (lX k o g ad M O ++ zw 19 bd (cM k bd M O th))) (hS : va_S (fun q => s.heap.size ≤ q) s.heap H locs) (hl : lv_has ls 7 [(0, .ref b), (1, .ref (ad 0)), (2, .ref (bd 0)), (3, .ref o), (4, .int (nI i))])
    (hcX : vx_Met l yX2_time wsX2_time ({ frames := 0, cells := 0, slots := 0, locals := 0 }) (va_Pc [.ref (ad 0)] (zPre D k ad M O H.size sa)) (zQop D k ad M M O (va_A (zw (20 + 2 * M 0 1) ad (cX k ad M O)) H.size) xq rr) (zX (fun E => exC E xq)) 0 0 (va_A (zw (20 + 2 * M 0 1) ad (cX k ad M O)) H.size))
    (hcM : ∀ sz : Nat, Met l yX3_time wsX3_time ({ frames := 1, cells := 0, slots := 0, locals := 21 }) (va_Pc [.ref (bd 0)] (zG D k 19 bd (cM k bd M O th) sz)) (zQw D k 19 bd (cM k bd M O (nI xq)) (va_A (zw 19 bd (cM k bd M O th)) sz) (fun r => xq = 0 → r = rr)) 0 0 (va_A (zw 19 bd (cM k bd M O th)) sz))
    (hq : xq = 0)
    (kk : ∀ (g1 : Nat → Int64) (ad1 : Nat → Nat) (H : Heap) (locs : List Loc) (ls : Array Slot), va_P D vwCl (lX k o g1 ad1 M O ++ zw 19 bd (cM k bd M O (nI xq))) H → va_D (fun q => s.heap.size ≤ q) (lX k o g1 ad1 M O ++ zw 19 bd (cM k bd M O (nI xq))) → va_S (fun q => s.heap.size ≤ q) s.heap H locs → lv_has ls 7 [(0, .ref b), (1, .ref (ad1 0)), (2, .ref (bd 0)), (3, .ref o), (4, .int (nI i))] → W p l e room_1 s m args below meth c H locs (cells + 6) (slots + 35) Q (F0 m 1755 ls [])) : W p l e room_1 s m args below meth c H locs cells slots Q (F0 m 635 ls []) := by
  have hx := F.1
  have hb := F.2.1
  have hts := F.2.2.2.2
  have hown := F.2.2.2.1
  have hA : ∀ q : Nat, s.heap.size ≤ q → (fun q => s.heap.size ≤ q) q := fun _ h => h
  have hbA : ¬ (fun q => s.heap.size ≤ q) b := Nat.not_le.mpr hbl
  rw [List.append_assoc] at hP hD
  refine lv_aload_n hx hb dL_law_635 rfl (lv_at hl 1 rfl) ?_
  refine lx_call (As := []) (rest := []) F hcX (cwV 0 hts gL_law_X2_time rfl rfl rfl (by decide +kernel) ⟨Nat.le_of_ble_eq_true rfl, Nat.le_of_ble_eq_true rfl⟩) hK hP hD hS hA hE rfl hl.1 rfl (Nat.le_of_ble_eq_true rfl) dL_law_636 ⟨by show _ ≤ 601024; omega, by show _ ≤ 7293034; omega⟩ (fun E ce q9 H1 locs1 hEx _ _ _ _ _ => ?_) (fun ad1 H locs h0 had hP hD hS => ?_)
  · exact absurd hEx (fun zz1 => by rcases zz1 with ⟨h1, _⟩ | ⟨h1, _⟩ | ⟨h1, _⟩ <;> omega)
  · rw [← List.append_assoc] at hP hD
    refine lv_aload_n hx hb dL_law_639 rfl (lv_at hl 2 rfl) ?_
    refine law_M (wb := lX k o g ad1 M O) (As := []) (rest := [.int rr]) F (hcM _) (cwV 0 hts gL_law_X3_time rfl rfl rfl (by decide +kernel) ⟨Nat.le_of_ble_eq_true rfl, Nat.le_of_ble_eq_true rfl⟩) hK hP hD hS hA rfl hl.1 rfl (Nat.le_of_ble_eq_true rfl) dL_law_640 ⟨by show _ ≤ 601024; omega, by show _ ≤ 7293034; omega⟩ (fun r H locs hr0 hP hD hS => ?_)
    refine lv_icmp_eq (tgt := 1755) hx hb dL_law_643 (by decide) (fun _ => ?_) (fun zz1 => absurd (hr0 hq).symm zz1)
    refine W.widen (k := cells + 6) (n := slots + 35) (by omega) (by omega) ?_
    exact kk _ _ _ _ _ hP hD hS (by rw [had 0 (by omega)]; exact lv_sub hl [0, 1, 2, 3, 4] rfl)
set_option maxRecDepth 100000 in
set_option maxHeartbeats 2000000 in
theorem lc_hours {p : Program} {l : Launch} {e : Env} {s : State} {m : MethodId} {args : Array Value} {below : List Frame} {meth : Method} {c : Code} {cells slots : Nat} {Q : State → Prop} {D : va_G} {k : Nat → ClassId} {sa : Nat → Nat} {b L i : Nat} {xs : Nat → Int32} {ad bd : Nat → Nat} {o : Nat} {g : Nat → Int64} {M M' M1 : Nat → Nat → Nat} {O O' O1 : Nat → Nat → Int32} {th rr : Int32} {xq : Nat} {H : Heap} {locs : List Loc} {ls : Array Slot} (F : CallFix p m c cL_law 7 s args wsL_law RL) (hK : va_K D vwCl (tyL k) s) (hN : lwN s) (hE : zE (fun q => s.heap.size ≤ q) sa s s.heap) (hX : va_X b L xs s s.heap) (hbl : b < s.heap.size) (hi : i + 5 ≤ L) (hL : L ≤ 2560) (hc1 : cells + 6 ≤ 601024) (hc2 : slots + 35 ≤ 7293034) (hP : va_P D vwCl (lX k o g ad M O ++ zw 19 bd (cM k bd M O th)) H) (hD : va_D (fun q => s.heap.size ≤ q) (lX k o g ad M O ++ zw 19 bd (cM k bd M O th))) (hS : va_S (fun q => s.heap.size ≤ q) s.heap H locs) (hl : lv_has ls 7 [(0, .ref b), (1, .ref (ad 0)), (2, .ref (bd 0)), (3, .ref o), (4, .int (nI i))])
    (hcX : vx_Met l yX2_hours wsX2_hours ({ frames := 8, cells := 3, slots := 18, locals := 124 }) (va_Pc [.ref (ad 0), .int (xs (i + 1)), .int (xs (i + 2)), .int (xs (i + 3))] (zPre D k ad M O H.size sa)) (zQop D k ad M M' O' (va_A (zw (20 + 2 * M 0 1) ad (cX k ad M O)) H.size) xq rr) (zX (fun E => exC E xq)) 3 18 (va_A (zw (20 + 2 * M 0 1) ad (cX k ad M O)) H.size))
    (hcM : ∀ sz : Nat, Met l yX3_hours wsX3_hours ({ frames := 2, cells := 0, slots := 0, locals := 44 }) (va_Pc [.ref (bd 0), .int (xs (i + 1)), .int (xs (i + 2)), .int (xs (i + 3))] (zG D k 19 bd (cM k bd M O th) sz)) (zQw D k 19 bd (cM k bd M1 O1 (nI (xq))) (va_A (zw 19 bd (cM k bd M O th)) sz) (fun r => xq = 0 → r = rr)) 0 0 (va_A (zw 19 bd (cM k bd M O th)) sz))
    (hq : xq ≤ 3) (h93 : xq ≠ 3) (e1 : xq = 0 → M1 = M' ∧ O1 = O') (e2 : xq ≠ 0 → M1 = M ∧ O1 = O)
    (kk : ∀ (g1 : Nat → Int64) (ad1 : Nat → Nat) (H : Heap) (locs : List Loc) (ls : Array Slot), va_P D vwCl (lX k o g1 ad1 M1 O1 ++ zw 19 bd (cM k bd M1 O1 (nI (xq)))) H → va_D (fun q => s.heap.size ≤ q) (lX k o g1 ad1 M1 O1 ++ zw 19 bd (cM k bd M1 O1 (nI (xq)))) → va_S (fun q => s.heap.size ≤ q) s.heap H locs → lv_has ls 7 [(0, .ref b), (1, .ref (ad1 0)), (2, .ref (bd 0)), (3, .ref o), (4, .int (nI i))] → W p l e room_1 s m args below meth c H locs (cells + 6) (slots + 35) Q (F0 m 1755 ls [])) : W p l e room_1 s m args below meth c H locs cells slots Q (F0 m 648 ls []) := by
  have hx := F.1
  have hb := F.2.1
  have hts := F.2.2.2.2
  have hown := F.2.2.2.1
  have hA : ∀ q : Nat, s.heap.size ≤ q → (fun q => s.heap.size ≤ q) q := fun _ h => h
  have hbA : ¬ (fun q => s.heap.size ≤ q) b := Nat.not_le.mpr hbl
  refine lv_aload_n hx hb dL_law_648 rfl (lv_at hl 1 rfl) ?_
  refine lv_aload_n hx hb dL_law_649 rfl (lv_at hl 0 rfl) ?_
  refine lv_iload hx hb dL_law_650 (lv_at hl 4 rfl) ?_
  refine lv_iconst (v := nI 1) hx hb dL_law_652 (by decide) ?_
  refine z_add F dL_law_653 ?_
  refine lw_sld F hX hbl hbA hS (show i + 1 < L by omega) hL dL_law_654 ?_
  refine lv_aload_n hx hb dL_law_655 rfl (lv_at hl 0 rfl) ?_
  refine lv_iload hx hb dL_law_656 (lv_at hl 4 rfl) ?_
  refine lv_iconst (v := nI 2) hx hb dL_law_658 (by decide) ?_
  refine z_add F dL_law_659 ?_
  refine lw_sld F hX hbl hbA hS (show i + 2 < L by omega) hL dL_law_660 ?_
  refine lv_aload_n hx hb dL_law_661 rfl (lv_at hl 0 rfl) ?_
  refine lv_iload hx hb dL_law_662 (lv_at hl 4 rfl) ?_
  refine lv_iconst (v := nI 3) hx hb dL_law_664 (by decide) ?_
  refine z_add F dL_law_665 ?_
  refine lw_sld F hX hbl hbA hS (show i + 3 < L by omega) hL dL_law_666 ?_
  refine lv_aload_n hx hb dL_law_667 rfl (lv_at hl 3 rfl) ?_
  refine law_X (wb := zw 19 bd (cM k bd M O th)) (As := [.ref (ad 0), .int (xs (i + 1)), .int (xs (i + 2)), .int (xs (i + 3)), .ref o]) (rest := []) F (c_L_hours l sa D k ad M O o g H.size (xs (i + 1)) (xs (i + 2)) (xs (i + 3)) hcX h93 e1 e2) (vx_cwSW 5 hts gL_law_L_hours rfl rfl rfl (by decide +kernel) ⟨Nat.le_of_ble_eq_true rfl, Nat.le_of_ble_eq_true rfl⟩) hK hN hE hP hD hS hA rfl hl.1 rfl (Nat.le_of_ble_eq_true rfl) dL_law_668 ⟨by show _ ≤ 601024; omega, by show _ ≤ 7293034; omega⟩ (fun ad1 g1 H locs hg had hP hD hS => ?_)
  refine lv_istore (lv' := [(5, .int (nI xq)), (0, .ref b), (1, .ref (ad 0)), (2, .ref (bd 0)), (3, .ref o), (4, .int (nI i))]) hx hb dL_law_671 hl (by decide) rfl (fun ls hl => ?_)
  refine lv_aload_n hx hb dL_law_673 rfl (lv_at hl 3 rfl) ?_
  refine lv_aload_n hx hb dL_law_674 rfl (lv_at hl 1 rfl) ?_
  refine lv_iload hx hb dL_law_675 (lv_at hl 5 rfl) ?_
  refine lv_iconst (v := nI 1) hx hb dL_law_677 (by decide) ?_
  refine z_add F dL_law_678 ?_
  refine lw_sld F hX hbl hbA hS (show i + 1 < L by omega) hL dL_law_679 ?_
  refine lv_aload_n hx hb dL_law_680 rfl (lv_at hl 1 rfl) ?_
  refine lv_iload hx hb dL_law_681 (lv_at hl 5 rfl) ?_
  refine lv_iconst (v := nI 2) hx hb dL_law_683 (by decide) ?_
  refine z_add F dL_law_684 ?_
  refine lw_sld F hX hbl hbA hS (show i + 2 < L by omega) hL dL_law_685 ?_
  refine lv_aload_n hx hb dL_law_686 rfl (lv_at hl 1 rfl) ?_
  refine lv_iload hx hb dL_law_687 (lv_at hl 5 rfl) ?_
  refine lv_iconst (v := nI 3) hx hb dL_law_689 (by decide) ?_
  refine z_add F dL_law_690 ?_
  refine lw_sld F hX hbl hbA hS (show i + 3 < L by omega) hL dL_law_691 ?_
  refine law_M (wb := lX k o g1 ad1 M1 O1) (As := [.int (xs (i + 1)), .int (xs (i + 2)), .int (xs (i + 3))]) (rest := []) F (hcM _) (cwV 3 hts gL_law_X3_hours rfl rfl rfl (by decide +kernel) ⟨Nat.le_of_ble_eq_true rfl, Nat.le_of_ble_eq_true rfl⟩) hK hP hD hS hA rfl hl.1 rfl (Nat.le_of_ble_eq_true rfl) dL_law_692 ⟨by show _ ≤ 601024; omega, by show _ ≤ 7293034; omega⟩ (fun r H locs hr0 hP hD hS => ?_)
  refine lv_istore (lv' := [(6, .int r), (5, .int (nI xq)), (0, .ref b), (1, .ref (ad 0)), (2, .ref (bd 0)), (3, .ref o), (4, .int (nI i))]) hx hb dL_law_695 hl (by decide) rfl (fun ls hl => ?_)
  refine lv_aload_n hx hb dL_law_697 rfl (lv_at hl 4 rfl) ?_
  refine z_cV (qc := (RX3, TX3, 21)) (As := []) (rest := []) (0) F (c_X3_thrown l D k bd M1 O1 (nI (xq))) (cwV 0 hts gL_law_X3_thrown rfl rfl rfl (by decide +kernel) ⟨Nat.le_of_ble_eq_true rfl, Nat.le_of_ble_eq_true rfl⟩) hK (wP_r hP) (by omega) cM_0 rfl rfl hl.1 rfl (Nat.le_of_ble_eq_true rfl) dL_law_698 ⟨by show _ ≤ 601024; omega, by show _ ≤ 7293034; omega⟩ (fun r9 hr9 => ?_)
  subst hr9
  refine lv_iload hx hb dL_law_701 (lv_at hl 1 rfl) ?_
  refine lv_icmp_eq (tgt := 708) hx hb dL_law_703 (by decide) (fun _ => ?_) (fun zz1 => absurd rfl zz1)
  refine lv_iload hx hb dL_law_708 (lv_at hl 1 rfl) ?_
  refine z_ifn_ne (tgt := 725) F (by omega) dL_law_710 (by decide) (fun zc => ?_) (fun zc => ?_)
  · refine lv_goto (tgt := 1755) hx hb dL_law_725 (by decide) ?_
    refine W.widen (k := cells + 6) (n := slots + 35) (by omega) (by omega) ?_
    exact kk _ _ _ _ _ hP hD hS (by rw [had 0 (by omega)]; exact lv_sub hl [2, 3, 4, 5, 6] rfl)
  · have h0 : xq = 0 := by omega
    refine lv_aload_n hx hb dL_law_713 rfl (lv_at hl 5 rfl) ?_
    refine lv_iconst (v := nI 0) hx hb dL_law_714 (by decide) ?_
    refine lw_lald (g := g1) (ad := ad1) (M := M1) (O := O1) F hK hP dL_law_715 ?_
    refine lv_iload hx hb dL_law_716 (lv_at hl 0 rfl) ?_
    refine lv_i2l (v := (r).toInt64) hx hb dL_law_718 rfl ?_
    refine W.lcmp hx hb dL_law_719 ?_
    refine lv_if_eq (tgt := 725) hx hb dL_law_720 (by decide) (fun _ => ?_) (fun zz1 => absurd ((lg_cmp_eq _ _).mpr (by rw [hg h0, hr0 h0])) zz1)
    refine lv_goto (tgt := 1755) hx hb dL_law_725 (by decide) ?_
    refine W.widen (k := cells + 6) (n := slots + 35) (by omega) (by omega) ?_
    exact kk _ _ _ _ _ hP hD hS (by rw [had 0 (by omega)]; exact lv_sub hl [2, 3, 4, 5, 6] rfl)
set_option maxRecDepth 100000 in
set_option maxHeartbeats 2000000 in
theorem lc_hoursOneByOne {p : Program} {l : Launch} {e : Env} {s : State} {m : MethodId} {args : Array Value} {below : List Frame} {meth : Method} {c : Code} {cells slots : Nat} {Q : State → Prop} {D : va_G} {k : Nat → ClassId} {sa : Nat → Nat} {b L i : Nat} {xs : Nat → Int32} {ad bd : Nat → Nat} {o : Nat} {g : Nat → Int64} {M M' M1 : Nat → Nat → Nat} {O O' O1 : Nat → Nat → Int32} {th rr : Int32} {xq : Nat} {H : Heap} {locs : List Loc} {ls : Array Slot} (F : CallFix p m c cL_law 7 s args wsL_law RL) (hK : va_K D vwCl (tyL k) s) (hN : lwN s) (hE : zE (fun q => s.heap.size ≤ q) sa s s.heap) (hX : va_X b L xs s s.heap) (hbl : b < s.heap.size) (hi : i + 5 ≤ L) (hL : L ≤ 2560) (hc1 : cells + 6 ≤ 601024) (hc2 : slots + 35 ≤ 7293034) (hP : va_P D vwCl (lX k o g ad M O ++ zw 19 bd (cM k bd M O th)) H) (hD : va_D (fun q => s.heap.size ≤ q) (lX k o g ad M O ++ zw 19 bd (cM k bd M O th))) (hS : va_S (fun q => s.heap.size ≤ q) s.heap H locs) (hl : lv_has ls 7 [(0, .ref b), (1, .ref (ad 0)), (2, .ref (bd 0)), (3, .ref o), (4, .int (nI i))])
    (hcX : vx_Met l yX2_hoursOneByOne wsX2_hoursOneByOne ({ frames := 8, cells := 3, slots := 18, locals := 124 }) (va_Pc [.ref (ad 0), .int (xs (i + 1)), .int (xs (i + 2)), .int (xs (i + 3))] (zPre D k ad M O H.size sa)) (zQop D k ad M M' O' (va_A (zw (20 + 2 * M 0 1) ad (cX k ad M O)) H.size) xq rr) (zX (fun E => exC E xq)) 3 18 (va_A (zw (20 + 2 * M 0 1) ad (cX k ad M O)) H.size))
    (hcM : ∀ sz : Nat, Met l yX3_hoursOneByOne wsX3_hoursOneByOne ({ frames := 3, cells := 0, slots := 0, locals := 70 }) (va_Pc [.ref (bd 0), .int (xs (i + 1)), .int (xs (i + 2)), .int (xs (i + 3))] (zG D k 19 bd (cM k bd M O th) sz)) (zQw D k 19 bd (cM k bd M1 O1 (nI (xq))) (va_A (zw 19 bd (cM k bd M O th)) sz) (fun r => xq = 0 → r = rr)) 0 0 (va_A (zw 19 bd (cM k bd M O th)) sz))
    (hq : xq ≤ 3) (h93 : xq ≠ 3) (e1 : xq = 0 → M1 = M' ∧ O1 = O') (e2 : xq ≠ 0 → M1 = M ∧ O1 = O)
    (kk : ∀ (g1 : Nat → Int64) (ad1 : Nat → Nat) (H : Heap) (locs : List Loc) (ls : Array Slot), va_P D vwCl (lX k o g1 ad1 M1 O1 ++ zw 19 bd (cM k bd M1 O1 (nI (xq)))) H → va_D (fun q => s.heap.size ≤ q) (lX k o g1 ad1 M1 O1 ++ zw 19 bd (cM k bd M1 O1 (nI (xq)))) → va_S (fun q => s.heap.size ≤ q) s.heap H locs → lv_has ls 7 [(0, .ref b), (1, .ref (ad1 0)), (2, .ref (bd 0)), (3, .ref o), (4, .int (nI i))] → W p l e room_1 s m args below meth c H locs (cells + 6) (slots + 35) Q (F0 m 1755 ls [])) : W p l e room_1 s m args below meth c H locs cells slots Q (F0 m 728 ls []) := by
  have hx := F.1
  have hb := F.2.1
  have hts := F.2.2.2.2
  have hown := F.2.2.2.1
  have hA : ∀ q : Nat, s.heap.size ≤ q → (fun q => s.heap.size ≤ q) q := fun _ h => h
  have hbA : ¬ (fun q => s.heap.size ≤ q) b := Nat.not_le.mpr hbl
  refine lv_aload_n hx hb dL_law_728 rfl (lv_at hl 1 rfl) ?_
  refine lv_aload_n hx hb dL_law_729 rfl (lv_at hl 0 rfl) ?_
  refine lv_iload hx hb dL_law_730 (lv_at hl 4 rfl) ?_
  refine lv_iconst (v := nI 1) hx hb dL_law_732 (by decide) ?_
  refine z_add F dL_law_733 ?_
  refine lw_sld F hX hbl hbA hS (show i + 1 < L by omega) hL dL_law_734 ?_
  refine lv_aload_n hx hb dL_law_735 rfl (lv_at hl 0 rfl) ?_
  refine lv_iload hx hb dL_law_736 (lv_at hl 4 rfl) ?_
  refine lv_iconst (v := nI 2) hx hb dL_law_738 (by decide) ?_
  refine z_add F dL_law_739 ?_
  refine lw_sld F hX hbl hbA hS (show i + 2 < L by omega) hL dL_law_740 ?_
  refine lv_aload_n hx hb dL_law_741 rfl (lv_at hl 0 rfl) ?_
  refine lv_iload hx hb dL_law_742 (lv_at hl 4 rfl) ?_
  refine lv_iconst (v := nI 3) hx hb dL_law_744 (by decide) ?_
  refine z_add F dL_law_745 ?_
  refine lw_sld F hX hbl hbA hS (show i + 3 < L by omega) hL dL_law_746 ?_
  refine lv_aload_n hx hb dL_law_747 rfl (lv_at hl 3 rfl) ?_
  refine law_X (wb := zw 19 bd (cM k bd M O th)) (As := [.ref (ad 0), .int (xs (i + 1)), .int (xs (i + 2)), .int (xs (i + 3)), .ref o]) (rest := []) F (c_L_hoursOneByOne l sa D k ad M O o g H.size (xs (i + 1)) (xs (i + 2)) (xs (i + 3)) hcX h93 e1 e2) (vx_cwSW 5 hts gL_law_L_hoursOneByOne rfl rfl rfl (by decide +kernel) ⟨Nat.le_of_ble_eq_true rfl, Nat.le_of_ble_eq_true rfl⟩) hK hN hE hP hD hS hA rfl hl.1 rfl (Nat.le_of_ble_eq_true rfl) dL_law_748 ⟨by show _ ≤ 601024; omega, by show _ ≤ 7293034; omega⟩ (fun ad1 g1 H locs hg had hP hD hS => ?_)
  refine lv_istore (lv' := [(5, .int (nI xq)), (0, .ref b), (1, .ref (ad 0)), (2, .ref (bd 0)), (3, .ref o), (4, .int (nI i))]) hx hb dL_law_751 hl (by decide) rfl (fun ls hl => ?_)
  refine lv_aload_n hx hb dL_law_753 rfl (lv_at hl 3 rfl) ?_
  refine lv_aload_n hx hb dL_law_754 rfl (lv_at hl 1 rfl) ?_
  refine lv_iload hx hb dL_law_755 (lv_at hl 5 rfl) ?_
  refine lv_iconst (v := nI 1) hx hb dL_law_757 (by decide) ?_
  refine z_add F dL_law_758 ?_
  refine lw_sld F hX hbl hbA hS (show i + 1 < L by omega) hL dL_law_759 ?_
  refine lv_aload_n hx hb dL_law_760 rfl (lv_at hl 1 rfl) ?_
  refine lv_iload hx hb dL_law_761 (lv_at hl 5 rfl) ?_
  refine lv_iconst (v := nI 2) hx hb dL_law_763 (by decide) ?_
  refine z_add F dL_law_764 ?_
  refine lw_sld F hX hbl hbA hS (show i + 2 < L by omega) hL dL_law_765 ?_
  refine lv_aload_n hx hb dL_law_766 rfl (lv_at hl 1 rfl) ?_
  refine lv_iload hx hb dL_law_767 (lv_at hl 5 rfl) ?_
  refine lv_iconst (v := nI 3) hx hb dL_law_769 (by decide) ?_
  refine z_add F dL_law_770 ?_
  refine lw_sld F hX hbl hbA hS (show i + 3 < L by omega) hL dL_law_771 ?_
  refine law_M (wb := lX k o g1 ad1 M1 O1) (As := [.int (xs (i + 1)), .int (xs (i + 2)), .int (xs (i + 3))]) (rest := []) F (hcM _) (cwV 3 hts gL_law_X3_hoursOneByOne rfl rfl rfl (by decide +kernel) ⟨Nat.le_of_ble_eq_true rfl, Nat.le_of_ble_eq_true rfl⟩) hK hP hD hS hA rfl hl.1 rfl (Nat.le_of_ble_eq_true rfl) dL_law_772 ⟨by show _ ≤ 601024; omega, by show _ ≤ 7293034; omega⟩ (fun r H locs hr0 hP hD hS => ?_)
  refine lv_istore (lv' := [(6, .int r), (5, .int (nI xq)), (0, .ref b), (1, .ref (ad 0)), (2, .ref (bd 0)), (3, .ref o), (4, .int (nI i))]) hx hb dL_law_775 hl (by decide) rfl (fun ls hl => ?_)
  refine lv_aload_n hx hb dL_law_777 rfl (lv_at hl 4 rfl) ?_
  refine z_cV (qc := (RX3, TX3, 21)) (As := []) (rest := []) (0) F (c_X3_thrown l D k bd M1 O1 (nI (xq))) (cwV 0 hts gL_law_X3_thrown rfl rfl rfl (by decide +kernel) ⟨Nat.le_of_ble_eq_true rfl, Nat.le_of_ble_eq_true rfl⟩) hK (wP_r hP) (by omega) cM_0 rfl rfl hl.1 rfl (Nat.le_of_ble_eq_true rfl) dL_law_778 ⟨by show _ ≤ 601024; omega, by show _ ≤ 7293034; omega⟩ (fun r9 hr9 => ?_)
  subst hr9
  refine lv_iload hx hb dL_law_781 (lv_at hl 1 rfl) ?_
  refine lv_icmp_eq (tgt := 788) hx hb dL_law_783 (by decide) (fun _ => ?_) (fun zz1 => absurd rfl zz1)
  refine lv_iload hx hb dL_law_788 (lv_at hl 1 rfl) ?_
  refine z_ifn_ne (tgt := 805) F (by omega) dL_law_790 (by decide) (fun zc => ?_) (fun zc => ?_)
  · refine lv_goto (tgt := 1755) hx hb dL_law_805 (by decide) ?_
    refine W.widen (k := cells + 6) (n := slots + 35) (by omega) (by omega) ?_
    exact kk _ _ _ _ _ hP hD hS (by rw [had 0 (by omega)]; exact lv_sub hl [2, 3, 4, 5, 6] rfl)
  · have h0 : xq = 0 := by omega
    refine lv_aload_n hx hb dL_law_793 rfl (lv_at hl 5 rfl) ?_
    refine lv_iconst (v := nI 0) hx hb dL_law_794 (by decide) ?_
    refine lw_lald (g := g1) (ad := ad1) (M := M1) (O := O1) F hK hP dL_law_795 ?_
    refine lv_iload hx hb dL_law_796 (lv_at hl 0 rfl) ?_
    refine lv_i2l (v := (r).toInt64) hx hb dL_law_798 rfl ?_
    refine W.lcmp hx hb dL_law_799 ?_
    refine lv_if_eq (tgt := 805) hx hb dL_law_800 (by decide) (fun _ => ?_) (fun zz1 => absurd ((lg_cmp_eq _ _).mpr (by rw [hg h0, hr0 h0])) zz1)
    refine lv_goto (tgt := 1755) hx hb dL_law_805 (by decide) ?_
    refine W.widen (k := cells + 6) (n := slots + 35) (by omega) (by omega) ?_
    exact kk _ _ _ _ _ hP hD hS (by rw [had 0 (by omega)]; exact lv_sub hl [2, 3, 4, 5, 6] rfl)
set_option maxRecDepth 100000 in
set_option maxHeartbeats 2000000 in
theorem lc_open {p : Program} {l : Launch} {e : Env} {s : State} {m : MethodId} {args : Array Value} {below : List Frame} {meth : Method} {c : Code} {cells slots : Nat} {Q : State → Prop} {D : va_G} {k : Nat → ClassId} {sa : Nat → Nat} {b L i : Nat} {xs : Nat → Int32} {ad bd : Nat → Nat} {o : Nat} {g : Nat → Int64} {M M' M1 : Nat → Nat → Nat} {O O' O1 : Nat → Nat → Int32} {th rr : Int32} {xq : Nat} {H : Heap} {locs : List Loc} {ls : Array Slot} (F : CallFix p m c cL_law 7 s args wsL_law RL) (hK : va_K D vwCl (tyL k) s) (hN : lwN s) (hE : zE (fun q => s.heap.size ≤ q) sa s s.heap) (hX : va_X b L xs s s.heap) (hbl : b < s.heap.size) (hi : i + 5 ≤ L) (hL : L ≤ 2560) (hc1 : cells + 6 ≤ 601024) (hc2 : slots + 35 ≤ 7293034) (hP : va_P D vwCl (lX k o g ad M O ++ zw 19 bd (cM k bd M O th)) H) (hD : va_D (fun q => s.heap.size ≤ q) (lX k o g ad M O ++ zw 19 bd (cM k bd M O th))) (hS : va_S (fun q => s.heap.size ≤ q) s.heap H locs) (hl : lv_has ls 7 [(0, .ref b), (1, .ref (ad 0)), (2, .ref (bd 0)), (3, .ref o), (4, .int (nI i))])
    (hcX : vx_Met l yX2_open wsX2_open ({ frames := 8, cells := 6, slots := 35, locals := 124 }) (va_Pc [.ref (ad 0), .int (xs (i + 1)), .int (xs (i + 2)), .int (xs (i + 3))] (zPre D k ad M O H.size sa)) (zQop D k ad M M' O' (va_A (zw (20 + 2 * M 0 1) ad (cX k ad M O)) H.size) xq rr) (zX (fun E => exC E xq)) 6 35 (va_A (zw (20 + 2 * M 0 1) ad (cX k ad M O)) H.size))
    (hcM : ∀ sz : Nat, Met l yX3_open wsX3_open ({ frames := 2, cells := 0, slots := 0, locals := 42 }) (va_Pc [.ref (bd 0), .int (xs (i + 1)), .int (xs (i + 2)), .int (xs (i + 3))] (zG D k 19 bd (cM k bd M O th) sz)) (zQw D k 19 bd (cM k bd M1 O1 (nI (xq))) (va_A (zw 19 bd (cM k bd M O th)) sz) (fun r => xq = 0 → r = rr)) 0 0 (va_A (zw 19 bd (cM k bd M O th)) sz))
    (hq : xq ≤ 3) (e1 : xq = 0 → M1 = M' ∧ O1 = O') (e2 : xq ≠ 0 → M1 = M ∧ O1 = O)
    (kk : ∀ (g1 : Nat → Int64) (ad1 : Nat → Nat) (H : Heap) (locs : List Loc) (ls : Array Slot), va_P D vwCl (lX k o g1 ad1 M1 O1 ++ zw 19 bd (cM k bd M1 O1 (nI (xq)))) H → va_D (fun q => s.heap.size ≤ q) (lX k o g1 ad1 M1 O1 ++ zw 19 bd (cM k bd M1 O1 (nI (xq)))) → va_S (fun q => s.heap.size ≤ q) s.heap H locs → lv_has ls 7 [(0, .ref b), (1, .ref (ad1 0)), (2, .ref (bd 0)), (3, .ref o), (4, .int (nI i))] → W p l e room_1 s m args below meth c H locs (cells + 6) (slots + 35) Q (F0 m 1755 ls [])) : W p l e room_1 s m args below meth c H locs cells slots Q (F0 m 808 ls []) := by
  have hx := F.1
  have hb := F.2.1
  have hts := F.2.2.2.2
  have hown := F.2.2.2.1
  have hA : ∀ q : Nat, s.heap.size ≤ q → (fun q => s.heap.size ≤ q) q := fun _ h => h
  have hbA : ¬ (fun q => s.heap.size ≤ q) b := Nat.not_le.mpr hbl
  refine lv_aload_n hx hb dL_law_808 rfl (lv_at hl 1 rfl) ?_
  refine lv_aload_n hx hb dL_law_809 rfl (lv_at hl 0 rfl) ?_
  refine lv_iload hx hb dL_law_810 (lv_at hl 4 rfl) ?_
  refine lv_iconst (v := nI 1) hx hb dL_law_812 (by decide) ?_
  refine z_add F dL_law_813 ?_
  refine lw_sld F hX hbl hbA hS (show i + 1 < L by omega) hL dL_law_814 ?_
  refine lv_aload_n hx hb dL_law_815 rfl (lv_at hl 0 rfl) ?_
  refine lv_iload hx hb dL_law_816 (lv_at hl 4 rfl) ?_
  refine lv_iconst (v := nI 2) hx hb dL_law_818 (by decide) ?_
  refine z_add F dL_law_819 ?_
  refine lw_sld F hX hbl hbA hS (show i + 2 < L by omega) hL dL_law_820 ?_
  refine lv_aload_n hx hb dL_law_821 rfl (lv_at hl 0 rfl) ?_
  refine lv_iload hx hb dL_law_822 (lv_at hl 4 rfl) ?_
  refine lv_iconst (v := nI 3) hx hb dL_law_824 (by decide) ?_
  refine z_add F dL_law_825 ?_
  refine lw_sld F hX hbl hbA hS (show i + 3 < L by omega) hL dL_law_826 ?_
  refine lv_aload_n hx hb dL_law_827 rfl (lv_at hl 3 rfl) ?_
  refine law_X (wb := zw 19 bd (cM k bd M O th)) (As := [.ref (ad 0), .int (xs (i + 1)), .int (xs (i + 2)), .int (xs (i + 3)), .ref o]) (rest := []) F (c_L_open l sa D k ad M O o g H.size (xs (i + 1)) (xs (i + 2)) (xs (i + 3)) hcX e1 e2) (vx_cwSW 5 hts gL_law_L_open rfl rfl rfl (by decide +kernel) ⟨Nat.le_of_ble_eq_true rfl, Nat.le_of_ble_eq_true rfl⟩) hK hN hE hP hD hS hA rfl hl.1 rfl (Nat.le_of_ble_eq_true rfl) dL_law_828 ⟨by show _ ≤ 601024; omega, by show _ ≤ 7293034; omega⟩ (fun ad1 g1 H locs hg had hP hD hS => ?_)
  refine lv_istore (lv' := [(5, .int (nI xq)), (0, .ref b), (1, .ref (ad 0)), (2, .ref (bd 0)), (3, .ref o), (4, .int (nI i))]) hx hb dL_law_831 hl (by decide) rfl (fun ls hl => ?_)
  refine lv_aload_n hx hb dL_law_833 rfl (lv_at hl 3 rfl) ?_
  refine lv_aload_n hx hb dL_law_834 rfl (lv_at hl 1 rfl) ?_
  refine lv_iload hx hb dL_law_835 (lv_at hl 5 rfl) ?_
  refine lv_iconst (v := nI 1) hx hb dL_law_837 (by decide) ?_
  refine z_add F dL_law_838 ?_
  refine lw_sld F hX hbl hbA hS (show i + 1 < L by omega) hL dL_law_839 ?_
  refine lv_aload_n hx hb dL_law_840 rfl (lv_at hl 1 rfl) ?_
  refine lv_iload hx hb dL_law_841 (lv_at hl 5 rfl) ?_
  refine lv_iconst (v := nI 2) hx hb dL_law_843 (by decide) ?_
  refine z_add F dL_law_844 ?_
  refine lw_sld F hX hbl hbA hS (show i + 2 < L by omega) hL dL_law_845 ?_
  refine lv_aload_n hx hb dL_law_846 rfl (lv_at hl 1 rfl) ?_
  refine lv_iload hx hb dL_law_847 (lv_at hl 5 rfl) ?_
  refine lv_iconst (v := nI 3) hx hb dL_law_849 (by decide) ?_
  refine z_add F dL_law_850 ?_
  refine lw_sld F hX hbl hbA hS (show i + 3 < L by omega) hL dL_law_851 ?_
  refine law_M (wb := lX k o g1 ad1 M1 O1) (As := [.int (xs (i + 1)), .int (xs (i + 2)), .int (xs (i + 3))]) (rest := []) F (hcM _) (cwV 3 hts gL_law_X3_open rfl rfl rfl (by decide +kernel) ⟨Nat.le_of_ble_eq_true rfl, Nat.le_of_ble_eq_true rfl⟩) hK hP hD hS hA rfl hl.1 rfl (Nat.le_of_ble_eq_true rfl) dL_law_852 ⟨by show _ ≤ 601024; omega, by show _ ≤ 7293034; omega⟩ (fun r H locs hr0 hP hD hS => ?_)
  refine lv_istore (lv' := [(6, .int r), (5, .int (nI xq)), (0, .ref b), (1, .ref (ad 0)), (2, .ref (bd 0)), (3, .ref o), (4, .int (nI i))]) hx hb dL_law_855 hl (by decide) rfl (fun ls hl => ?_)
  refine lv_aload_n hx hb dL_law_857 rfl (lv_at hl 4 rfl) ?_
  refine z_cV (qc := (RX3, TX3, 21)) (As := []) (rest := []) (0) F (c_X3_thrown l D k bd M1 O1 (nI (xq))) (cwV 0 hts gL_law_X3_thrown rfl rfl rfl (by decide +kernel) ⟨Nat.le_of_ble_eq_true rfl, Nat.le_of_ble_eq_true rfl⟩) hK (wP_r hP) (by omega) cM_0 rfl rfl hl.1 rfl (Nat.le_of_ble_eq_true rfl) dL_law_858 ⟨by show _ ≤ 601024; omega, by show _ ≤ 7293034; omega⟩ (fun r9 hr9 => ?_)
  subst hr9
  refine lv_iload hx hb dL_law_861 (lv_at hl 1 rfl) ?_
  refine lv_icmp_eq (tgt := 868) hx hb dL_law_863 (by decide) (fun _ => ?_) (fun zz1 => absurd rfl zz1)
  refine lv_iload hx hb dL_law_868 (lv_at hl 1 rfl) ?_
  refine z_ifn_ne (tgt := 885) F (by omega) dL_law_870 (by decide) (fun zc => ?_) (fun zc => ?_)
  · refine lv_goto (tgt := 1755) hx hb dL_law_885 (by decide) ?_
    refine W.widen (k := cells + 6) (n := slots + 35) (by omega) (by omega) ?_
    exact kk _ _ _ _ _ hP hD hS (by rw [had 0 (by omega)]; exact lv_sub hl [2, 3, 4, 5, 6] rfl)
  · have h0 : xq = 0 := by omega
    refine lv_aload_n hx hb dL_law_873 rfl (lv_at hl 5 rfl) ?_
    refine lv_iconst (v := nI 0) hx hb dL_law_874 (by decide) ?_
    refine lw_lald (g := g1) (ad := ad1) (M := M1) (O := O1) F hK hP dL_law_875 ?_
    refine lv_iload hx hb dL_law_876 (lv_at hl 0 rfl) ?_
    refine lv_i2l (v := (r).toInt64) hx hb dL_law_878 rfl ?_
    refine W.lcmp hx hb dL_law_879 ?_
    refine lv_if_eq (tgt := 885) hx hb dL_law_880 (by decide) (fun _ => ?_) (fun zz1 => absurd ((lg_cmp_eq _ _).mpr (by rw [hg h0, hr0 h0])) zz1)
    refine lv_goto (tgt := 1755) hx hb dL_law_885 (by decide) ?_
    refine W.widen (k := cells + 6) (n := slots + 35) (by omega) (by omega) ?_
    exact kk _ _ _ _ _ hP hD hS (by rw [had 0 (by omega)]; exact lv_sub hl [2, 3, 4, 5, 6] rfl)
set_option maxRecDepth 100000 in
set_option maxHeartbeats 2000000 in
theorem lc_reach {p : Program} {l : Launch} {e : Env} {s : State} {m : MethodId} {args : Array Value} {below : List Frame} {meth : Method} {c : Code} {cells slots : Nat} {Q : State → Prop} {D : va_G} {k : Nat → ClassId} {sa : Nat → Nat} {b L i : Nat} {xs : Nat → Int32} {ad bd : Nat → Nat} {o : Nat} {g : Nat → Int64} {M M' M1 : Nat → Nat → Nat} {O O' O1 : Nat → Nat → Int32} {th rr : Int32} {xq : Nat} {H : Heap} {locs : List Loc} {ls : Array Slot} (F : CallFix p m c cL_law 7 s args wsL_law RL) (hK : va_K D vwCl (tyL k) s) (hN : lwN s) (hE : zE (fun q => s.heap.size ≤ q) sa s s.heap) (hX : va_X b L xs s s.heap) (hbl : b < s.heap.size) (hi : i + 5 ≤ L) (hL : L ≤ 2560) (hc1 : cells + 6 ≤ 601024) (hc2 : slots + 35 ≤ 7293034) (hP : va_P D vwCl (lX k o g ad M O ++ zw 19 bd (cM k bd M O th)) H) (hD : va_D (fun q => s.heap.size ≤ q) (lX k o g ad M O ++ zw 19 bd (cM k bd M O th))) (hS : va_S (fun q => s.heap.size ≤ q) s.heap H locs) (hl : lv_has ls 7 [(0, .ref b), (1, .ref (ad 0)), (2, .ref (bd 0)), (3, .ref o), (4, .int (nI i))])
    (hcX : vx_Met l yX2_reach wsX2_reach ({ frames := 8, cells := 3, slots := 18, locals := 124 }) (va_Pc [.ref (ad 0), .int (xs (i + 1)), .int (xs (i + 2))] (zPre D k ad M O H.size sa)) (zQop D k ad M M' O' (va_A (zw (20 + 2 * M 0 1) ad (cX k ad M O)) H.size) xq rr) (zX (fun E => exC E xq)) 3 18 (va_A (zw (20 + 2 * M 0 1) ad (cX k ad M O)) H.size))
    (hcM : ∀ sz : Nat, Met l yX3_reach wsX3_reach ({ frames := 2, cells := 0, slots := 0, locals := 47 }) (va_Pc [.ref (bd 0), .int (xs (i + 1)), .int (xs (i + 2))] (zG D k 19 bd (cM k bd M O th) sz)) (zQw D k 19 bd (cM k bd M1 O1 (nI (xq))) (va_A (zw 19 bd (cM k bd M O th)) sz) (fun r => xq = 0 → r = rr)) 0 0 (va_A (zw 19 bd (cM k bd M O th)) sz))
    (hq : xq ≤ 3) (e1 : xq = 0 → M1 = M' ∧ O1 = O') (e2 : xq ≠ 0 → M1 = M ∧ O1 = O)
    (kk : ∀ (g1 : Nat → Int64) (ad1 : Nat → Nat) (H : Heap) (locs : List Loc) (ls : Array Slot), va_P D vwCl (lX k o g1 ad1 M1 O1 ++ zw 19 bd (cM k bd M1 O1 (nI (xq)))) H → va_D (fun q => s.heap.size ≤ q) (lX k o g1 ad1 M1 O1 ++ zw 19 bd (cM k bd M1 O1 (nI (xq)))) → va_S (fun q => s.heap.size ≤ q) s.heap H locs → lv_has ls 7 [(0, .ref b), (1, .ref (ad1 0)), (2, .ref (bd 0)), (3, .ref o), (4, .int (nI i))] → W p l e room_1 s m args below meth c H locs (cells + 6) (slots + 35) Q (F0 m 1755 ls [])) : W p l e room_1 s m args below meth c H locs cells slots Q (F0 m 888 ls []) := by
  have hx := F.1
  have hb := F.2.1
  have hts := F.2.2.2.2
  have hown := F.2.2.2.1
  have hA : ∀ q : Nat, s.heap.size ≤ q → (fun q => s.heap.size ≤ q) q := fun _ h => h
  have hbA : ¬ (fun q => s.heap.size ≤ q) b := Nat.not_le.mpr hbl
  refine lv_aload_n hx hb dL_law_888 rfl (lv_at hl 1 rfl) ?_
  refine lv_aload_n hx hb dL_law_889 rfl (lv_at hl 0 rfl) ?_
  refine lv_iload hx hb dL_law_890 (lv_at hl 4 rfl) ?_
  refine lv_iconst (v := nI 1) hx hb dL_law_892 (by decide) ?_
  refine z_add F dL_law_893 ?_
  refine lw_sld F hX hbl hbA hS (show i + 1 < L by omega) hL dL_law_894 ?_
  refine lv_aload_n hx hb dL_law_895 rfl (lv_at hl 0 rfl) ?_
  refine lv_iload hx hb dL_law_896 (lv_at hl 4 rfl) ?_
  refine lv_iconst (v := nI 2) hx hb dL_law_898 (by decide) ?_
  refine z_add F dL_law_899 ?_
  refine lw_sld F hX hbl hbA hS (show i + 2 < L by omega) hL dL_law_900 ?_
  refine lv_aload_n hx hb dL_law_901 rfl (lv_at hl 3 rfl) ?_
  refine law_X (wb := zw 19 bd (cM k bd M O th)) (As := [.ref (ad 0), .int (xs (i + 1)), .int (xs (i + 2)), .ref o]) (rest := []) F (c_L_reach l sa D k ad M O o g H.size (xs (i + 1)) (xs (i + 2)) hcX e1 e2) (vx_cwSW 4 hts gL_law_L_reach rfl rfl rfl (by decide +kernel) ⟨Nat.le_of_ble_eq_true rfl, Nat.le_of_ble_eq_true rfl⟩) hK hN hE hP hD hS hA rfl hl.1 rfl (Nat.le_of_ble_eq_true rfl) dL_law_902 ⟨by show _ ≤ 601024; omega, by show _ ≤ 7293034; omega⟩ (fun ad1 g1 H locs hg had hP hD hS => ?_)
  refine lv_istore (lv' := [(5, .int (nI xq)), (0, .ref b), (1, .ref (ad 0)), (2, .ref (bd 0)), (3, .ref o), (4, .int (nI i))]) hx hb dL_law_905 hl (by decide) rfl (fun ls hl => ?_)
  refine lv_aload_n hx hb dL_law_907 rfl (lv_at hl 3 rfl) ?_
  refine lv_aload_n hx hb dL_law_908 rfl (lv_at hl 1 rfl) ?_
  refine lv_iload hx hb dL_law_909 (lv_at hl 5 rfl) ?_
  refine lv_iconst (v := nI 1) hx hb dL_law_911 (by decide) ?_
  refine z_add F dL_law_912 ?_
  refine lw_sld F hX hbl hbA hS (show i + 1 < L by omega) hL dL_law_913 ?_
  refine lv_aload_n hx hb dL_law_914 rfl (lv_at hl 1 rfl) ?_
  refine lv_iload hx hb dL_law_915 (lv_at hl 5 rfl) ?_
  refine lv_iconst (v := nI 2) hx hb dL_law_917 (by decide) ?_
  refine z_add F dL_law_918 ?_
  refine lw_sld F hX hbl hbA hS (show i + 2 < L by omega) hL dL_law_919 ?_
  refine law_M (wb := lX k o g1 ad1 M1 O1) (As := [.int (xs (i + 1)), .int (xs (i + 2))]) (rest := []) F (hcM _) (cwV 2 hts gL_law_X3_reach rfl rfl rfl (by decide +kernel) ⟨Nat.le_of_ble_eq_true rfl, Nat.le_of_ble_eq_true rfl⟩) hK hP hD hS hA rfl hl.1 rfl (Nat.le_of_ble_eq_true rfl) dL_law_920 ⟨by show _ ≤ 601024; omega, by show _ ≤ 7293034; omega⟩ (fun r H locs hr0 hP hD hS => ?_)
  refine lv_istore (lv' := [(6, .int r), (5, .int (nI xq)), (0, .ref b), (1, .ref (ad 0)), (2, .ref (bd 0)), (3, .ref o), (4, .int (nI i))]) hx hb dL_law_923 hl (by decide) rfl (fun ls hl => ?_)
  refine lv_aload_n hx hb dL_law_925 rfl (lv_at hl 4 rfl) ?_
  refine z_cV (qc := (RX3, TX3, 21)) (As := []) (rest := []) (0) F (c_X3_thrown l D k bd M1 O1 (nI (xq))) (cwV 0 hts gL_law_X3_thrown rfl rfl rfl (by decide +kernel) ⟨Nat.le_of_ble_eq_true rfl, Nat.le_of_ble_eq_true rfl⟩) hK (wP_r hP) (by omega) cM_0 rfl rfl hl.1 rfl (Nat.le_of_ble_eq_true rfl) dL_law_926 ⟨by show _ ≤ 601024; omega, by show _ ≤ 7293034; omega⟩ (fun r9 hr9 => ?_)
  subst hr9
  refine lv_iload hx hb dL_law_929 (lv_at hl 1 rfl) ?_
  refine lv_icmp_eq (tgt := 936) hx hb dL_law_931 (by decide) (fun _ => ?_) (fun zz1 => absurd rfl zz1)
  refine lv_iload hx hb dL_law_936 (lv_at hl 1 rfl) ?_
  refine z_ifn_ne (tgt := 953) F (by omega) dL_law_938 (by decide) (fun zc => ?_) (fun zc => ?_)
  · refine lv_goto (tgt := 1755) hx hb dL_law_953 (by decide) ?_
    refine W.widen (k := cells + 6) (n := slots + 35) (by omega) (by omega) ?_
    exact kk _ _ _ _ _ hP hD hS (by rw [had 0 (by omega)]; exact lv_sub hl [2, 3, 4, 5, 6] rfl)
  · have h0 : xq = 0 := by omega
    refine lv_aload_n hx hb dL_law_941 rfl (lv_at hl 5 rfl) ?_
    refine lv_iconst (v := nI 0) hx hb dL_law_942 (by decide) ?_
    refine lw_lald (g := g1) (ad := ad1) (M := M1) (O := O1) F hK hP dL_law_943 ?_
    refine lv_iload hx hb dL_law_944 (lv_at hl 0 rfl) ?_
    refine lv_i2l (v := (r).toInt64) hx hb dL_law_946 rfl ?_
    refine W.lcmp hx hb dL_law_947 ?_
    refine lv_if_eq (tgt := 953) hx hb dL_law_948 (by decide) (fun _ => ?_) (fun zz1 => absurd ((lg_cmp_eq _ _).mpr (by rw [hg h0, hr0 h0])) zz1)
    refine lv_goto (tgt := 1755) hx hb dL_law_953 (by decide) ?_
    refine W.widen (k := cells + 6) (n := slots + 35) (by omega) (by omega) ?_
    exact kk _ _ _ _ _ hP hD hS (by rw [had 0 (by omega)]; exact lv_sub hl [2, 3, 4, 5, 6] rfl)
set_option maxRecDepth 100000 in
set_option maxHeartbeats 2000000 in
theorem lc_rest {p : Program} {l : Launch} {e : Env} {s : State} {m : MethodId} {args : Array Value} {below : List Frame} {meth : Method} {c : Code} {cells slots : Nat} {Q : State → Prop} {D : va_G} {k : Nat → ClassId} {sa : Nat → Nat} {b L i : Nat} {xs : Nat → Int32} {ad bd : Nat → Nat} {o : Nat} {g : Nat → Int64} {M M' M1 : Nat → Nat → Nat} {O O' O1 : Nat → Nat → Int32} {th rr : Int32} {xq : Nat} {H : Heap} {locs : List Loc} {ls : Array Slot} (F : CallFix p m c cL_law 7 s args wsL_law RL) (hK : va_K D vwCl (tyL k) s) (hN : lwN s) (hE : zE (fun q => s.heap.size ≤ q) sa s s.heap) (hX : va_X b L xs s s.heap) (hbl : b < s.heap.size) (hi : i + 5 ≤ L) (hL : L ≤ 2560) (hc1 : cells + 6 ≤ 601024) (hc2 : slots + 35 ≤ 7293034) {b1 : Nat} (hb0 : xs (i + 2) = 0 → b1 = 0) (hb1 : xs (i + 2) ≠ 0 → b1 = 1) (hP : va_P D vwCl (lX k o g ad M O ++ zw 19 bd (cM k bd M O th)) H) (hD : va_D (fun q => s.heap.size ≤ q) (lX k o g ad M O ++ zw 19 bd (cM k bd M O th))) (hS : va_S (fun q => s.heap.size ≤ q) s.heap H locs) (hl : lv_has ls 7 [(0, .ref b), (1, .ref (ad 0)), (2, .ref (bd 0)), (3, .ref o), (4, .int (nI i))])
    (hcX : vx_Met l yX2_rest wsX2_rest ({ frames := 7, cells := 2, slots := 12, locals := 104 }) (va_Pc [.ref (ad 0), .int (xs (i + 1)), .int (nI b1)] (zPre D k ad M O H.size sa)) (zQop D k ad M M' O' (va_A (zw (20 + 2 * M 0 1) ad (cX k ad M O)) H.size) xq rr) (zX (fun E => exC E xq)) 2 12 (va_A (zw (20 + 2 * M 0 1) ad (cX k ad M O)) H.size))
    (hcM : ∀ sz : Nat, Met l yX3_rest wsX3_rest ({ frames := 2, cells := 0, slots := 0, locals := 43 }) (va_Pc [.ref (bd 0), .int (xs (i + 1)), .int (nI b1)] (zG D k 19 bd (cM k bd M O th) sz)) (zQw D k 19 bd (cM k bd M1 O1 (nI (kq xq))) (va_A (zw 19 bd (cM k bd M O th)) sz) (fun r => xq = 0 → r = rr)) 0 0 (va_A (zw 19 bd (cM k bd M O th)) sz))
    (hq : xq ≤ 3) (h92 : xq ≠ 2) (e1 : xq = 0 → M1 = M' ∧ O1 = O') (e2 : xq ≠ 0 → M1 = M ∧ O1 = O)
    (kk : ∀ (g1 : Nat → Int64) (ad1 : Nat → Nat) (H : Heap) (locs : List Loc) (ls : Array Slot), va_P D vwCl (lX k o g1 ad1 M1 O1 ++ zw 19 bd (cM k bd M1 O1 (nI (kq xq)))) H → va_D (fun q => s.heap.size ≤ q) (lX k o g1 ad1 M1 O1 ++ zw 19 bd (cM k bd M1 O1 (nI (kq xq)))) → va_S (fun q => s.heap.size ≤ q) s.heap H locs → lv_has ls 7 [(0, .ref b), (1, .ref (ad1 0)), (2, .ref (bd 0)), (3, .ref o), (4, .int (nI i))] → W p l e room_1 s m args below meth c H locs (cells + 6) (slots + 35) Q (F0 m 1755 ls [])) : W p l e room_1 s m args below meth c H locs cells slots Q (F0 m 956 ls []) := by
  have hx := F.1
  have hb := F.2.1
  have hts := F.2.2.2.2
  have hown := F.2.2.2.1
  have hA : ∀ q : Nat, s.heap.size ≤ q → (fun q => s.heap.size ≤ q) q := fun _ h => h
  have hbA : ¬ (fun q => s.heap.size ≤ q) b := Nat.not_le.mpr hbl
  refine lv_aload_n hx hb dL_law_956 rfl (lv_at hl 1 rfl) ?_
  refine lv_aload_n hx hb dL_law_957 rfl (lv_at hl 0 rfl) ?_
  refine lv_iload hx hb dL_law_958 (lv_at hl 4 rfl) ?_
  refine lv_iconst (v := nI 1) hx hb dL_law_960 (by decide) ?_
  refine z_add F dL_law_961 ?_
  refine lw_sld F hX hbl hbA hS (show i + 1 < L by omega) hL dL_law_962 ?_
  refine lv_aload_n hx hb dL_law_963 rfl (lv_at hl 0 rfl) ?_
  refine lv_iload hx hb dL_law_964 (lv_at hl 4 rfl) ?_
  refine lv_iconst (v := nI 2) hx hb dL_law_966 (by decide) ?_
  refine z_add F dL_law_967 ?_
  refine lw_sld F hX hbl hbA hS (show i + 2 < L by omega) hL dL_law_968 ?_
  refine lv_if_eq (tgt := 976) hx hb dL_law_969 (by decide) (fun zq1 => ?_) (fun zq1 => ?_)
  · obtain rfl := hb0 zq1
    refine lv_iconst (v := nI 0) hx hb dL_law_976 (by decide) ?_
    refine lv_aload_n hx hb dL_law_977 rfl (lv_at hl 3 rfl) ?_
    refine law_X (wb := zw 19 bd (cM k bd M O th)) (As := [.ref (ad 0), .int (xs (i + 1)), .int (nI 0), .ref o]) (rest := []) F (c_L_rest l sa D k ad M O o g H.size (xs (i + 1)) (nI 0) hcX h92 e1 e2) (vx_cwSW 4 hts gL_law_L_rest rfl rfl rfl (by decide +kernel) ⟨Nat.le_of_ble_eq_true rfl, Nat.le_of_ble_eq_true rfl⟩) hK hN hE hP hD hS hA rfl hl.1 rfl (Nat.le_of_ble_eq_true rfl) dL_law_978 ⟨by show _ ≤ 601024; omega, by show _ ≤ 7293034; omega⟩ (fun ad1 g1 H locs hg had hP hD hS => ?_)
    refine lv_istore (lv' := [(5, .int (nI (kq xq))), (0, .ref b), (1, .ref (ad 0)), (2, .ref (bd 0)), (3, .ref o), (4, .int (nI i))]) hx hb dL_law_981 hl (by decide) rfl (fun ls hl => ?_)
    refine lv_aload_n hx hb dL_law_983 rfl (lv_at hl 3 rfl) ?_
    refine lv_aload_n hx hb dL_law_984 rfl (lv_at hl 1 rfl) ?_
    refine lv_iload hx hb dL_law_985 (lv_at hl 5 rfl) ?_
    refine lv_iconst (v := nI 1) hx hb dL_law_987 (by decide) ?_
    refine z_add F dL_law_988 ?_
    refine lw_sld F hX hbl hbA hS (show i + 1 < L by omega) hL dL_law_989 ?_
    refine lv_aload_n hx hb dL_law_990 rfl (lv_at hl 1 rfl) ?_
    refine lv_iload hx hb dL_law_991 (lv_at hl 5 rfl) ?_
    refine lv_iconst (v := nI 2) hx hb dL_law_993 (by decide) ?_
    refine z_add F dL_law_994 ?_
    refine lw_sld F hX hbl hbA hS (show i + 2 < L by omega) hL dL_law_995 ?_
    refine lv_if_eq (tgt := 1003) hx hb dL_law_996 (by decide) (fun _ => ?_) (fun zz1 => absurd zq1 zz1)
    refine lv_iconst (v := nI 0) hx hb dL_law_1003 (by decide) ?_
    refine law_M (wb := lX k o g1 ad1 M1 O1) (As := [.int (xs (i + 1)), .int (nI 0)]) (rest := []) F (hcM _) (cwV 2 hts gL_law_X3_rest rfl rfl rfl (by decide +kernel) ⟨Nat.le_of_ble_eq_true rfl, Nat.le_of_ble_eq_true rfl⟩) hK hP hD hS hA rfl hl.1 rfl (Nat.le_of_ble_eq_true rfl) dL_law_1004 ⟨by show _ ≤ 601024; omega, by show _ ≤ 7293034; omega⟩ (fun r H locs hr0 hP hD hS => ?_)
    refine lv_istore (lv' := [(6, .int r), (5, .int (nI (kq xq))), (0, .ref b), (1, .ref (ad 0)), (2, .ref (bd 0)), (3, .ref o), (4, .int (nI i))]) hx hb dL_law_1007 hl (by decide) rfl (fun ls hl => ?_)
    refine lv_aload_n hx hb dL_law_1009 rfl (lv_at hl 4 rfl) ?_
    refine z_cV (qc := (RX3, TX3, 21)) (As := []) (rest := []) (0) F (c_X3_thrown l D k bd M1 O1 (nI (kq xq))) (cwV 0 hts gL_law_X3_thrown rfl rfl rfl (by decide +kernel) ⟨Nat.le_of_ble_eq_true rfl, Nat.le_of_ble_eq_true rfl⟩) hK (wP_r hP) (by omega) cM_0 rfl rfl hl.1 rfl (Nat.le_of_ble_eq_true rfl) dL_law_1010 ⟨by show _ ≤ 601024; omega, by show _ ≤ 7293034; omega⟩ (fun r9 hr9 => ?_)
    subst hr9
    refine lv_iload hx hb dL_law_1013 (lv_at hl 1 rfl) ?_
    refine lv_icmp_eq (tgt := 1020) hx hb dL_law_1015 (by decide) (fun _ => ?_) (fun zz1 => absurd rfl zz1)
    refine lv_iload hx hb dL_law_1020 (lv_at hl 1 rfl) ?_
    refine z_ifn_ne (tgt := 1044) F (by have := kq_le hq; omega) dL_law_1022 (by decide) (fun zc => ?_) (fun zc => ?_)
    · refine lv_goto (tgt := 1755) hx hb dL_law_1044 (by decide) ?_
      refine W.widen (k := cells + 6) (n := slots + 35) (by omega) (by omega) ?_
      exact kk _ _ _ _ _ hP hD hS (by rw [had 0 (by omega)]; exact lv_sub hl [2, 3, 4, 5, 6] rfl)
    · have h0 : xq = 0 := kq_0 zc
      refine lv_aload_n hx hb dL_law_1025 rfl (lv_at hl 5 rfl) ?_
      refine lv_iconst (v := nI 0) hx hb dL_law_1026 (by decide) ?_
      refine lw_lald (g := g1) (ad := ad1) (M := M1) (O := O1) F hK hP dL_law_1027 ?_
      refine lv_iload hx hb dL_law_1028 (lv_at hl 0 rfl) ?_
      refine lv_if_eq (tgt := 1037) hx hb dL_law_1030 (by decide) (fun zr => ?_) (fun zr => ?_)
      · refine lv_lconst (v := 0) hx hb dL_law_1037 (by decide) ?_
        refine W.lcmp hx hb dL_law_1038 ?_
        refine lv_if_eq (tgt := 1044) hx hb dL_law_1039 (by decide) (fun _ => ?_) (fun zz1 => absurd ((lg_cmp_eq _ _).mpr (by rw [hg h0, ← hr0 h0]; exact if_pos zr)) zz1)
        refine lv_goto (tgt := 1755) hx hb dL_law_1044 (by decide) ?_
        refine W.widen (k := cells + 6) (n := slots + 35) (by omega) (by omega) ?_
        exact kk _ _ _ _ _ hP hD hS (by rw [had 0 (by omega)]; exact lv_sub hl [2, 3, 4, 5, 6] rfl)
      · refine lv_lconst (v := 1) hx hb dL_law_1033 (by decide) ?_
        refine lv_goto (tgt := 1038) hx hb dL_law_1034 (by decide) ?_
        refine W.lcmp hx hb dL_law_1038 ?_
        refine lv_if_eq (tgt := 1044) hx hb dL_law_1039 (by decide) (fun _ => ?_) (fun zz1 => absurd ((lg_cmp_eq _ _).mpr (by rw [hg h0, ← hr0 h0]; exact if_neg zr)) zz1)
        refine lv_goto (tgt := 1755) hx hb dL_law_1044 (by decide) ?_
        refine W.widen (k := cells + 6) (n := slots + 35) (by omega) (by omega) ?_
        exact kk _ _ _ _ _ hP hD hS (by rw [had 0 (by omega)]; exact lv_sub hl [2, 3, 4, 5, 6] rfl)
  · obtain rfl := hb1 zq1
    refine lv_iconst (v := nI 1) hx hb dL_law_972 (by decide) ?_
    refine lv_goto (tgt := 977) hx hb dL_law_973 (by decide) ?_
    refine lv_aload_n hx hb dL_law_977 rfl (lv_at hl 3 rfl) ?_
    refine law_X (wb := zw 19 bd (cM k bd M O th)) (As := [.ref (ad 0), .int (xs (i + 1)), .int (nI 1), .ref o]) (rest := []) F (c_L_rest l sa D k ad M O o g H.size (xs (i + 1)) (nI 1) hcX h92 e1 e2) (vx_cwSW 4 hts gL_law_L_rest rfl rfl rfl (by decide +kernel) ⟨Nat.le_of_ble_eq_true rfl, Nat.le_of_ble_eq_true rfl⟩) hK hN hE hP hD hS hA rfl hl.1 rfl (Nat.le_of_ble_eq_true rfl) dL_law_978 ⟨by show _ ≤ 601024; omega, by show _ ≤ 7293034; omega⟩ (fun ad1 g1 H locs hg had hP hD hS => ?_)
    refine lv_istore (lv' := [(5, .int (nI (kq xq))), (0, .ref b), (1, .ref (ad 0)), (2, .ref (bd 0)), (3, .ref o), (4, .int (nI i))]) hx hb dL_law_981 hl (by decide) rfl (fun ls hl => ?_)
    refine lv_aload_n hx hb dL_law_983 rfl (lv_at hl 3 rfl) ?_
    refine lv_aload_n hx hb dL_law_984 rfl (lv_at hl 1 rfl) ?_
    refine lv_iload hx hb dL_law_985 (lv_at hl 5 rfl) ?_
    refine lv_iconst (v := nI 1) hx hb dL_law_987 (by decide) ?_
    refine z_add F dL_law_988 ?_
    refine lw_sld F hX hbl hbA hS (show i + 1 < L by omega) hL dL_law_989 ?_
    refine lv_aload_n hx hb dL_law_990 rfl (lv_at hl 1 rfl) ?_
    refine lv_iload hx hb dL_law_991 (lv_at hl 5 rfl) ?_
    refine lv_iconst (v := nI 2) hx hb dL_law_993 (by decide) ?_
    refine z_add F dL_law_994 ?_
    refine lw_sld F hX hbl hbA hS (show i + 2 < L by omega) hL dL_law_995 ?_
    refine lv_if_eq (tgt := 1003) hx hb dL_law_996 (by decide) (fun zz1 => absurd zz1 zq1) (fun _ => ?_)
    refine lv_iconst (v := nI 1) hx hb dL_law_999 (by decide) ?_
    refine lv_goto (tgt := 1004) hx hb dL_law_1000 (by decide) ?_
    refine law_M (wb := lX k o g1 ad1 M1 O1) (As := [.int (xs (i + 1)), .int (nI 1)]) (rest := []) F (hcM _) (cwV 2 hts gL_law_X3_rest rfl rfl rfl (by decide +kernel) ⟨Nat.le_of_ble_eq_true rfl, Nat.le_of_ble_eq_true rfl⟩) hK hP hD hS hA rfl hl.1 rfl (Nat.le_of_ble_eq_true rfl) dL_law_1004 ⟨by show _ ≤ 601024; omega, by show _ ≤ 7293034; omega⟩ (fun r H locs hr0 hP hD hS => ?_)
    refine lv_istore (lv' := [(6, .int r), (5, .int (nI (kq xq))), (0, .ref b), (1, .ref (ad 0)), (2, .ref (bd 0)), (3, .ref o), (4, .int (nI i))]) hx hb dL_law_1007 hl (by decide) rfl (fun ls hl => ?_)
    refine lv_aload_n hx hb dL_law_1009 rfl (lv_at hl 4 rfl) ?_
    refine z_cV (qc := (RX3, TX3, 21)) (As := []) (rest := []) (0) F (c_X3_thrown l D k bd M1 O1 (nI (kq xq))) (cwV 0 hts gL_law_X3_thrown rfl rfl rfl (by decide +kernel) ⟨Nat.le_of_ble_eq_true rfl, Nat.le_of_ble_eq_true rfl⟩) hK (wP_r hP) (by omega) cM_0 rfl rfl hl.1 rfl (Nat.le_of_ble_eq_true rfl) dL_law_1010 ⟨by show _ ≤ 601024; omega, by show _ ≤ 7293034; omega⟩ (fun r9 hr9 => ?_)
    subst hr9
    refine lv_iload hx hb dL_law_1013 (lv_at hl 1 rfl) ?_
    refine lv_icmp_eq (tgt := 1020) hx hb dL_law_1015 (by decide) (fun _ => ?_) (fun zz1 => absurd rfl zz1)
    refine lv_iload hx hb dL_law_1020 (lv_at hl 1 rfl) ?_
    refine z_ifn_ne (tgt := 1044) F (by have := kq_le hq; omega) dL_law_1022 (by decide) (fun zc => ?_) (fun zc => ?_)
    · refine lv_goto (tgt := 1755) hx hb dL_law_1044 (by decide) ?_
      refine W.widen (k := cells + 6) (n := slots + 35) (by omega) (by omega) ?_
      exact kk _ _ _ _ _ hP hD hS (by rw [had 0 (by omega)]; exact lv_sub hl [2, 3, 4, 5, 6] rfl)
    · have h0 : xq = 0 := kq_0 zc
      refine lv_aload_n hx hb dL_law_1025 rfl (lv_at hl 5 rfl) ?_
      refine lv_iconst (v := nI 0) hx hb dL_law_1026 (by decide) ?_
      refine lw_lald (g := g1) (ad := ad1) (M := M1) (O := O1) F hK hP dL_law_1027 ?_
      refine lv_iload hx hb dL_law_1028 (lv_at hl 0 rfl) ?_
      refine lv_if_eq (tgt := 1037) hx hb dL_law_1030 (by decide) (fun zr => ?_) (fun zr => ?_)
      · refine lv_lconst (v := 0) hx hb dL_law_1037 (by decide) ?_
        refine W.lcmp hx hb dL_law_1038 ?_
        refine lv_if_eq (tgt := 1044) hx hb dL_law_1039 (by decide) (fun _ => ?_) (fun zz1 => absurd ((lg_cmp_eq _ _).mpr (by rw [hg h0, ← hr0 h0]; exact if_pos zr)) zz1)
        refine lv_goto (tgt := 1755) hx hb dL_law_1044 (by decide) ?_
        refine W.widen (k := cells + 6) (n := slots + 35) (by omega) (by omega) ?_
        exact kk _ _ _ _ _ hP hD hS (by rw [had 0 (by omega)]; exact lv_sub hl [2, 3, 4, 5, 6] rfl)
      · refine lv_lconst (v := 1) hx hb dL_law_1033 (by decide) ?_
        refine lv_goto (tgt := 1038) hx hb dL_law_1034 (by decide) ?_
        refine W.lcmp hx hb dL_law_1038 ?_
        refine lv_if_eq (tgt := 1044) hx hb dL_law_1039 (by decide) (fun _ => ?_) (fun zz1 => absurd ((lg_cmp_eq _ _).mpr (by rw [hg h0, ← hr0 h0]; exact if_neg zr)) zz1)
        refine lv_goto (tgt := 1755) hx hb dL_law_1044 (by decide) ?_
        refine W.widen (k := cells + 6) (n := slots + 35) (by omega) (by omega) ?_
        exact kk _ _ _ _ _ hP hD hS (by rw [had 0 (by omega)]; exact lv_sub hl [2, 3, 4, 5, 6] rfl)
set_option maxRecDepth 100000 in
set_option maxHeartbeats 2000000 in
theorem lc_setGravity {p : Program} {l : Launch} {e : Env} {s : State} {m : MethodId} {args : Array Value} {below : List Frame} {meth : Method} {c : Code} {cells slots : Nat} {Q : State → Prop} {D : va_G} {k : Nat → ClassId} {sa : Nat → Nat} {b L i : Nat} {xs : Nat → Int32} {ad bd : Nat → Nat} {o : Nat} {g : Nat → Int64} {M M' M1 : Nat → Nat → Nat} {O O' O1 : Nat → Nat → Int32} {th rr : Int32} {xq : Nat} {H : Heap} {locs : List Loc} {ls : Array Slot} (F : CallFix p m c cL_law 7 s args wsL_law RL) (hK : va_K D vwCl (tyL k) s) (hN : lwN s) (hE : zE (fun q => s.heap.size ≤ q) sa s s.heap) (hX : va_X b L xs s s.heap) (hbl : b < s.heap.size) (hi : i + 5 ≤ L) (hL : L ≤ 2560) (hc1 : cells + 6 ≤ 601024) (hc2 : slots + 35 ≤ 7293034) (hP : va_P D vwCl (lX k o g ad M O ++ zw 19 bd (cM k bd M O th)) H) (hD : va_D (fun q => s.heap.size ≤ q) (lX k o g ad M O ++ zw 19 bd (cM k bd M O th))) (hS : va_S (fun q => s.heap.size ≤ q) s.heap H locs) (hl : lv_has ls 7 [(0, .ref b), (1, .ref (ad 0)), (2, .ref (bd 0)), (3, .ref o), (4, .int (nI i))])
    (hcX : vx_Met l yX2_setGravity wsX2_setGravity ({ frames := 8, cells := 3, slots := 18, locals := 124 }) (va_Pc [.ref (ad 0), .int (xs (i + 1)), .int (xs (i + 2))] (zPre D k ad M O H.size sa)) (zQop D k ad M M' O' (va_A (zw (20 + 2 * M 0 1) ad (cX k ad M O)) H.size) xq rr) (zX (fun E => exC E xq)) 3 18 (va_A (zw (20 + 2 * M 0 1) ad (cX k ad M O)) H.size))
    (hcM : ∀ sz : Nat, Met l yX3_setGravity wsX3_setGravity ({ frames := 2, cells := 0, slots := 0, locals := 43 }) (va_Pc [.ref (bd 0), .int (xs (i + 1)), .int (xs (i + 2))] (zG D k 19 bd (cM k bd M O th) sz)) (zQw D k 19 bd (cM k bd M1 O1 (nI (xq))) (va_A (zw 19 bd (cM k bd M O th)) sz) (fun r => xq = 0 → r = rr)) 0 0 (va_A (zw 19 bd (cM k bd M O th)) sz))
    (hq : xq ≤ 3) (e1 : xq = 0 → M1 = M' ∧ O1 = O') (e2 : xq ≠ 0 → M1 = M ∧ O1 = O)
    (kk : ∀ (g1 : Nat → Int64) (ad1 : Nat → Nat) (H : Heap) (locs : List Loc) (ls : Array Slot), va_P D vwCl (lX k o g1 ad1 M1 O1 ++ zw 19 bd (cM k bd M1 O1 (nI (xq)))) H → va_D (fun q => s.heap.size ≤ q) (lX k o g1 ad1 M1 O1 ++ zw 19 bd (cM k bd M1 O1 (nI (xq)))) → va_S (fun q => s.heap.size ≤ q) s.heap H locs → lv_has ls 7 [(0, .ref b), (1, .ref (ad1 0)), (2, .ref (bd 0)), (3, .ref o), (4, .int (nI i))] → W p l e room_1 s m args below meth c H locs (cells + 6) (slots + 35) Q (F0 m 1755 ls [])) : W p l e room_1 s m args below meth c H locs cells slots Q (F0 m 1047 ls []) := by
  have hx := F.1
  have hb := F.2.1
  have hts := F.2.2.2.2
  have hown := F.2.2.2.1
  have hA : ∀ q : Nat, s.heap.size ≤ q → (fun q => s.heap.size ≤ q) q := fun _ h => h
  have hbA : ¬ (fun q => s.heap.size ≤ q) b := Nat.not_le.mpr hbl
  refine lv_aload_n hx hb dL_law_1047 rfl (lv_at hl 1 rfl) ?_
  refine lv_aload_n hx hb dL_law_1048 rfl (lv_at hl 0 rfl) ?_
  refine lv_iload hx hb dL_law_1049 (lv_at hl 4 rfl) ?_
  refine lv_iconst (v := nI 1) hx hb dL_law_1051 (by decide) ?_
  refine z_add F dL_law_1052 ?_
  refine lw_sld F hX hbl hbA hS (show i + 1 < L by omega) hL dL_law_1053 ?_
  refine lv_aload_n hx hb dL_law_1054 rfl (lv_at hl 0 rfl) ?_
  refine lv_iload hx hb dL_law_1055 (lv_at hl 4 rfl) ?_
  refine lv_iconst (v := nI 2) hx hb dL_law_1057 (by decide) ?_
  refine z_add F dL_law_1058 ?_
  refine lw_sld F hX hbl hbA hS (show i + 2 < L by omega) hL dL_law_1059 ?_
  refine lv_aload_n hx hb dL_law_1060 rfl (lv_at hl 3 rfl) ?_
  refine law_X (wb := zw 19 bd (cM k bd M O th)) (As := [.ref (ad 0), .int (xs (i + 1)), .int (xs (i + 2)), .ref o]) (rest := []) F (c_L_setGravity l sa D k ad M O o g H.size (xs (i + 1)) (xs (i + 2)) hcX e1 e2) (vx_cwSW 4 hts gL_law_L_setGravity rfl rfl rfl (by decide +kernel) ⟨Nat.le_of_ble_eq_true rfl, Nat.le_of_ble_eq_true rfl⟩) hK hN hE hP hD hS hA rfl hl.1 rfl (Nat.le_of_ble_eq_true rfl) dL_law_1061 ⟨by show _ ≤ 601024; omega, by show _ ≤ 7293034; omega⟩ (fun ad1 g1 H locs hg had hP hD hS => ?_)
  refine lv_istore (lv' := [(5, .int (nI xq)), (0, .ref b), (1, .ref (ad 0)), (2, .ref (bd 0)), (3, .ref o), (4, .int (nI i))]) hx hb dL_law_1064 hl (by decide) rfl (fun ls hl => ?_)
  refine lv_aload_n hx hb dL_law_1066 rfl (lv_at hl 3 rfl) ?_
  refine lv_aload_n hx hb dL_law_1067 rfl (lv_at hl 1 rfl) ?_
  refine lv_iload hx hb dL_law_1068 (lv_at hl 5 rfl) ?_
  refine lv_iconst (v := nI 1) hx hb dL_law_1070 (by decide) ?_
  refine z_add F dL_law_1071 ?_
  refine lw_sld F hX hbl hbA hS (show i + 1 < L by omega) hL dL_law_1072 ?_
  refine lv_aload_n hx hb dL_law_1073 rfl (lv_at hl 1 rfl) ?_
  refine lv_iload hx hb dL_law_1074 (lv_at hl 5 rfl) ?_
  refine lv_iconst (v := nI 2) hx hb dL_law_1076 (by decide) ?_
  refine z_add F dL_law_1077 ?_
  refine lw_sld F hX hbl hbA hS (show i + 2 < L by omega) hL dL_law_1078 ?_
  refine law_M (wb := lX k o g1 ad1 M1 O1) (As := [.int (xs (i + 1)), .int (xs (i + 2))]) (rest := []) F (hcM _) (cwV 2 hts gL_law_X3_setGravity rfl rfl rfl (by decide +kernel) ⟨Nat.le_of_ble_eq_true rfl, Nat.le_of_ble_eq_true rfl⟩) hK hP hD hS hA rfl hl.1 rfl (Nat.le_of_ble_eq_true rfl) dL_law_1079 ⟨by show _ ≤ 601024; omega, by show _ ≤ 7293034; omega⟩ (fun r H locs hr0 hP hD hS => ?_)
  refine lv_istore (lv' := [(6, .int r), (5, .int (nI xq)), (0, .ref b), (1, .ref (ad 0)), (2, .ref (bd 0)), (3, .ref o), (4, .int (nI i))]) hx hb dL_law_1082 hl (by decide) rfl (fun ls hl => ?_)
  refine lv_aload_n hx hb dL_law_1084 rfl (lv_at hl 4 rfl) ?_
  refine z_cV (qc := (RX3, TX3, 21)) (As := []) (rest := []) (0) F (c_X3_thrown l D k bd M1 O1 (nI (xq))) (cwV 0 hts gL_law_X3_thrown rfl rfl rfl (by decide +kernel) ⟨Nat.le_of_ble_eq_true rfl, Nat.le_of_ble_eq_true rfl⟩) hK (wP_r hP) (by omega) cM_0 rfl rfl hl.1 rfl (Nat.le_of_ble_eq_true rfl) dL_law_1085 ⟨by show _ ≤ 601024; omega, by show _ ≤ 7293034; omega⟩ (fun r9 hr9 => ?_)
  subst hr9
  refine lv_iload hx hb dL_law_1088 (lv_at hl 1 rfl) ?_
  refine lv_icmp_eq (tgt := 1095) hx hb dL_law_1090 (by decide) (fun _ => ?_) (fun zz1 => absurd rfl zz1)
  refine lv_iload hx hb dL_law_1095 (lv_at hl 1 rfl) ?_
  refine z_ifn_ne (tgt := 1112) F (by omega) dL_law_1097 (by decide) (fun zc => ?_) (fun zc => ?_)
  · refine lv_goto (tgt := 1755) hx hb dL_law_1112 (by decide) ?_
    refine W.widen (k := cells + 6) (n := slots + 35) (by omega) (by omega) ?_
    exact kk _ _ _ _ _ hP hD hS (by rw [had 0 (by omega)]; exact lv_sub hl [2, 3, 4, 5, 6] rfl)
  · have h0 : xq = 0 := by omega
    refine lv_aload_n hx hb dL_law_1100 rfl (lv_at hl 5 rfl) ?_
    refine lv_iconst (v := nI 0) hx hb dL_law_1101 (by decide) ?_
    refine lw_lald (g := g1) (ad := ad1) (M := M1) (O := O1) F hK hP dL_law_1102 ?_
    refine lv_iload hx hb dL_law_1103 (lv_at hl 0 rfl) ?_
    refine lv_i2l (v := (r).toInt64) hx hb dL_law_1105 rfl ?_
    refine W.lcmp hx hb dL_law_1106 ?_
    refine lv_if_eq (tgt := 1112) hx hb dL_law_1107 (by decide) (fun _ => ?_) (fun zz1 => absurd ((lg_cmp_eq _ _).mpr (by rw [hg h0, hr0 h0])) zz1)
    refine lv_goto (tgt := 1755) hx hb dL_law_1112 (by decide) ?_
    refine W.widen (k := cells + 6) (n := slots + 35) (by omega) (by omega) ?_
    exact kk _ _ _ _ _ hP hD hS (by rw [had 0 (by omega)]; exact lv_sub hl [2, 3, 4, 5, 6] rfl)
set_option maxRecDepth 100000 in
set_option maxHeartbeats 2000000 in
theorem lc_join {p : Program} {l : Launch} {e : Env} {s : State} {m : MethodId} {args : Array Value} {below : List Frame} {meth : Method} {c : Code} {cells slots : Nat} {Q : State → Prop} {D : va_G} {k : Nat → ClassId} {sa : Nat → Nat} {b L i : Nat} {xs : Nat → Int32} {ad bd : Nat → Nat} {o : Nat} {g : Nat → Int64} {M M' M1 : Nat → Nat → Nat} {O O' O1 : Nat → Nat → Int32} {th rr : Int32} {xq : Nat} {H : Heap} {locs : List Loc} {ls : Array Slot} (F : CallFix p m c cL_law 7 s args wsL_law RL) (hK : va_K D vwCl (tyL k) s) (hN : lwN s) (hE : zE (fun q => s.heap.size ≤ q) sa s s.heap) (hX : va_X b L xs s s.heap) (hbl : b < s.heap.size) (hi : i + 5 ≤ L) (hL : L ≤ 2560) (hc1 : cells + 6 ≤ 601024) (hc2 : slots + 35 ≤ 7293034) (hP : va_P D vwCl (lX k o g ad M O ++ zw 19 bd (cM k bd M O th)) H) (hD : va_D (fun q => s.heap.size ≤ q) (lX k o g ad M O ++ zw 19 bd (cM k bd M O th))) (hS : va_S (fun q => s.heap.size ≤ q) s.heap H locs) (hl : lv_has ls 7 [(0, .ref b), (1, .ref (ad 0)), (2, .ref (bd 0)), (3, .ref o), (4, .int (nI i))])
    (hcX : vx_Met l yX2_join wsX2_join ({ frames := 7, cells := 4, slots := 24, locals := 104 }) (va_Pc [.ref (ad 0), .int (xs (i + 1)), .int (xs (i + 2))] (zPre D k ad M O H.size sa)) (zQop D k ad M M' O' (va_A (zw (20 + 2 * M 0 1) ad (cX k ad M O)) H.size) xq rr) (zX (fun E => exC E xq)) 4 24 (va_A (zw (20 + 2 * M 0 1) ad (cX k ad M O)) H.size))
    (hcM : ∀ sz : Nat, Met l yX3_join wsX3_join ({ frames := 2, cells := 0, slots := 0, locals := 43 }) (va_Pc [.ref (bd 0), .int (xs (i + 1)), .int (xs (i + 2))] (zG D k 19 bd (cM k bd M O th) sz)) (zQw D k 19 bd (cM k bd M1 O1 (nI (xq))) (va_A (zw 19 bd (cM k bd M O th)) sz) (fun r => xq = 0 → r = rr)) 0 0 (va_A (zw 19 bd (cM k bd M O th)) sz))
    (hq : xq ≤ 3) (e1 : xq = 0 → M1 = M' ∧ O1 = O') (e2 : xq ≠ 0 → M1 = M ∧ O1 = O)
    (kk : ∀ (g1 : Nat → Int64) (ad1 : Nat → Nat) (H : Heap) (locs : List Loc) (ls : Array Slot), va_P D vwCl (lX k o g1 ad1 M1 O1 ++ zw 19 bd (cM k bd M1 O1 (nI (xq)))) H → va_D (fun q => s.heap.size ≤ q) (lX k o g1 ad1 M1 O1 ++ zw 19 bd (cM k bd M1 O1 (nI (xq)))) → va_S (fun q => s.heap.size ≤ q) s.heap H locs → lv_has ls 7 [(0, .ref b), (1, .ref (ad1 0)), (2, .ref (bd 0)), (3, .ref o), (4, .int (nI i))] → W p l e room_1 s m args below meth c H locs (cells + 6) (slots + 35) Q (F0 m 1755 ls [])) : W p l e room_1 s m args below meth c H locs cells slots Q (F0 m 1115 ls []) := by
  have hx := F.1
  have hb := F.2.1
  have hts := F.2.2.2.2
  have hown := F.2.2.2.1
  have hA : ∀ q : Nat, s.heap.size ≤ q → (fun q => s.heap.size ≤ q) q := fun _ h => h
  have hbA : ¬ (fun q => s.heap.size ≤ q) b := Nat.not_le.mpr hbl
  refine lv_aload_n hx hb dL_law_1115 rfl (lv_at hl 1 rfl) ?_
  refine lv_aload_n hx hb dL_law_1116 rfl (lv_at hl 0 rfl) ?_
  refine lv_iload hx hb dL_law_1117 (lv_at hl 4 rfl) ?_
  refine lv_iconst (v := nI 1) hx hb dL_law_1119 (by decide) ?_
  refine z_add F dL_law_1120 ?_
  refine lw_sld F hX hbl hbA hS (show i + 1 < L by omega) hL dL_law_1121 ?_
  refine lv_aload_n hx hb dL_law_1122 rfl (lv_at hl 0 rfl) ?_
  refine lv_iload hx hb dL_law_1123 (lv_at hl 4 rfl) ?_
  refine lv_iconst (v := nI 2) hx hb dL_law_1125 (by decide) ?_
  refine z_add F dL_law_1126 ?_
  refine lw_sld F hX hbl hbA hS (show i + 2 < L by omega) hL dL_law_1127 ?_
  refine lv_aload_n hx hb dL_law_1128 rfl (lv_at hl 3 rfl) ?_
  refine law_X (wb := zw 19 bd (cM k bd M O th)) (As := [.ref (ad 0), .int (xs (i + 1)), .int (xs (i + 2)), .ref o]) (rest := []) F (c_L_join l sa D k ad M O o g H.size (xs (i + 1)) (xs (i + 2)) hcX e1 e2) (vx_cwSW 4 hts gL_law_L_join rfl rfl rfl (by decide +kernel) ⟨Nat.le_of_ble_eq_true rfl, Nat.le_of_ble_eq_true rfl⟩) hK hN hE hP hD hS hA rfl hl.1 rfl (Nat.le_of_ble_eq_true rfl) dL_law_1129 ⟨by show _ ≤ 601024; omega, by show _ ≤ 7293034; omega⟩ (fun ad1 g1 H locs hg had hP hD hS => ?_)
  refine lv_istore (lv' := [(5, .int (nI xq)), (0, .ref b), (1, .ref (ad 0)), (2, .ref (bd 0)), (3, .ref o), (4, .int (nI i))]) hx hb dL_law_1132 hl (by decide) rfl (fun ls hl => ?_)
  refine lv_aload_n hx hb dL_law_1134 rfl (lv_at hl 3 rfl) ?_
  refine lv_aload_n hx hb dL_law_1135 rfl (lv_at hl 1 rfl) ?_
  refine lv_iload hx hb dL_law_1136 (lv_at hl 5 rfl) ?_
  refine lv_iconst (v := nI 1) hx hb dL_law_1138 (by decide) ?_
  refine z_add F dL_law_1139 ?_
  refine lw_sld F hX hbl hbA hS (show i + 1 < L by omega) hL dL_law_1140 ?_
  refine lv_aload_n hx hb dL_law_1141 rfl (lv_at hl 1 rfl) ?_
  refine lv_iload hx hb dL_law_1142 (lv_at hl 5 rfl) ?_
  refine lv_iconst (v := nI 2) hx hb dL_law_1144 (by decide) ?_
  refine z_add F dL_law_1145 ?_
  refine lw_sld F hX hbl hbA hS (show i + 2 < L by omega) hL dL_law_1146 ?_
  refine law_M (wb := lX k o g1 ad1 M1 O1) (As := [.int (xs (i + 1)), .int (xs (i + 2))]) (rest := []) F (hcM _) (cwV 2 hts gL_law_X3_join rfl rfl rfl (by decide +kernel) ⟨Nat.le_of_ble_eq_true rfl, Nat.le_of_ble_eq_true rfl⟩) hK hP hD hS hA rfl hl.1 rfl (Nat.le_of_ble_eq_true rfl) dL_law_1147 ⟨by show _ ≤ 601024; omega, by show _ ≤ 7293034; omega⟩ (fun r H locs hr0 hP hD hS => ?_)
  refine lv_istore (lv' := [(6, .int r), (5, .int (nI xq)), (0, .ref b), (1, .ref (ad 0)), (2, .ref (bd 0)), (3, .ref o), (4, .int (nI i))]) hx hb dL_law_1150 hl (by decide) rfl (fun ls hl => ?_)
  refine lv_aload_n hx hb dL_law_1152 rfl (lv_at hl 4 rfl) ?_
  refine z_cV (qc := (RX3, TX3, 21)) (As := []) (rest := []) (0) F (c_X3_thrown l D k bd M1 O1 (nI (xq))) (cwV 0 hts gL_law_X3_thrown rfl rfl rfl (by decide +kernel) ⟨Nat.le_of_ble_eq_true rfl, Nat.le_of_ble_eq_true rfl⟩) hK (wP_r hP) (by omega) cM_0 rfl rfl hl.1 rfl (Nat.le_of_ble_eq_true rfl) dL_law_1153 ⟨by show _ ≤ 601024; omega, by show _ ≤ 7293034; omega⟩ (fun r9 hr9 => ?_)
  subst hr9
  refine lv_iload hx hb dL_law_1156 (lv_at hl 1 rfl) ?_
  refine lv_icmp_eq (tgt := 1163) hx hb dL_law_1158 (by decide) (fun _ => ?_) (fun zz1 => absurd rfl zz1)
  refine lv_iload hx hb dL_law_1163 (lv_at hl 1 rfl) ?_
  refine z_ifn_ne (tgt := 1180) F (by omega) dL_law_1165 (by decide) (fun zc => ?_) (fun zc => ?_)
  · refine lv_goto (tgt := 1755) hx hb dL_law_1180 (by decide) ?_
    refine W.widen (k := cells + 6) (n := slots + 35) (by omega) (by omega) ?_
    exact kk _ _ _ _ _ hP hD hS (by rw [had 0 (by omega)]; exact lv_sub hl [2, 3, 4, 5, 6] rfl)
  · have h0 : xq = 0 := by omega
    refine lv_aload_n hx hb dL_law_1168 rfl (lv_at hl 5 rfl) ?_
    refine lv_iconst (v := nI 0) hx hb dL_law_1169 (by decide) ?_
    refine lw_lald (g := g1) (ad := ad1) (M := M1) (O := O1) F hK hP dL_law_1170 ?_
    refine lv_iload hx hb dL_law_1171 (lv_at hl 0 rfl) ?_
    refine lv_i2l (v := (r).toInt64) hx hb dL_law_1173 rfl ?_
    refine W.lcmp hx hb dL_law_1174 ?_
    refine lv_if_eq (tgt := 1180) hx hb dL_law_1175 (by decide) (fun _ => ?_) (fun zz1 => absurd ((lg_cmp_eq _ _).mpr (by rw [hg h0, hr0 h0])) zz1)
    refine lv_goto (tgt := 1755) hx hb dL_law_1180 (by decide) ?_
    refine W.widen (k := cells + 6) (n := slots + 35) (by omega) (by omega) ?_
    exact kk _ _ _ _ _ hP hD hS (by rw [had 0 (by omega)]; exact lv_sub hl [2, 3, 4, 5, 6] rfl)
set_option maxRecDepth 100000 in
set_option maxHeartbeats 2000000 in
theorem lc_openAnew {p : Program} {l : Launch} {e : Env} {s : State} {m : MethodId} {args : Array Value} {below : List Frame} {meth : Method} {c : Code} {cells slots : Nat} {Q : State → Prop} {D : va_G} {k : Nat → ClassId} {sa : Nat → Nat} {b L i : Nat} {xs : Nat → Int32} {ad bd : Nat → Nat} {o : Nat} {g : Nat → Int64} {M M' M1 : Nat → Nat → Nat} {O O' O1 : Nat → Nat → Int32} {th rr : Int32} {xq : Nat} {H : Heap} {locs : List Loc} {ls : Array Slot} (F : CallFix p m c cL_law 7 s args wsL_law RL) (hK : va_K D vwCl (tyL k) s) (hN : lwN s) (hE : zE (fun q => s.heap.size ≤ q) sa s s.heap) (hX : va_X b L xs s s.heap) (hbl : b < s.heap.size) (hi : i + 5 ≤ L) (hL : L ≤ 2560) (hc1 : cells + 6 ≤ 601024) (hc2 : slots + 35 ≤ 7293034) (hP : va_P D vwCl (lX k o g ad M O ++ zw 19 bd (cM k bd M O th)) H) (hD : va_D (fun q => s.heap.size ≤ q) (lX k o g ad M O ++ zw 19 bd (cM k bd M O th))) (hS : va_S (fun q => s.heap.size ≤ q) s.heap H locs) (hl : lv_has ls 7 [(0, .ref b), (1, .ref (ad 0)), (2, .ref (bd 0)), (3, .ref o), (4, .int (nI i))])
    (hcX : vx_Met l yX2_openAnew wsX2_openAnew ({ frames := 7, cells := 2, slots := 12, locals := 104 }) (va_Pc [.ref (ad 0), .int (xs (i + 1))] (zPre D k ad M O H.size sa)) (zQop D k ad M M' O' (va_A (zw (20 + 2 * M 0 1) ad (cX k ad M O)) H.size) xq rr) (zX (fun E => exC E xq)) 2 12 (va_A (zw (20 + 2 * M 0 1) ad (cX k ad M O)) H.size))
    (hcM : ∀ sz : Nat, Met l yX3_openAnew wsX3_openAnew ({ frames := 2, cells := 0, slots := 0, locals := 43 }) (va_Pc [.ref (bd 0), .int (xs (i + 1))] (zG D k 19 bd (cM k bd M O th) sz)) (zQw D k 19 bd (cM k bd M1 O1 (nI (kq xq))) (va_A (zw 19 bd (cM k bd M O th)) sz) (fun r => xq = 0 → r = rr)) 0 0 (va_A (zw 19 bd (cM k bd M O th)) sz))
    (hq : xq ≤ 3) (h92 : xq ≠ 2) (e1 : xq = 0 → M1 = M' ∧ O1 = O') (e2 : xq ≠ 0 → M1 = M ∧ O1 = O)
    (kk : ∀ (g1 : Nat → Int64) (ad1 : Nat → Nat) (H : Heap) (locs : List Loc) (ls : Array Slot), va_P D vwCl (lX k o g1 ad1 M1 O1 ++ zw 19 bd (cM k bd M1 O1 (nI (kq xq)))) H → va_D (fun q => s.heap.size ≤ q) (lX k o g1 ad1 M1 O1 ++ zw 19 bd (cM k bd M1 O1 (nI (kq xq)))) → va_S (fun q => s.heap.size ≤ q) s.heap H locs → lv_has ls 7 [(0, .ref b), (1, .ref (ad1 0)), (2, .ref (bd 0)), (3, .ref o), (4, .int (nI i))] → W p l e room_1 s m args below meth c H locs (cells + 6) (slots + 35) Q (F0 m 1755 ls [])) : W p l e room_1 s m args below meth c H locs cells slots Q (F0 m 1183 ls []) := by
  have hx := F.1
  have hb := F.2.1
  have hts := F.2.2.2.2
  have hown := F.2.2.2.1
  have hA : ∀ q : Nat, s.heap.size ≤ q → (fun q => s.heap.size ≤ q) q := fun _ h => h
  have hbA : ¬ (fun q => s.heap.size ≤ q) b := Nat.not_le.mpr hbl
  refine lv_aload_n hx hb dL_law_1183 rfl (lv_at hl 1 rfl) ?_
  refine lv_aload_n hx hb dL_law_1184 rfl (lv_at hl 0 rfl) ?_
  refine lv_iload hx hb dL_law_1185 (lv_at hl 4 rfl) ?_
  refine lv_iconst (v := nI 1) hx hb dL_law_1187 (by decide) ?_
  refine z_add F dL_law_1188 ?_
  refine lw_sld F hX hbl hbA hS (show i + 1 < L by omega) hL dL_law_1189 ?_
  refine lv_aload_n hx hb dL_law_1190 rfl (lv_at hl 3 rfl) ?_
  refine law_X (wb := zw 19 bd (cM k bd M O th)) (As := [.ref (ad 0), .int (xs (i + 1)), .ref o]) (rest := []) F (c_L_openAnew l sa D k ad M O o g H.size (xs (i + 1)) hcX h92 e1 e2) (vx_cwSW 3 hts gL_law_L_openAnew rfl rfl rfl (by decide +kernel) ⟨Nat.le_of_ble_eq_true rfl, Nat.le_of_ble_eq_true rfl⟩) hK hN hE hP hD hS hA rfl hl.1 rfl (Nat.le_of_ble_eq_true rfl) dL_law_1191 ⟨by show _ ≤ 601024; omega, by show _ ≤ 7293034; omega⟩ (fun ad1 g1 H locs hg had hP hD hS => ?_)
  refine lv_istore (lv' := [(5, .int (nI (kq xq))), (0, .ref b), (1, .ref (ad 0)), (2, .ref (bd 0)), (3, .ref o), (4, .int (nI i))]) hx hb dL_law_1194 hl (by decide) rfl (fun ls hl => ?_)
  refine lv_aload_n hx hb dL_law_1196 rfl (lv_at hl 3 rfl) ?_
  refine lv_aload_n hx hb dL_law_1197 rfl (lv_at hl 1 rfl) ?_
  refine lv_iload hx hb dL_law_1198 (lv_at hl 5 rfl) ?_
  refine lv_iconst (v := nI 1) hx hb dL_law_1200 (by decide) ?_
  refine z_add F dL_law_1201 ?_
  refine lw_sld F hX hbl hbA hS (show i + 1 < L by omega) hL dL_law_1202 ?_
  refine law_M (wb := lX k o g1 ad1 M1 O1) (As := [.int (xs (i + 1))]) (rest := []) F (hcM _) (cwV 1 hts gL_law_X3_openAnew rfl rfl rfl (by decide +kernel) ⟨Nat.le_of_ble_eq_true rfl, Nat.le_of_ble_eq_true rfl⟩) hK hP hD hS hA rfl hl.1 rfl (Nat.le_of_ble_eq_true rfl) dL_law_1203 ⟨by show _ ≤ 601024; omega, by show _ ≤ 7293034; omega⟩ (fun r H locs hr0 hP hD hS => ?_)
  refine lv_istore (lv' := [(6, .int r), (5, .int (nI (kq xq))), (0, .ref b), (1, .ref (ad 0)), (2, .ref (bd 0)), (3, .ref o), (4, .int (nI i))]) hx hb dL_law_1206 hl (by decide) rfl (fun ls hl => ?_)
  refine lv_aload_n hx hb dL_law_1208 rfl (lv_at hl 4 rfl) ?_
  refine z_cV (qc := (RX3, TX3, 21)) (As := []) (rest := []) (0) F (c_X3_thrown l D k bd M1 O1 (nI (kq xq))) (cwV 0 hts gL_law_X3_thrown rfl rfl rfl (by decide +kernel) ⟨Nat.le_of_ble_eq_true rfl, Nat.le_of_ble_eq_true rfl⟩) hK (wP_r hP) (by omega) cM_0 rfl rfl hl.1 rfl (Nat.le_of_ble_eq_true rfl) dL_law_1209 ⟨by show _ ≤ 601024; omega, by show _ ≤ 7293034; omega⟩ (fun r9 hr9 => ?_)
  subst hr9
  refine lv_iload hx hb dL_law_1212 (lv_at hl 1 rfl) ?_
  refine lv_icmp_eq (tgt := 1219) hx hb dL_law_1214 (by decide) (fun _ => ?_) (fun zz1 => absurd rfl zz1)
  refine lv_iload hx hb dL_law_1219 (lv_at hl 1 rfl) ?_
  refine z_ifn_ne (tgt := 1236) F (by have := kq_le hq; omega) dL_law_1221 (by decide) (fun zc => ?_) (fun zc => ?_)
  · refine lv_goto (tgt := 1755) hx hb dL_law_1236 (by decide) ?_
    refine W.widen (k := cells + 6) (n := slots + 35) (by omega) (by omega) ?_
    exact kk _ _ _ _ _ hP hD hS (by rw [had 0 (by omega)]; exact lv_sub hl [2, 3, 4, 5, 6] rfl)
  · have h0 : xq = 0 := kq_0 zc
    refine lv_aload_n hx hb dL_law_1224 rfl (lv_at hl 5 rfl) ?_
    refine lv_iconst (v := nI 0) hx hb dL_law_1225 (by decide) ?_
    refine lw_lald (g := g1) (ad := ad1) (M := M1) (O := O1) F hK hP dL_law_1226 ?_
    refine lv_iload hx hb dL_law_1227 (lv_at hl 0 rfl) ?_
    refine lv_i2l (v := (r).toInt64) hx hb dL_law_1229 rfl ?_
    refine W.lcmp hx hb dL_law_1230 ?_
    refine lv_if_eq (tgt := 1236) hx hb dL_law_1231 (by decide) (fun _ => ?_) (fun zz1 => absurd ((lg_cmp_eq _ _).mpr (by rw [hg h0, hr0 h0])) zz1)
    refine lv_goto (tgt := 1755) hx hb dL_law_1236 (by decide) ?_
    refine W.widen (k := cells + 6) (n := slots + 35) (by omega) (by omega) ?_
    exact kk _ _ _ _ _ hP hD hS (by rw [had 0 (by omega)]; exact lv_sub hl [2, 3, 4, 5, 6] rfl)
set_option maxRecDepth 100000 in
set_option maxHeartbeats 2000000 in
theorem lc_stateOf {p : Program} {l : Launch} {e : Env} {s : State} {m : MethodId} {args : Array Value} {below : List Frame} {meth : Method} {c : Code} {cells slots : Nat} {Q : State → Prop} {D : va_G} {k : Nat → ClassId} {sa : Nat → Nat} {b L i : Nat} {xs : Nat → Int32} {ad bd : Nat → Nat} {o : Nat} {g : Nat → Int64} {M M' M1 : Nat → Nat → Nat} {O O' O1 : Nat → Nat → Int32} {th rr : Int32} {xq : Nat} {H : Heap} {locs : List Loc} {ls : Array Slot} (F : CallFix p m c cL_law 7 s args wsL_law RL) (hK : va_K D vwCl (tyL k) s) (hN : lwN s) (hE : zE (fun q => s.heap.size ≤ q) sa s s.heap) (hX : va_X b L xs s s.heap) (hbl : b < s.heap.size) (hi : i + 5 ≤ L) (hL : L ≤ 2560) (hc1 : cells + 6 ≤ 601024) (hc2 : slots + 35 ≤ 7293034) (hP : va_P D vwCl (lX k o g ad M O ++ zw 19 bd (cM k bd M O th)) H) (hD : va_D (fun q => s.heap.size ≤ q) (lX k o g ad M O ++ zw 19 bd (cM k bd M O th))) (hS : va_S (fun q => s.heap.size ≤ q) s.heap H locs) (hl : lv_has ls 7 [(0, .ref b), (1, .ref (ad 0)), (2, .ref (bd 0)), (3, .ref o), (4, .int (nI i))])
    (hcX : vx_Met l yX2_stateOf wsX2_stateOf ({ frames := 7, cells := 1, slots := 6, locals := 104 }) (va_Pc [.ref (ad 0), .int (xs (i + 1))] (zPre D k ad M O H.size sa)) (zQop D k ad M M' O' (va_A (zw (20 + 2 * M 0 1) ad (cX k ad M O)) H.size) xq rr) (zX (fun E => exC E xq)) 1 6 (va_A (zw (20 + 2 * M 0 1) ad (cX k ad M O)) H.size))
    (hcM : ∀ sz : Nat, Met l yX3_stateOf wsX3_stateOf ({ frames := 2, cells := 0, slots := 0, locals := 43 }) (va_Pc [.ref (bd 0), .int (xs (i + 1))] (zG D k 19 bd (cM k bd M O th) sz)) (zQw D k 19 bd (cM k bd M1 O1 (nI (xq))) (va_A (zw 19 bd (cM k bd M O th)) sz) (fun r => xq = 0 → r = rr)) 0 0 (va_A (zw 19 bd (cM k bd M O th)) sz))
    (hq : xq ≤ 3) (h92 : xq ≠ 2) (h93 : xq ≠ 3) (e1 : xq = 0 → M1 = M' ∧ O1 = O') (e2 : xq ≠ 0 → M1 = M ∧ O1 = O)
    (kk : ∀ (g1 : Nat → Int64) (ad1 : Nat → Nat) (H : Heap) (locs : List Loc) (ls : Array Slot), va_P D vwCl (lX k o g1 ad1 M1 O1 ++ zw 19 bd (cM k bd M1 O1 (nI (xq)))) H → va_D (fun q => s.heap.size ≤ q) (lX k o g1 ad1 M1 O1 ++ zw 19 bd (cM k bd M1 O1 (nI (xq)))) → va_S (fun q => s.heap.size ≤ q) s.heap H locs → lv_has ls 7 [(0, .ref b), (1, .ref (ad1 0)), (2, .ref (bd 0)), (3, .ref o), (4, .int (nI i))] → W p l e room_1 s m args below meth c H locs (cells + 6) (slots + 35) Q (F0 m 1755 ls [])) : W p l e room_1 s m args below meth c H locs cells slots Q (F0 m 1239 ls []) := by
  have hx := F.1
  have hb := F.2.1
  have hts := F.2.2.2.2
  have hown := F.2.2.2.1
  have hA : ∀ q : Nat, s.heap.size ≤ q → (fun q => s.heap.size ≤ q) q := fun _ h => h
  have hbA : ¬ (fun q => s.heap.size ≤ q) b := Nat.not_le.mpr hbl
  refine lv_aload_n hx hb dL_law_1239 rfl (lv_at hl 1 rfl) ?_
  refine lv_aload_n hx hb dL_law_1240 rfl (lv_at hl 0 rfl) ?_
  refine lv_iload hx hb dL_law_1241 (lv_at hl 4 rfl) ?_
  refine lv_iconst (v := nI 1) hx hb dL_law_1243 (by decide) ?_
  refine z_add F dL_law_1244 ?_
  refine lw_sld F hX hbl hbA hS (show i + 1 < L by omega) hL dL_law_1245 ?_
  refine lv_aload_n hx hb dL_law_1246 rfl (lv_at hl 3 rfl) ?_
  refine law_X (wb := zw 19 bd (cM k bd M O th)) (As := [.ref (ad 0), .int (xs (i + 1)), .ref o]) (rest := []) F (c_L_stateOf l sa D k ad M O o g H.size (xs (i + 1)) hcX h92 h93 e1 e2) (vx_cwSW 3 hts gL_law_L_stateOf rfl rfl rfl (by decide +kernel) ⟨Nat.le_of_ble_eq_true rfl, Nat.le_of_ble_eq_true rfl⟩) hK hN hE hP hD hS hA rfl hl.1 rfl (Nat.le_of_ble_eq_true rfl) dL_law_1247 ⟨by show _ ≤ 601024; omega, by show _ ≤ 7293034; omega⟩ (fun ad1 g1 H locs hg had hP hD hS => ?_)
  refine lv_istore (lv' := [(5, .int (nI xq)), (0, .ref b), (1, .ref (ad 0)), (2, .ref (bd 0)), (3, .ref o), (4, .int (nI i))]) hx hb dL_law_1250 hl (by decide) rfl (fun ls hl => ?_)
  refine lv_aload_n hx hb dL_law_1252 rfl (lv_at hl 3 rfl) ?_
  refine lv_aload_n hx hb dL_law_1253 rfl (lv_at hl 1 rfl) ?_
  refine lv_iload hx hb dL_law_1254 (lv_at hl 5 rfl) ?_
  refine lv_iconst (v := nI 1) hx hb dL_law_1256 (by decide) ?_
  refine z_add F dL_law_1257 ?_
  refine lw_sld F hX hbl hbA hS (show i + 1 < L by omega) hL dL_law_1258 ?_
  refine law_M (wb := lX k o g1 ad1 M1 O1) (As := [.int (xs (i + 1))]) (rest := []) F (hcM _) (cwV 1 hts gL_law_X3_stateOf rfl rfl rfl (by decide +kernel) ⟨Nat.le_of_ble_eq_true rfl, Nat.le_of_ble_eq_true rfl⟩) hK hP hD hS hA rfl hl.1 rfl (Nat.le_of_ble_eq_true rfl) dL_law_1259 ⟨by show _ ≤ 601024; omega, by show _ ≤ 7293034; omega⟩ (fun r H locs hr0 hP hD hS => ?_)
  refine lv_istore (lv' := [(6, .int r), (5, .int (nI xq)), (0, .ref b), (1, .ref (ad 0)), (2, .ref (bd 0)), (3, .ref o), (4, .int (nI i))]) hx hb dL_law_1262 hl (by decide) rfl (fun ls hl => ?_)
  refine lv_aload_n hx hb dL_law_1264 rfl (lv_at hl 4 rfl) ?_
  refine z_cV (qc := (RX3, TX3, 21)) (As := []) (rest := []) (0) F (c_X3_thrown l D k bd M1 O1 (nI (xq))) (cwV 0 hts gL_law_X3_thrown rfl rfl rfl (by decide +kernel) ⟨Nat.le_of_ble_eq_true rfl, Nat.le_of_ble_eq_true rfl⟩) hK (wP_r hP) (by omega) cM_0 rfl rfl hl.1 rfl (Nat.le_of_ble_eq_true rfl) dL_law_1265 ⟨by show _ ≤ 601024; omega, by show _ ≤ 7293034; omega⟩ (fun r9 hr9 => ?_)
  subst hr9
  refine lv_iload hx hb dL_law_1268 (lv_at hl 1 rfl) ?_
  refine lv_icmp_eq (tgt := 1275) hx hb dL_law_1270 (by decide) (fun _ => ?_) (fun zz1 => absurd rfl zz1)
  refine lv_iload hx hb dL_law_1275 (lv_at hl 1 rfl) ?_
  refine z_ifn_ne (tgt := 1292) F (by omega) dL_law_1277 (by decide) (fun zc => ?_) (fun zc => ?_)
  · refine lv_goto (tgt := 1755) hx hb dL_law_1292 (by decide) ?_
    refine W.widen (k := cells + 6) (n := slots + 35) (by omega) (by omega) ?_
    exact kk _ _ _ _ _ hP hD hS (by rw [had 0 (by omega)]; exact lv_sub hl [2, 3, 4, 5, 6] rfl)
  · have h0 : xq = 0 := by omega
    refine lv_aload_n hx hb dL_law_1280 rfl (lv_at hl 5 rfl) ?_
    refine lv_iconst (v := nI 0) hx hb dL_law_1281 (by decide) ?_
    refine lw_lald (g := g1) (ad := ad1) (M := M1) (O := O1) F hK hP dL_law_1282 ?_
    refine lv_iload hx hb dL_law_1283 (lv_at hl 0 rfl) ?_
    refine lv_i2l (v := (r).toInt64) hx hb dL_law_1285 rfl ?_
    refine W.lcmp hx hb dL_law_1286 ?_
    refine lv_if_eq (tgt := 1292) hx hb dL_law_1287 (by decide) (fun _ => ?_) (fun zz1 => absurd ((lg_cmp_eq _ _).mpr (by rw [hg h0, hr0 h0])) zz1)
    refine lv_goto (tgt := 1755) hx hb dL_law_1292 (by decide) ?_
    refine W.widen (k := cells + 6) (n := slots + 35) (by omega) (by omega) ?_
    exact kk _ _ _ _ _ hP hD hS (by rw [had 0 (by omega)]; exact lv_sub hl [2, 3, 4, 5, 6] rfl)
set_option maxRecDepth 100000 in
set_option maxHeartbeats 2000000 in
theorem lc_clock {p : Program} {l : Launch} {e : Env} {s : State} {m : MethodId} {args : Array Value} {below : List Frame} {meth : Method} {c : Code} {cells slots : Nat} {Q : State → Prop} {D : va_G} {k : Nat → ClassId} {sa : Nat → Nat} {b L i : Nat} {xs : Nat → Int32} {ad bd : Nat → Nat} {o : Nat} {g : Nat → Int64} {M M' M1 : Nat → Nat → Nat} {O O' O1 : Nat → Nat → Int32} {th rr : Int32} {xq : Nat} {H : Heap} {locs : List Loc} {ls : Array Slot} (F : CallFix p m c cL_law 7 s args wsL_law RL) (hK : va_K D vwCl (tyL k) s) (hN : lwN s) (hE : zE (fun q => s.heap.size ≤ q) sa s s.heap) (hX : va_X b L xs s s.heap) (hbl : b < s.heap.size) (hi : i + 5 ≤ L) (hL : L ≤ 2560) (hc1 : cells + 6 ≤ 601024) (hc2 : slots + 35 ≤ 7293034) (hP : va_P D vwCl (lX k o g ad M O ++ zw 19 bd (cM k bd M O th)) H) (hD : va_D (fun q => s.heap.size ≤ q) (lX k o g ad M O ++ zw 19 bd (cM k bd M O th))) (hS : va_S (fun q => s.heap.size ≤ q) s.heap H locs) (hl : lv_has ls 7 [(0, .ref b), (1, .ref (ad 0)), (2, .ref (bd 0)), (3, .ref o), (4, .int (nI i))])
    (hcX : vx_Met l yX2_clock wsX2_clock ({ frames := 8, cells := 2, slots := 12, locals := 124 }) (va_Pc [.ref (ad 0), .int (xs (i + 1)), .int (xs (i + 2))] (zPre D k ad M O H.size sa)) (zQop D k ad M M' O' (va_A (zw (20 + 2 * M 0 1) ad (cX k ad M O)) H.size) xq rr) (zX (fun E => exC E xq)) 2 12 (va_A (zw (20 + 2 * M 0 1) ad (cX k ad M O)) H.size))
    (hcM : ∀ sz : Nat, Met l yX3_clock wsX3_clock ({ frames := 2, cells := 0, slots := 0, locals := 43 }) (va_Pc [.ref (bd 0), .int (xs (i + 1)), .int (xs (i + 2))] (zG D k 19 bd (cM k bd M O th) sz)) (zQw D k 19 bd (cM k bd M1 O1 (nI (xq))) (va_A (zw 19 bd (cM k bd M O th)) sz) (fun r => xq = 0 → r = rr)) 0 0 (va_A (zw 19 bd (cM k bd M O th)) sz))
    (hq : xq ≤ 3) (h93 : xq ≠ 3) (e1 : xq = 0 → M1 = M' ∧ O1 = O') (e2 : xq ≠ 0 → M1 = M ∧ O1 = O)
    (kk : ∀ (g1 : Nat → Int64) (ad1 : Nat → Nat) (H : Heap) (locs : List Loc) (ls : Array Slot), va_P D vwCl (lX k o g1 ad1 M1 O1 ++ zw 19 bd (cM k bd M1 O1 (nI (xq)))) H → va_D (fun q => s.heap.size ≤ q) (lX k o g1 ad1 M1 O1 ++ zw 19 bd (cM k bd M1 O1 (nI (xq)))) → va_S (fun q => s.heap.size ≤ q) s.heap H locs → lv_has ls 7 [(0, .ref b), (1, .ref (ad1 0)), (2, .ref (bd 0)), (3, .ref o), (4, .int (nI i))] → W p l e room_1 s m args below meth c H locs (cells + 6) (slots + 35) Q (F0 m 1755 ls [])) : W p l e room_1 s m args below meth c H locs cells slots Q (F0 m 1295 ls []) := by
  have hx := F.1
  have hb := F.2.1
  have hts := F.2.2.2.2
  have hown := F.2.2.2.1
  have hA : ∀ q : Nat, s.heap.size ≤ q → (fun q => s.heap.size ≤ q) q := fun _ h => h
  have hbA : ¬ (fun q => s.heap.size ≤ q) b := Nat.not_le.mpr hbl
  refine lv_aload_n hx hb dL_law_1295 rfl (lv_at hl 1 rfl) ?_
  refine lv_aload_n hx hb dL_law_1296 rfl (lv_at hl 0 rfl) ?_
  refine lv_iload hx hb dL_law_1297 (lv_at hl 4 rfl) ?_
  refine lv_iconst (v := nI 1) hx hb dL_law_1299 (by decide) ?_
  refine z_add F dL_law_1300 ?_
  refine lw_sld F hX hbl hbA hS (show i + 1 < L by omega) hL dL_law_1301 ?_
  refine lv_aload_n hx hb dL_law_1302 rfl (lv_at hl 0 rfl) ?_
  refine lv_iload hx hb dL_law_1303 (lv_at hl 4 rfl) ?_
  refine lv_iconst (v := nI 2) hx hb dL_law_1305 (by decide) ?_
  refine z_add F dL_law_1306 ?_
  refine lw_sld F hX hbl hbA hS (show i + 2 < L by omega) hL dL_law_1307 ?_
  refine lv_aload_n hx hb dL_law_1308 rfl (lv_at hl 3 rfl) ?_
  refine law_X (wb := zw 19 bd (cM k bd M O th)) (As := [.ref (ad 0), .int (xs (i + 1)), .int (xs (i + 2)), .ref o]) (rest := []) F (c_L_clock l sa D k ad M O o g H.size (xs (i + 1)) (xs (i + 2)) hcX h93 e1 e2) (vx_cwSW 4 hts gL_law_L_clock rfl rfl rfl (by decide +kernel) ⟨Nat.le_of_ble_eq_true rfl, Nat.le_of_ble_eq_true rfl⟩) hK hN hE hP hD hS hA rfl hl.1 rfl (Nat.le_of_ble_eq_true rfl) dL_law_1309 ⟨by show _ ≤ 601024; omega, by show _ ≤ 7293034; omega⟩ (fun ad1 g1 H locs hg had hP hD hS => ?_)
  refine lv_istore (lv' := [(5, .int (nI xq)), (0, .ref b), (1, .ref (ad 0)), (2, .ref (bd 0)), (3, .ref o), (4, .int (nI i))]) hx hb dL_law_1312 hl (by decide) rfl (fun ls hl => ?_)
  refine lv_aload_n hx hb dL_law_1314 rfl (lv_at hl 3 rfl) ?_
  refine lv_aload_n hx hb dL_law_1315 rfl (lv_at hl 1 rfl) ?_
  refine lv_iload hx hb dL_law_1316 (lv_at hl 5 rfl) ?_
  refine lv_iconst (v := nI 1) hx hb dL_law_1318 (by decide) ?_
  refine z_add F dL_law_1319 ?_
  refine lw_sld F hX hbl hbA hS (show i + 1 < L by omega) hL dL_law_1320 ?_
  refine lv_aload_n hx hb dL_law_1321 rfl (lv_at hl 1 rfl) ?_
  refine lv_iload hx hb dL_law_1322 (lv_at hl 5 rfl) ?_
  refine lv_iconst (v := nI 2) hx hb dL_law_1324 (by decide) ?_
  refine z_add F dL_law_1325 ?_
  refine lw_sld F hX hbl hbA hS (show i + 2 < L by omega) hL dL_law_1326 ?_
  refine law_M (wb := lX k o g1 ad1 M1 O1) (As := [.int (xs (i + 1)), .int (xs (i + 2))]) (rest := []) F (hcM _) (cwV 2 hts gL_law_X3_clock rfl rfl rfl (by decide +kernel) ⟨Nat.le_of_ble_eq_true rfl, Nat.le_of_ble_eq_true rfl⟩) hK hP hD hS hA rfl hl.1 rfl (Nat.le_of_ble_eq_true rfl) dL_law_1327 ⟨by show _ ≤ 601024; omega, by show _ ≤ 7293034; omega⟩ (fun r H locs hr0 hP hD hS => ?_)
  refine lv_istore (lv' := [(6, .int r), (5, .int (nI xq)), (0, .ref b), (1, .ref (ad 0)), (2, .ref (bd 0)), (3, .ref o), (4, .int (nI i))]) hx hb dL_law_1330 hl (by decide) rfl (fun ls hl => ?_)
  refine lv_aload_n hx hb dL_law_1332 rfl (lv_at hl 4 rfl) ?_
  refine z_cV (qc := (RX3, TX3, 21)) (As := []) (rest := []) (0) F (c_X3_thrown l D k bd M1 O1 (nI (xq))) (cwV 0 hts gL_law_X3_thrown rfl rfl rfl (by decide +kernel) ⟨Nat.le_of_ble_eq_true rfl, Nat.le_of_ble_eq_true rfl⟩) hK (wP_r hP) (by omega) cM_0 rfl rfl hl.1 rfl (Nat.le_of_ble_eq_true rfl) dL_law_1333 ⟨by show _ ≤ 601024; omega, by show _ ≤ 7293034; omega⟩ (fun r9 hr9 => ?_)
  subst hr9
  refine lv_iload hx hb dL_law_1336 (lv_at hl 1 rfl) ?_
  refine lv_icmp_eq (tgt := 1343) hx hb dL_law_1338 (by decide) (fun _ => ?_) (fun zz1 => absurd rfl zz1)
  refine lv_iload hx hb dL_law_1343 (lv_at hl 1 rfl) ?_
  refine z_ifn_ne (tgt := 1360) F (by omega) dL_law_1345 (by decide) (fun zc => ?_) (fun zc => ?_)
  · refine lv_goto (tgt := 1755) hx hb dL_law_1360 (by decide) ?_
    refine W.widen (k := cells + 6) (n := slots + 35) (by omega) (by omega) ?_
    exact kk _ _ _ _ _ hP hD hS (by rw [had 0 (by omega)]; exact lv_sub hl [2, 3, 4, 5, 6] rfl)
  · have h0 : xq = 0 := by omega
    refine lv_aload_n hx hb dL_law_1348 rfl (lv_at hl 5 rfl) ?_
    refine lv_iconst (v := nI 0) hx hb dL_law_1349 (by decide) ?_
    refine lw_lald (g := g1) (ad := ad1) (M := M1) (O := O1) F hK hP dL_law_1350 ?_
    refine lv_iload hx hb dL_law_1351 (lv_at hl 0 rfl) ?_
    refine lv_i2l (v := (r).toInt64) hx hb dL_law_1353 rfl ?_
    refine W.lcmp hx hb dL_law_1354 ?_
    refine lv_if_eq (tgt := 1360) hx hb dL_law_1355 (by decide) (fun _ => ?_) (fun zz1 => absurd ((lg_cmp_eq _ _).mpr (by rw [hg h0, hr0 h0])) zz1)
    refine lv_goto (tgt := 1755) hx hb dL_law_1360 (by decide) ?_
    refine W.widen (k := cells + 6) (n := slots + 35) (by omega) (by omega) ?_
    exact kk _ _ _ _ _ hP hD hS (by rw [had 0 (by omega)]; exact lv_sub hl [2, 3, 4, 5, 6] rfl)
set_option maxRecDepth 100000 in
set_option maxHeartbeats 2000000 in
theorem lc_isMissed {p : Program} {l : Launch} {e : Env} {s : State} {m : MethodId} {args : Array Value} {below : List Frame} {meth : Method} {c : Code} {cells slots : Nat} {Q : State → Prop} {D : va_G} {k : Nat → ClassId} {sa : Nat → Nat} {b L i : Nat} {xs : Nat → Int32} {ad bd : Nat → Nat} {o : Nat} {g : Nat → Int64} {M M' M1 : Nat → Nat → Nat} {O O' O1 : Nat → Nat → Int32} {th rr : Int32} {xq : Nat} {H : Heap} {locs : List Loc} {ls : Array Slot} (F : CallFix p m c cL_law 7 s args wsL_law RL) (hK : va_K D vwCl (tyL k) s) (hN : lwN s) (hE : zE (fun q => s.heap.size ≤ q) sa s s.heap) (hX : va_X b L xs s s.heap) (hbl : b < s.heap.size) (hi : i + 5 ≤ L) (hL : L ≤ 2560) (hc1 : cells + 6 ≤ 601024) (hc2 : slots + 35 ≤ 7293034) (hP : va_P D vwCl (lX k o g ad M O ++ zw 19 bd (cM k bd M O th)) H) (hD : va_D (fun q => s.heap.size ≤ q) (lX k o g ad M O ++ zw 19 bd (cM k bd M O th))) (hS : va_S (fun q => s.heap.size ≤ q) s.heap H locs) (hl : lv_has ls 7 [(0, .ref b), (1, .ref (ad 0)), (2, .ref (bd 0)), (3, .ref o), (4, .int (nI i))])
    (hcX : vx_Met l yX2_isMissed wsX2_isMissed ({ frames := 8, cells := 2, slots := 12, locals := 124 }) (va_Pc [.ref (ad 0), .int (xs (i + 1)), .int (xs (i + 2))] (zPre D k ad M O H.size sa)) (zQop D k ad M M' O' (va_A (zw (20 + 2 * M 0 1) ad (cX k ad M O)) H.size) xq rr) (zX (fun E => exC E xq)) 2 12 (va_A (zw (20 + 2 * M 0 1) ad (cX k ad M O)) H.size))
    (hcM : ∀ sz : Nat, Met l yX3_isMissed wsX3_isMissed ({ frames := 2, cells := 0, slots := 0, locals := 43 }) (va_Pc [.ref (bd 0), .int (xs (i + 1)), .int (xs (i + 2))] (zG D k 19 bd (cM k bd M O th) sz)) (zQw D k 19 bd (cM k bd M1 O1 (nI (xq))) (va_A (zw 19 bd (cM k bd M O th)) sz) (fun r => xq = 0 → r = rr)) 0 0 (va_A (zw 19 bd (cM k bd M O th)) sz))
    (hq : xq ≤ 3) (h93 : xq ≠ 3) (e1 : xq = 0 → M1 = M' ∧ O1 = O') (e2 : xq ≠ 0 → M1 = M ∧ O1 = O)
    (kk : ∀ (g1 : Nat → Int64) (ad1 : Nat → Nat) (H : Heap) (locs : List Loc) (ls : Array Slot), va_P D vwCl (lX k o g1 ad1 M1 O1 ++ zw 19 bd (cM k bd M1 O1 (nI (xq)))) H → va_D (fun q => s.heap.size ≤ q) (lX k o g1 ad1 M1 O1 ++ zw 19 bd (cM k bd M1 O1 (nI (xq)))) → va_S (fun q => s.heap.size ≤ q) s.heap H locs → lv_has ls 7 [(0, .ref b), (1, .ref (ad1 0)), (2, .ref (bd 0)), (3, .ref o), (4, .int (nI i))] → W p l e room_1 s m args below meth c H locs (cells + 6) (slots + 35) Q (F0 m 1755 ls [])) : W p l e room_1 s m args below meth c H locs cells slots Q (F0 m 1363 ls []) := by
  have hx := F.1
  have hb := F.2.1
  have hts := F.2.2.2.2
  have hown := F.2.2.2.1
  have hA : ∀ q : Nat, s.heap.size ≤ q → (fun q => s.heap.size ≤ q) q := fun _ h => h
  have hbA : ¬ (fun q => s.heap.size ≤ q) b := Nat.not_le.mpr hbl
  refine lv_aload_n hx hb dL_law_1363 rfl (lv_at hl 1 rfl) ?_
  refine lv_aload_n hx hb dL_law_1364 rfl (lv_at hl 0 rfl) ?_
  refine lv_iload hx hb dL_law_1365 (lv_at hl 4 rfl) ?_
  refine lv_iconst (v := nI 1) hx hb dL_law_1367 (by decide) ?_
  refine z_add F dL_law_1368 ?_
  refine lw_sld F hX hbl hbA hS (show i + 1 < L by omega) hL dL_law_1369 ?_
  refine lv_aload_n hx hb dL_law_1370 rfl (lv_at hl 0 rfl) ?_
  refine lv_iload hx hb dL_law_1371 (lv_at hl 4 rfl) ?_
  refine lv_iconst (v := nI 2) hx hb dL_law_1373 (by decide) ?_
  refine z_add F dL_law_1374 ?_
  refine lw_sld F hX hbl hbA hS (show i + 2 < L by omega) hL dL_law_1375 ?_
  refine lv_aload_n hx hb dL_law_1376 rfl (lv_at hl 3 rfl) ?_
  refine law_X (wb := zw 19 bd (cM k bd M O th)) (As := [.ref (ad 0), .int (xs (i + 1)), .int (xs (i + 2)), .ref o]) (rest := []) F (c_L_isMissed l sa D k ad M O o g H.size (xs (i + 1)) (xs (i + 2)) hcX h93 e1 e2) (vx_cwSW 4 hts gL_law_L_isMissed rfl rfl rfl (by decide +kernel) ⟨Nat.le_of_ble_eq_true rfl, Nat.le_of_ble_eq_true rfl⟩) hK hN hE hP hD hS hA rfl hl.1 rfl (Nat.le_of_ble_eq_true rfl) dL_law_1377 ⟨by show _ ≤ 601024; omega, by show _ ≤ 7293034; omega⟩ (fun ad1 g1 H locs hg had hP hD hS => ?_)
  refine lv_istore (lv' := [(5, .int (nI xq)), (0, .ref b), (1, .ref (ad 0)), (2, .ref (bd 0)), (3, .ref o), (4, .int (nI i))]) hx hb dL_law_1380 hl (by decide) rfl (fun ls hl => ?_)
  refine lv_aload_n hx hb dL_law_1382 rfl (lv_at hl 3 rfl) ?_
  refine lv_aload_n hx hb dL_law_1383 rfl (lv_at hl 1 rfl) ?_
  refine lv_iload hx hb dL_law_1384 (lv_at hl 5 rfl) ?_
  refine lv_iconst (v := nI 1) hx hb dL_law_1386 (by decide) ?_
  refine z_add F dL_law_1387 ?_
  refine lw_sld F hX hbl hbA hS (show i + 1 < L by omega) hL dL_law_1388 ?_
  refine lv_aload_n hx hb dL_law_1389 rfl (lv_at hl 1 rfl) ?_
  refine lv_iload hx hb dL_law_1390 (lv_at hl 5 rfl) ?_
  refine lv_iconst (v := nI 2) hx hb dL_law_1392 (by decide) ?_
  refine z_add F dL_law_1393 ?_
  refine lw_sld F hX hbl hbA hS (show i + 2 < L by omega) hL dL_law_1394 ?_
  refine law_M (wb := lX k o g1 ad1 M1 O1) (As := [.int (xs (i + 1)), .int (xs (i + 2))]) (rest := []) F (hcM _) (cwV 2 hts gL_law_X3_isMissed rfl rfl rfl (by decide +kernel) ⟨Nat.le_of_ble_eq_true rfl, Nat.le_of_ble_eq_true rfl⟩) hK hP hD hS hA rfl hl.1 rfl (Nat.le_of_ble_eq_true rfl) dL_law_1395 ⟨by show _ ≤ 601024; omega, by show _ ≤ 7293034; omega⟩ (fun r H locs hr0 hP hD hS => ?_)
  refine lv_istore (lv' := [(6, .int r), (5, .int (nI xq)), (0, .ref b), (1, .ref (ad 0)), (2, .ref (bd 0)), (3, .ref o), (4, .int (nI i))]) hx hb dL_law_1398 hl (by decide) rfl (fun ls hl => ?_)
  refine lv_aload_n hx hb dL_law_1400 rfl (lv_at hl 4 rfl) ?_
  refine z_cV (qc := (RX3, TX3, 21)) (As := []) (rest := []) (0) F (c_X3_thrown l D k bd M1 O1 (nI (xq))) (cwV 0 hts gL_law_X3_thrown rfl rfl rfl (by decide +kernel) ⟨Nat.le_of_ble_eq_true rfl, Nat.le_of_ble_eq_true rfl⟩) hK (wP_r hP) (by omega) cM_0 rfl rfl hl.1 rfl (Nat.le_of_ble_eq_true rfl) dL_law_1401 ⟨by show _ ≤ 601024; omega, by show _ ≤ 7293034; omega⟩ (fun r9 hr9 => ?_)
  subst hr9
  refine lv_iload hx hb dL_law_1404 (lv_at hl 1 rfl) ?_
  refine lv_icmp_eq (tgt := 1411) hx hb dL_law_1406 (by decide) (fun _ => ?_) (fun zz1 => absurd rfl zz1)
  refine lv_iload hx hb dL_law_1411 (lv_at hl 1 rfl) ?_
  refine z_ifn_ne (tgt := 1435) F (by omega) dL_law_1413 (by decide) (fun zc => ?_) (fun zc => ?_)
  · refine lv_goto (tgt := 1755) hx hb dL_law_1435 (by decide) ?_
    refine W.widen (k := cells + 6) (n := slots + 35) (by omega) (by omega) ?_
    exact kk _ _ _ _ _ hP hD hS (by rw [had 0 (by omega)]; exact lv_sub hl [2, 3, 4, 5, 6] rfl)
  · have h0 : xq = 0 := by omega
    refine lv_aload_n hx hb dL_law_1416 rfl (lv_at hl 5 rfl) ?_
    refine lv_iconst (v := nI 0) hx hb dL_law_1417 (by decide) ?_
    refine lw_lald (g := g1) (ad := ad1) (M := M1) (O := O1) F hK hP dL_law_1418 ?_
    refine lv_iload hx hb dL_law_1419 (lv_at hl 0 rfl) ?_
    refine lv_if_eq (tgt := 1428) hx hb dL_law_1421 (by decide) (fun zr => ?_) (fun zr => ?_)
    · refine lv_lconst (v := 0) hx hb dL_law_1428 (by decide) ?_
      refine W.lcmp hx hb dL_law_1429 ?_
      refine lv_if_eq (tgt := 1435) hx hb dL_law_1430 (by decide) (fun _ => ?_) (fun zz1 => absurd ((lg_cmp_eq _ _).mpr (by rw [hg h0, ← hr0 h0]; exact if_pos zr)) zz1)
      refine lv_goto (tgt := 1755) hx hb dL_law_1435 (by decide) ?_
      refine W.widen (k := cells + 6) (n := slots + 35) (by omega) (by omega) ?_
      exact kk _ _ _ _ _ hP hD hS (by rw [had 0 (by omega)]; exact lv_sub hl [2, 3, 4, 5, 6] rfl)
    · refine lv_lconst (v := 1) hx hb dL_law_1424 (by decide) ?_
      refine lv_goto (tgt := 1429) hx hb dL_law_1425 (by decide) ?_
      refine W.lcmp hx hb dL_law_1429 ?_
      refine lv_if_eq (tgt := 1435) hx hb dL_law_1430 (by decide) (fun _ => ?_) (fun zz1 => absurd ((lg_cmp_eq _ _).mpr (by rw [hg h0, ← hr0 h0]; exact if_neg zr)) zz1)
      refine lv_goto (tgt := 1755) hx hb dL_law_1435 (by decide) ?_
      refine W.widen (k := cells + 6) (n := slots + 35) (by omega) (by omega) ?_
      exact kk _ _ _ _ _ hP hD hS (by rw [had 0 (by omega)]; exact lv_sub hl [2, 3, 4, 5, 6] rfl)
set_option maxRecDepth 100000 in
set_option maxHeartbeats 2000000 in
theorem lc_step {p : Program} {l : Launch} {e : Env} {s : State} {m : MethodId} {args : Array Value} {below : List Frame} {meth : Method} {c : Code} {cells slots : Nat} {Q : State → Prop} {D : va_G} {k : Nat → ClassId} {sa : Nat → Nat} {b L i : Nat} {xs : Nat → Int32} {ad bd : Nat → Nat} {o : Nat} {g : Nat → Int64} {M M' M1 : Nat → Nat → Nat} {O O' O1 : Nat → Nat → Int32} {th rr : Int32} {xq : Nat} {H : Heap} {locs : List Loc} {ls : Array Slot} (F : CallFix p m c cL_law 7 s args wsL_law RL) (hK : va_K D vwCl (tyL k) s) (hN : lwN s) (hE : zE (fun q => s.heap.size ≤ q) sa s s.heap) (hX : va_X b L xs s s.heap) (hbl : b < s.heap.size) (hi : i + 5 ≤ L) (hL : L ≤ 2560) (hc1 : cells + 6 ≤ 601024) (hc2 : slots + 35 ≤ 7293034) (hP : va_P D vwCl (lX k o g ad M O ++ zw 19 bd (cM k bd M O th)) H) (hD : va_D (fun q => s.heap.size ≤ q) (lX k o g ad M O ++ zw 19 bd (cM k bd M O th))) (hS : va_S (fun q => s.heap.size ≤ q) s.heap H locs) (hl : lv_has ls 7 [(0, .ref b), (1, .ref (ad 0)), (2, .ref (bd 0)), (3, .ref o), (4, .int (nI i))])
    (hcX : vx_Met l yX2_step wsX2_step ({ frames := 7, cells := 1, slots := 6, locals := 104 }) (va_Pc [.ref (ad 0), .int (xs (i + 1))] (zPre D k ad M O H.size sa)) (zQop D k ad M M' O' (va_A (zw (20 + 2 * M 0 1) ad (cX k ad M O)) H.size) xq rr) (zX (fun E => exC E xq)) 1 6 (va_A (zw (20 + 2 * M 0 1) ad (cX k ad M O)) H.size))
    (hcM : ∀ sz : Nat, Met l yX3_step wsX3_step ({ frames := 2, cells := 0, slots := 0, locals := 43 }) (va_Pc [.ref (bd 0), .int (xs (i + 1))] (zG D k 19 bd (cM k bd M O th) sz)) (zQw D k 19 bd (cM k bd M1 O1 (nI (xq))) (va_A (zw 19 bd (cM k bd M O th)) sz) (fun r => xq = 0 → r = rr)) 0 0 (va_A (zw 19 bd (cM k bd M O th)) sz))
    (hq : xq ≤ 3) (h92 : xq ≠ 2) (h93 : xq ≠ 3) (e1 : xq = 0 → M1 = M' ∧ O1 = O') (e2 : xq ≠ 0 → M1 = M ∧ O1 = O)
    (kk : ∀ (g1 : Nat → Int64) (ad1 : Nat → Nat) (H : Heap) (locs : List Loc) (ls : Array Slot), va_P D vwCl (lX k o g1 ad1 M1 O1 ++ zw 19 bd (cM k bd M1 O1 (nI (xq)))) H → va_D (fun q => s.heap.size ≤ q) (lX k o g1 ad1 M1 O1 ++ zw 19 bd (cM k bd M1 O1 (nI (xq)))) → va_S (fun q => s.heap.size ≤ q) s.heap H locs → lv_has ls 7 [(0, .ref b), (1, .ref (ad1 0)), (2, .ref (bd 0)), (3, .ref o), (4, .int (nI i))] → W p l e room_1 s m args below meth c H locs (cells + 6) (slots + 35) Q (F0 m 1755 ls [])) : W p l e room_1 s m args below meth c H locs cells slots Q (F0 m 1438 ls []) := by
  have hx := F.1
  have hb := F.2.1
  have hts := F.2.2.2.2
  have hown := F.2.2.2.1
  have hA : ∀ q : Nat, s.heap.size ≤ q → (fun q => s.heap.size ≤ q) q := fun _ h => h
  have hbA : ¬ (fun q => s.heap.size ≤ q) b := Nat.not_le.mpr hbl
  refine lv_aload_n hx hb dL_law_1438 rfl (lv_at hl 1 rfl) ?_
  refine lv_aload_n hx hb dL_law_1439 rfl (lv_at hl 0 rfl) ?_
  refine lv_iload hx hb dL_law_1440 (lv_at hl 4 rfl) ?_
  refine lv_iconst (v := nI 1) hx hb dL_law_1442 (by decide) ?_
  refine z_add F dL_law_1443 ?_
  refine lw_sld F hX hbl hbA hS (show i + 1 < L by omega) hL dL_law_1444 ?_
  refine lv_aload_n hx hb dL_law_1445 rfl (lv_at hl 3 rfl) ?_
  refine law_X (wb := zw 19 bd (cM k bd M O th)) (As := [.ref (ad 0), .int (xs (i + 1)), .ref o]) (rest := []) F (c_L_step l sa D k ad M O o g H.size (xs (i + 1)) hcX h92 h93 e1 e2) (vx_cwSW 3 hts gL_law_L_step rfl rfl rfl (by decide +kernel) ⟨Nat.le_of_ble_eq_true rfl, Nat.le_of_ble_eq_true rfl⟩) hK hN hE hP hD hS hA rfl hl.1 rfl (Nat.le_of_ble_eq_true rfl) dL_law_1446 ⟨by show _ ≤ 601024; omega, by show _ ≤ 7293034; omega⟩ (fun ad1 g1 H locs hg had hP hD hS => ?_)
  refine lv_istore (lv' := [(5, .int (nI xq)), (0, .ref b), (1, .ref (ad 0)), (2, .ref (bd 0)), (3, .ref o), (4, .int (nI i))]) hx hb dL_law_1449 hl (by decide) rfl (fun ls hl => ?_)
  refine lv_aload_n hx hb dL_law_1451 rfl (lv_at hl 3 rfl) ?_
  refine lv_aload_n hx hb dL_law_1452 rfl (lv_at hl 1 rfl) ?_
  refine lv_iload hx hb dL_law_1453 (lv_at hl 5 rfl) ?_
  refine lv_iconst (v := nI 1) hx hb dL_law_1455 (by decide) ?_
  refine z_add F dL_law_1456 ?_
  refine lw_sld F hX hbl hbA hS (show i + 1 < L by omega) hL dL_law_1457 ?_
  refine law_M (wb := lX k o g1 ad1 M1 O1) (As := [.int (xs (i + 1))]) (rest := []) F (hcM _) (cwV 1 hts gL_law_X3_step rfl rfl rfl (by decide +kernel) ⟨Nat.le_of_ble_eq_true rfl, Nat.le_of_ble_eq_true rfl⟩) hK hP hD hS hA rfl hl.1 rfl (Nat.le_of_ble_eq_true rfl) dL_law_1458 ⟨by show _ ≤ 601024; omega, by show _ ≤ 7293034; omega⟩ (fun r H locs hr0 hP hD hS => ?_)
  refine lv_istore (lv' := [(6, .int r), (5, .int (nI xq)), (0, .ref b), (1, .ref (ad 0)), (2, .ref (bd 0)), (3, .ref o), (4, .int (nI i))]) hx hb dL_law_1461 hl (by decide) rfl (fun ls hl => ?_)
  refine lv_aload_n hx hb dL_law_1463 rfl (lv_at hl 4 rfl) ?_
  refine z_cV (qc := (RX3, TX3, 21)) (As := []) (rest := []) (0) F (c_X3_thrown l D k bd M1 O1 (nI (xq))) (cwV 0 hts gL_law_X3_thrown rfl rfl rfl (by decide +kernel) ⟨Nat.le_of_ble_eq_true rfl, Nat.le_of_ble_eq_true rfl⟩) hK (wP_r hP) (by omega) cM_0 rfl rfl hl.1 rfl (Nat.le_of_ble_eq_true rfl) dL_law_1464 ⟨by show _ ≤ 601024; omega, by show _ ≤ 7293034; omega⟩ (fun r9 hr9 => ?_)
  subst hr9
  refine lv_iload hx hb dL_law_1467 (lv_at hl 1 rfl) ?_
  refine lv_icmp_eq (tgt := 1474) hx hb dL_law_1469 (by decide) (fun _ => ?_) (fun zz1 => absurd rfl zz1)
  refine lv_iload hx hb dL_law_1474 (lv_at hl 1 rfl) ?_
  refine z_ifn_ne (tgt := 1491) F (by omega) dL_law_1476 (by decide) (fun zc => ?_) (fun zc => ?_)
  · refine lv_goto (tgt := 1755) hx hb dL_law_1491 (by decide) ?_
    refine W.widen (k := cells + 6) (n := slots + 35) (by omega) (by omega) ?_
    exact kk _ _ _ _ _ hP hD hS (by rw [had 0 (by omega)]; exact lv_sub hl [2, 3, 4, 5, 6] rfl)
  · have h0 : xq = 0 := by omega
    refine lv_aload_n hx hb dL_law_1479 rfl (lv_at hl 5 rfl) ?_
    refine lv_iconst (v := nI 0) hx hb dL_law_1480 (by decide) ?_
    refine lw_lald (g := g1) (ad := ad1) (M := M1) (O := O1) F hK hP dL_law_1481 ?_
    refine lv_iload hx hb dL_law_1482 (lv_at hl 0 rfl) ?_
    refine lv_i2l (v := (r).toInt64) hx hb dL_law_1484 rfl ?_
    refine W.lcmp hx hb dL_law_1485 ?_
    refine lv_if_eq (tgt := 1491) hx hb dL_law_1486 (by decide) (fun _ => ?_) (fun zz1 => absurd ((lg_cmp_eq _ _).mpr (by rw [hg h0, hr0 h0])) zz1)
    refine lv_goto (tgt := 1755) hx hb dL_law_1491 (by decide) ?_
    refine W.widen (k := cells + 6) (n := slots + 35) (by omega) (by omega) ?_
    exact kk _ _ _ _ _ hP hD hS (by rw [had 0 (by omega)]; exact lv_sub hl [2, 3, 4, 5, 6] rfl)
set_option maxRecDepth 100000 in
set_option maxHeartbeats 2000000 in
theorem lc_mostUrgent {p : Program} {l : Launch} {e : Env} {s : State} {m : MethodId} {args : Array Value} {below : List Frame} {meth : Method} {c : Code} {cells slots : Nat} {Q : State → Prop} {D : va_G} {k : Nat → ClassId} {sa : Nat → Nat} {b L i : Nat} {xs : Nat → Int32} {ad bd : Nat → Nat} {o : Nat} {g : Nat → Int64} {M M' M1 : Nat → Nat → Nat} {O O' O1 : Nat → Nat → Int32} {th rr : Int32} {xq : Nat} {H : Heap} {locs : List Loc} {ls : Array Slot} (F : CallFix p m c cL_law 7 s args wsL_law RL) (hK : va_K D vwCl (tyL k) s) (hN : lwN s) (hE : zE (fun q => s.heap.size ≤ q) sa s s.heap) (hX : va_X b L xs s s.heap) (hbl : b < s.heap.size) (hi : i + 5 ≤ L) (hL : L ≤ 2560) (hc1 : cells + 6 ≤ 601024) (hc2 : slots + 35 ≤ 7293034) (hP : va_P D vwCl (lX k o g ad M O ++ zw 19 bd (cM k bd M O th)) H) (hD : va_D (fun q => s.heap.size ≤ q) (lX k o g ad M O ++ zw 19 bd (cM k bd M O th))) (hS : va_S (fun q => s.heap.size ≤ q) s.heap H locs) (hl : lv_has ls 7 [(0, .ref b), (1, .ref (ad 0)), (2, .ref (bd 0)), (3, .ref o), (4, .int (nI i))])
    (hcX : vx_Met l yX2_mostUrgent wsX2_mostUrgent ({ frames := 3, cells := 0, slots := 0, locals := 69 }) (va_Pc [.ref (ad 0)] (zPre D k ad M O H.size sa)) (zQop D k ad M M O (va_A (zw (20 + 2 * M 0 1) ad (cX k ad M O)) H.size) xq rr) (zX (fun E => exC E xq)) 0 0 (va_A (zw (20 + 2 * M 0 1) ad (cX k ad M O)) H.size))
    (hcM : ∀ sz : Nat, Met l yX3_mostUrgent wsX3_mostUrgent ({ frames := 1, cells := 0, slots := 0, locals := 26 }) (va_Pc [.ref (bd 0)] (zG D k 19 bd (cM k bd M O th) sz)) (zQw D k 19 bd (cM k bd M O (nI xq)) (va_A (zw 19 bd (cM k bd M O th)) sz) (fun r => xq = 0 → r = rr)) 0 0 (va_A (zw 19 bd (cM k bd M O th)) sz))
    (hq : xq = 0)
    (kk : ∀ (g1 : Nat → Int64) (ad1 : Nat → Nat) (H : Heap) (locs : List Loc) (ls : Array Slot), va_P D vwCl (lX k o g1 ad1 M O ++ zw 19 bd (cM k bd M O (nI xq))) H → va_D (fun q => s.heap.size ≤ q) (lX k o g1 ad1 M O ++ zw 19 bd (cM k bd M O (nI xq))) → va_S (fun q => s.heap.size ≤ q) s.heap H locs → lv_has ls 7 [(0, .ref b), (1, .ref (ad1 0)), (2, .ref (bd 0)), (3, .ref o), (4, .int (nI i))] → W p l e room_1 s m args below meth c H locs (cells + 6) (slots + 35) Q (F0 m 1755 ls [])) : W p l e room_1 s m args below meth c H locs cells slots Q (F0 m 1494 ls []) := by
  have hx := F.1
  have hb := F.2.1
  have hts := F.2.2.2.2
  have hown := F.2.2.2.1
  have hA : ∀ q : Nat, s.heap.size ≤ q → (fun q => s.heap.size ≤ q) q := fun _ h => h
  have hbA : ¬ (fun q => s.heap.size ≤ q) b := Nat.not_le.mpr hbl
  rw [List.append_assoc] at hP hD
  refine lv_aload_n hx hb dL_law_1494 rfl (lv_at hl 1 rfl) ?_
  refine lx_call (As := []) (rest := []) F hcX (cwV 0 hts gL_law_X2_mostUrgent rfl rfl rfl (by decide +kernel) ⟨Nat.le_of_ble_eq_true rfl, Nat.le_of_ble_eq_true rfl⟩) hK hP hD hS hA hE rfl hl.1 rfl (Nat.le_of_ble_eq_true rfl) dL_law_1495 ⟨by show _ ≤ 601024; omega, by show _ ≤ 7293034; omega⟩ (fun E ce q9 H1 locs1 hEx _ _ _ _ _ => ?_) (fun ad1 H locs h0 had hP hD hS => ?_)
  · exact absurd hEx (fun zz1 => by rcases zz1 with ⟨h1, _⟩ | ⟨h1, _⟩ | ⟨h1, _⟩ <;> omega)
  · rw [← List.append_assoc] at hP hD
    refine lv_aload_n hx hb dL_law_1498 rfl (lv_at hl 2 rfl) ?_
    refine law_M (wb := lX k o g ad1 M O) (As := []) (rest := [.int rr]) F (hcM _) (cwV 0 hts gL_law_X3_mostUrgent rfl rfl rfl (by decide +kernel) ⟨Nat.le_of_ble_eq_true rfl, Nat.le_of_ble_eq_true rfl⟩) hK hP hD hS hA rfl hl.1 rfl (Nat.le_of_ble_eq_true rfl) dL_law_1499 ⟨by show _ ≤ 601024; omega, by show _ ≤ 7293034; omega⟩ (fun r H locs hr0 hP hD hS => ?_)
    refine lv_icmp_eq (tgt := 1755) hx hb dL_law_1502 (by decide) (fun _ => ?_) (fun zz1 => absurd (hr0 hq).symm zz1)
    refine W.widen (k := cells + 6) (n := slots + 35) (by omega) (by omega) ?_
    exact kk _ _ _ _ _ hP hD hS (by rw [had 0 (by omega)]; exact lv_sub hl [0, 1, 2, 3, 4] rfl)
set_option maxRecDepth 100000 in
set_option maxHeartbeats 2000000 in
theorem lc_buy {p : Program} {l : Launch} {e : Env} {s : State} {m : MethodId} {args : Array Value} {below : List Frame} {meth : Method} {c : Code} {cells slots : Nat} {Q : State → Prop} {D : va_G} {k : Nat → ClassId} {sa : Nat → Nat} {b L i : Nat} {xs : Nat → Int32} {ad bd : Nat → Nat} {o : Nat} {g : Nat → Int64} {M M' M1 : Nat → Nat → Nat} {O O' O1 : Nat → Nat → Int32} {th rr : Int32} {xq : Nat} {H : Heap} {locs : List Loc} {ls : Array Slot} (F : CallFix p m c cL_law 7 s args wsL_law RL) (hK : va_K D vwCl (tyL k) s) (hN : lwN s) (hE : zE (fun q => s.heap.size ≤ q) sa s s.heap) (hX : va_X b L xs s s.heap) (hbl : b < s.heap.size) (hi : i + 5 ≤ L) (hL : L ≤ 2560) (hc1 : cells + 6 ≤ 601024) (hc2 : slots + 35 ≤ 7293034) (hP : va_P D vwCl (lX k o g ad M O ++ zw 19 bd (cM k bd M O th)) H) (hD : va_D (fun q => s.heap.size ≤ q) (lX k o g ad M O ++ zw 19 bd (cM k bd M O th))) (hS : va_S (fun q => s.heap.size ≤ q) s.heap H locs) (hl : lv_has ls 7 [(0, .ref b), (1, .ref (ad 0)), (2, .ref (bd 0)), (3, .ref o), (4, .int (nI i))])
    (hcX : vx_Met l yX2_buy wsX2_buy ({ frames := 8, cells := 2, slots := 12, locals := 124 }) (va_Pc [.ref (ad 0), .int (xs (i + 1)), .int (xs (i + 2))] (zPre D k ad M O H.size sa)) (zQop D k ad M M' O' (va_A (zw (20 + 2 * M 0 1) ad (cX k ad M O)) H.size) xq rr) (zX (fun E => exC E xq)) 2 12 (va_A (zw (20 + 2 * M 0 1) ad (cX k ad M O)) H.size))
    (hcM : ∀ sz : Nat, Met l yX3_buy wsX3_buy ({ frames := 2, cells := 0, slots := 0, locals := 42 }) (va_Pc [.ref (bd 0), .int (xs (i + 1)), .int (xs (i + 2))] (zG D k 19 bd (cM k bd M O th) sz)) (zQw D k 19 bd (cM k bd M1 O1 (nI (xq))) (va_A (zw 19 bd (cM k bd M O th)) sz) (fun r => xq = 0 → r = rr)) 0 0 (va_A (zw 19 bd (cM k bd M O th)) sz))
    (hq : xq ≤ 3) (h93 : xq ≠ 3) (e1 : xq = 0 → M1 = M' ∧ O1 = O') (e2 : xq ≠ 0 → M1 = M ∧ O1 = O)
    (kk : ∀ (g1 : Nat → Int64) (ad1 : Nat → Nat) (H : Heap) (locs : List Loc) (ls : Array Slot), va_P D vwCl (lX k o g1 ad1 M1 O1 ++ zw 19 bd (cM k bd M1 O1 (nI (xq)))) H → va_D (fun q => s.heap.size ≤ q) (lX k o g1 ad1 M1 O1 ++ zw 19 bd (cM k bd M1 O1 (nI (xq)))) → va_S (fun q => s.heap.size ≤ q) s.heap H locs → lv_has ls 7 [(0, .ref b), (1, .ref (ad1 0)), (2, .ref (bd 0)), (3, .ref o), (4, .int (nI i))] → W p l e room_1 s m args below meth c H locs (cells + 6) (slots + 35) Q (F0 m 1755 ls [])) : W p l e room_1 s m args below meth c H locs cells slots Q (F0 m 1507 ls []) := by
  have hx := F.1
  have hb := F.2.1
  have hts := F.2.2.2.2
  have hown := F.2.2.2.1
  have hA : ∀ q : Nat, s.heap.size ≤ q → (fun q => s.heap.size ≤ q) q := fun _ h => h
  have hbA : ¬ (fun q => s.heap.size ≤ q) b := Nat.not_le.mpr hbl
  refine lv_aload_n hx hb dL_law_1507 rfl (lv_at hl 1 rfl) ?_
  refine lv_aload_n hx hb dL_law_1508 rfl (lv_at hl 0 rfl) ?_
  refine lv_iload hx hb dL_law_1509 (lv_at hl 4 rfl) ?_
  refine lv_iconst (v := nI 1) hx hb dL_law_1511 (by decide) ?_
  refine z_add F dL_law_1512 ?_
  refine lw_sld F hX hbl hbA hS (show i + 1 < L by omega) hL dL_law_1513 ?_
  refine lv_aload_n hx hb dL_law_1514 rfl (lv_at hl 0 rfl) ?_
  refine lv_iload hx hb dL_law_1515 (lv_at hl 4 rfl) ?_
  refine lv_iconst (v := nI 2) hx hb dL_law_1517 (by decide) ?_
  refine z_add F dL_law_1518 ?_
  refine lw_sld F hX hbl hbA hS (show i + 2 < L by omega) hL dL_law_1519 ?_
  refine lv_aload_n hx hb dL_law_1520 rfl (lv_at hl 3 rfl) ?_
  refine law_X (wb := zw 19 bd (cM k bd M O th)) (As := [.ref (ad 0), .int (xs (i + 1)), .int (xs (i + 2)), .ref o]) (rest := []) F (c_L_buy l sa D k ad M O o g H.size (xs (i + 1)) (xs (i + 2)) hcX h93 e1 e2) (vx_cwSW 4 hts gL_law_L_buy rfl rfl rfl (by decide +kernel) ⟨Nat.le_of_ble_eq_true rfl, Nat.le_of_ble_eq_true rfl⟩) hK hN hE hP hD hS hA rfl hl.1 rfl (Nat.le_of_ble_eq_true rfl) dL_law_1521 ⟨by show _ ≤ 601024; omega, by show _ ≤ 7293034; omega⟩ (fun ad1 g1 H locs hg had hP hD hS => ?_)
  refine lv_istore (lv' := [(5, .int (nI xq)), (0, .ref b), (1, .ref (ad 0)), (2, .ref (bd 0)), (3, .ref o), (4, .int (nI i))]) hx hb dL_law_1524 hl (by decide) rfl (fun ls hl => ?_)
  refine lv_aload_n hx hb dL_law_1526 rfl (lv_at hl 3 rfl) ?_
  refine lv_aload_n hx hb dL_law_1527 rfl (lv_at hl 1 rfl) ?_
  refine lv_iload hx hb dL_law_1528 (lv_at hl 5 rfl) ?_
  refine lv_iconst (v := nI 1) hx hb dL_law_1530 (by decide) ?_
  refine z_add F dL_law_1531 ?_
  refine lw_sld F hX hbl hbA hS (show i + 1 < L by omega) hL dL_law_1532 ?_
  refine lv_aload_n hx hb dL_law_1533 rfl (lv_at hl 1 rfl) ?_
  refine lv_iload hx hb dL_law_1534 (lv_at hl 5 rfl) ?_
  refine lv_iconst (v := nI 2) hx hb dL_law_1536 (by decide) ?_
  refine z_add F dL_law_1537 ?_
  refine lw_sld F hX hbl hbA hS (show i + 2 < L by omega) hL dL_law_1538 ?_
  refine law_M (wb := lX k o g1 ad1 M1 O1) (As := [.int (xs (i + 1)), .int (xs (i + 2))]) (rest := []) F (hcM _) (cwV 2 hts gL_law_X3_buy rfl rfl rfl (by decide +kernel) ⟨Nat.le_of_ble_eq_true rfl, Nat.le_of_ble_eq_true rfl⟩) hK hP hD hS hA rfl hl.1 rfl (Nat.le_of_ble_eq_true rfl) dL_law_1539 ⟨by show _ ≤ 601024; omega, by show _ ≤ 7293034; omega⟩ (fun r H locs hr0 hP hD hS => ?_)
  refine lv_istore (lv' := [(6, .int r), (5, .int (nI xq)), (0, .ref b), (1, .ref (ad 0)), (2, .ref (bd 0)), (3, .ref o), (4, .int (nI i))]) hx hb dL_law_1542 hl (by decide) rfl (fun ls hl => ?_)
  refine lv_aload_n hx hb dL_law_1544 rfl (lv_at hl 4 rfl) ?_
  refine z_cV (qc := (RX3, TX3, 21)) (As := []) (rest := []) (0) F (c_X3_thrown l D k bd M1 O1 (nI (xq))) (cwV 0 hts gL_law_X3_thrown rfl rfl rfl (by decide +kernel) ⟨Nat.le_of_ble_eq_true rfl, Nat.le_of_ble_eq_true rfl⟩) hK (wP_r hP) (by omega) cM_0 rfl rfl hl.1 rfl (Nat.le_of_ble_eq_true rfl) dL_law_1545 ⟨by show _ ≤ 601024; omega, by show _ ≤ 7293034; omega⟩ (fun r9 hr9 => ?_)
  subst hr9
  refine lv_iload hx hb dL_law_1548 (lv_at hl 1 rfl) ?_
  refine lv_icmp_eq (tgt := 1555) hx hb dL_law_1550 (by decide) (fun _ => ?_) (fun zz1 => absurd rfl zz1)
  refine lv_iload hx hb dL_law_1555 (lv_at hl 1 rfl) ?_
  refine z_ifn_ne (tgt := 1572) F (by omega) dL_law_1557 (by decide) (fun zc => ?_) (fun zc => ?_)
  · refine lv_goto (tgt := 1755) hx hb dL_law_1572 (by decide) ?_
    refine W.widen (k := cells + 6) (n := slots + 35) (by omega) (by omega) ?_
    exact kk _ _ _ _ _ hP hD hS (by rw [had 0 (by omega)]; exact lv_sub hl [2, 3, 4, 5, 6] rfl)
  · have h0 : xq = 0 := by omega
    refine lv_aload_n hx hb dL_law_1560 rfl (lv_at hl 5 rfl) ?_
    refine lv_iconst (v := nI 0) hx hb dL_law_1561 (by decide) ?_
    refine lw_lald (g := g1) (ad := ad1) (M := M1) (O := O1) F hK hP dL_law_1562 ?_
    refine lv_iload hx hb dL_law_1563 (lv_at hl 0 rfl) ?_
    refine lv_i2l (v := (r).toInt64) hx hb dL_law_1565 rfl ?_
    refine W.lcmp hx hb dL_law_1566 ?_
    refine lv_if_eq (tgt := 1572) hx hb dL_law_1567 (by decide) (fun _ => ?_) (fun zz1 => absurd ((lg_cmp_eq _ _).mpr (by rw [hg h0, hr0 h0])) zz1)
    refine lv_goto (tgt := 1755) hx hb dL_law_1572 (by decide) ?_
    refine W.widen (k := cells + 6) (n := slots + 35) (by omega) (by omega) ?_
    exact kk _ _ _ _ _ hP hD hS (by rw [had 0 (by omega)]; exact lv_sub hl [2, 3, 4, 5, 6] rfl)
set_option maxRecDepth 100000 in
set_option maxHeartbeats 2000000 in
theorem lc_work {p : Program} {l : Launch} {e : Env} {s : State} {m : MethodId} {args : Array Value} {below : List Frame} {meth : Method} {c : Code} {cells slots : Nat} {Q : State → Prop} {D : va_G} {k : Nat → ClassId} {sa : Nat → Nat} {b L i : Nat} {xs : Nat → Int32} {ad bd : Nat → Nat} {o : Nat} {g : Nat → Int64} {M M' M1 : Nat → Nat → Nat} {O O' O1 : Nat → Nat → Int32} {th rr : Int32} {xq : Nat} {H : Heap} {locs : List Loc} {ls : Array Slot} (F : CallFix p m c cL_law 7 s args wsL_law RL) (hK : va_K D vwCl (tyL k) s) (hN : lwN s) (hE : zE (fun q => s.heap.size ≤ q) sa s s.heap) (hX : va_X b L xs s s.heap) (hbl : b < s.heap.size) (hi : i + 5 ≤ L) (hL : L ≤ 2560) (hc1 : cells + 6 ≤ 601024) (hc2 : slots + 35 ≤ 7293034) (hP : va_P D vwCl (lX k o g ad M O ++ zw 19 bd (cM k bd M O th)) H) (hD : va_D (fun q => s.heap.size ≤ q) (lX k o g ad M O ++ zw 19 bd (cM k bd M O th))) (hS : va_S (fun q => s.heap.size ≤ q) s.heap H locs) (hl : lv_has ls 7 [(0, .ref b), (1, .ref (ad 0)), (2, .ref (bd 0)), (3, .ref o), (4, .int (nI i))])
    (hcX : vx_Met l yX2_work wsX2_work ({ frames := 8, cells := 3, slots := 18, locals := 124 }) (va_Pc [.ref (ad 0), .int (xs (i + 1)), .int (xs (i + 2))] (zPre D k ad M O H.size sa)) (zQop D k ad M M' O' (va_A (zw (20 + 2 * M 0 1) ad (cX k ad M O)) H.size) xq rr) (zX (fun E => exC E xq)) 3 18 (va_A (zw (20 + 2 * M 0 1) ad (cX k ad M O)) H.size))
    (hcM : ∀ sz : Nat, Met l yX3_work wsX3_work ({ frames := 2, cells := 0, slots := 0, locals := 47 }) (va_Pc [.ref (bd 0), .int (xs (i + 1)), .int (xs (i + 2))] (zG D k 19 bd (cM k bd M O th) sz)) (zQw D k 19 bd (cM k bd M1 O1 (nI (xq))) (va_A (zw 19 bd (cM k bd M O th)) sz) (fun r => xq = 0 → r = rr)) 0 0 (va_A (zw 19 bd (cM k bd M O th)) sz))
    (hq : xq ≤ 3) (e1 : xq = 0 → M1 = M' ∧ O1 = O') (e2 : xq ≠ 0 → M1 = M ∧ O1 = O)
    (kk : ∀ (g1 : Nat → Int64) (ad1 : Nat → Nat) (H : Heap) (locs : List Loc) (ls : Array Slot), va_P D vwCl (lX k o g1 ad1 M1 O1 ++ zw 19 bd (cM k bd M1 O1 (nI (xq)))) H → va_D (fun q => s.heap.size ≤ q) (lX k o g1 ad1 M1 O1 ++ zw 19 bd (cM k bd M1 O1 (nI (xq)))) → va_S (fun q => s.heap.size ≤ q) s.heap H locs → lv_has ls 7 [(0, .ref b), (1, .ref (ad1 0)), (2, .ref (bd 0)), (3, .ref o), (4, .int (nI i))] → W p l e room_1 s m args below meth c H locs (cells + 6) (slots + 35) Q (F0 m 1755 ls [])) : W p l e room_1 s m args below meth c H locs cells slots Q (F0 m 1575 ls []) := by
  have hx := F.1
  have hb := F.2.1
  have hts := F.2.2.2.2
  have hown := F.2.2.2.1
  have hA : ∀ q : Nat, s.heap.size ≤ q → (fun q => s.heap.size ≤ q) q := fun _ h => h
  have hbA : ¬ (fun q => s.heap.size ≤ q) b := Nat.not_le.mpr hbl
  refine lv_aload_n hx hb dL_law_1575 rfl (lv_at hl 1 rfl) ?_
  refine lv_aload_n hx hb dL_law_1576 rfl (lv_at hl 0 rfl) ?_
  refine lv_iload hx hb dL_law_1577 (lv_at hl 4 rfl) ?_
  refine lv_iconst (v := nI 1) hx hb dL_law_1579 (by decide) ?_
  refine z_add F dL_law_1580 ?_
  refine lw_sld F hX hbl hbA hS (show i + 1 < L by omega) hL dL_law_1581 ?_
  refine lv_aload_n hx hb dL_law_1582 rfl (lv_at hl 0 rfl) ?_
  refine lv_iload hx hb dL_law_1583 (lv_at hl 4 rfl) ?_
  refine lv_iconst (v := nI 2) hx hb dL_law_1585 (by decide) ?_
  refine z_add F dL_law_1586 ?_
  refine lw_sld F hX hbl hbA hS (show i + 2 < L by omega) hL dL_law_1587 ?_
  refine lv_aload_n hx hb dL_law_1588 rfl (lv_at hl 3 rfl) ?_
  refine law_X (wb := zw 19 bd (cM k bd M O th)) (As := [.ref (ad 0), .int (xs (i + 1)), .int (xs (i + 2)), .ref o]) (rest := []) F (c_L_work l sa D k ad M O o g H.size (xs (i + 1)) (xs (i + 2)) hcX e1 e2) (vx_cwSW 4 hts gL_law_L_work rfl rfl rfl (by decide +kernel) ⟨Nat.le_of_ble_eq_true rfl, Nat.le_of_ble_eq_true rfl⟩) hK hN hE hP hD hS hA rfl hl.1 rfl (Nat.le_of_ble_eq_true rfl) dL_law_1589 ⟨by show _ ≤ 601024; omega, by show _ ≤ 7293034; omega⟩ (fun ad1 g1 H locs hg had hP hD hS => ?_)
  refine lv_istore (lv' := [(5, .int (nI xq)), (0, .ref b), (1, .ref (ad 0)), (2, .ref (bd 0)), (3, .ref o), (4, .int (nI i))]) hx hb dL_law_1592 hl (by decide) rfl (fun ls hl => ?_)
  refine lv_aload_n hx hb dL_law_1594 rfl (lv_at hl 3 rfl) ?_
  refine lv_aload_n hx hb dL_law_1595 rfl (lv_at hl 1 rfl) ?_
  refine lv_iload hx hb dL_law_1596 (lv_at hl 5 rfl) ?_
  refine lv_iconst (v := nI 1) hx hb dL_law_1598 (by decide) ?_
  refine z_add F dL_law_1599 ?_
  refine lw_sld F hX hbl hbA hS (show i + 1 < L by omega) hL dL_law_1600 ?_
  refine lv_aload_n hx hb dL_law_1601 rfl (lv_at hl 1 rfl) ?_
  refine lv_iload hx hb dL_law_1602 (lv_at hl 5 rfl) ?_
  refine lv_iconst (v := nI 2) hx hb dL_law_1604 (by decide) ?_
  refine z_add F dL_law_1605 ?_
  refine lw_sld F hX hbl hbA hS (show i + 2 < L by omega) hL dL_law_1606 ?_
  refine law_M (wb := lX k o g1 ad1 M1 O1) (As := [.int (xs (i + 1)), .int (xs (i + 2))]) (rest := []) F (hcM _) (cwV 2 hts gL_law_X3_work rfl rfl rfl (by decide +kernel) ⟨Nat.le_of_ble_eq_true rfl, Nat.le_of_ble_eq_true rfl⟩) hK hP hD hS hA rfl hl.1 rfl (Nat.le_of_ble_eq_true rfl) dL_law_1607 ⟨by show _ ≤ 601024; omega, by show _ ≤ 7293034; omega⟩ (fun r H locs hr0 hP hD hS => ?_)
  refine lv_istore (lv' := [(6, .int r), (5, .int (nI xq)), (0, .ref b), (1, .ref (ad 0)), (2, .ref (bd 0)), (3, .ref o), (4, .int (nI i))]) hx hb dL_law_1610 hl (by decide) rfl (fun ls hl => ?_)
  refine lv_aload_n hx hb dL_law_1612 rfl (lv_at hl 4 rfl) ?_
  refine z_cV (qc := (RX3, TX3, 21)) (As := []) (rest := []) (0) F (c_X3_thrown l D k bd M1 O1 (nI (xq))) (cwV 0 hts gL_law_X3_thrown rfl rfl rfl (by decide +kernel) ⟨Nat.le_of_ble_eq_true rfl, Nat.le_of_ble_eq_true rfl⟩) hK (wP_r hP) (by omega) cM_0 rfl rfl hl.1 rfl (Nat.le_of_ble_eq_true rfl) dL_law_1613 ⟨by show _ ≤ 601024; omega, by show _ ≤ 7293034; omega⟩ (fun r9 hr9 => ?_)
  subst hr9
  refine lv_iload hx hb dL_law_1616 (lv_at hl 1 rfl) ?_
  refine lv_icmp_eq (tgt := 1623) hx hb dL_law_1618 (by decide) (fun _ => ?_) (fun zz1 => absurd rfl zz1)
  refine lv_iload hx hb dL_law_1623 (lv_at hl 1 rfl) ?_
  refine z_ifn_ne (tgt := 1640) F (by omega) dL_law_1625 (by decide) (fun zc => ?_) (fun zc => ?_)
  · refine lv_goto (tgt := 1755) hx hb dL_law_1640 (by decide) ?_
    refine W.widen (k := cells + 6) (n := slots + 35) (by omega) (by omega) ?_
    exact kk _ _ _ _ _ hP hD hS (by rw [had 0 (by omega)]; exact lv_sub hl [2, 3, 4, 5, 6] rfl)
  · have h0 : xq = 0 := by omega
    refine lv_aload_n hx hb dL_law_1628 rfl (lv_at hl 5 rfl) ?_
    refine lv_iconst (v := nI 0) hx hb dL_law_1629 (by decide) ?_
    refine lw_lald (g := g1) (ad := ad1) (M := M1) (O := O1) F hK hP dL_law_1630 ?_
    refine lv_iload hx hb dL_law_1631 (lv_at hl 0 rfl) ?_
    refine lv_i2l (v := (r).toInt64) hx hb dL_law_1633 rfl ?_
    refine W.lcmp hx hb dL_law_1634 ?_
    refine lv_if_eq (tgt := 1640) hx hb dL_law_1635 (by decide) (fun _ => ?_) (fun zz1 => absurd ((lg_cmp_eq _ _).mpr (by rw [hg h0, hr0 h0])) zz1)
    refine lv_goto (tgt := 1755) hx hb dL_law_1640 (by decide) ?_
    refine W.widen (k := cells + 6) (n := slots + 35) (by omega) (by omega) ?_
    exact kk _ _ _ _ _ hP hD hS (by rw [had 0 (by omega)]; exact lv_sub hl [2, 3, 4, 5, 6] rfl)
set_option maxRecDepth 100000 in
set_option maxHeartbeats 2000000 in
theorem lc_ahead {p : Program} {l : Launch} {e : Env} {s : State} {m : MethodId} {args : Array Value} {below : List Frame} {meth : Method} {c : Code} {cells slots : Nat} {Q : State → Prop} {D : va_G} {k : Nat → ClassId} {sa : Nat → Nat} {b L i : Nat} {xs : Nat → Int32} {ad bd : Nat → Nat} {o : Nat} {g : Nat → Int64} {M M' M1 : Nat → Nat → Nat} {O O' O1 : Nat → Nat → Int32} {th rr : Int32} {xq : Nat} {H : Heap} {locs : List Loc} {ls : Array Slot} (F : CallFix p m c cL_law 7 s args wsL_law RL) (hK : va_K D vwCl (tyL k) s) (hN : lwN s) (hE : zE (fun q => s.heap.size ≤ q) sa s s.heap) (hX : va_X b L xs s s.heap) (hbl : b < s.heap.size) (hi : i + 5 ≤ L) (hL : L ≤ 2560) (hc1 : cells + 6 ≤ 601024) (hc2 : slots + 35 ≤ 7293034) (hP : va_P D vwCl (lX k o g ad M O ++ zw 19 bd (cM k bd M O th)) H) (hD : va_D (fun q => s.heap.size ≤ q) (lX k o g ad M O ++ zw 19 bd (cM k bd M O th))) (hS : va_S (fun q => s.heap.size ≤ q) s.heap H locs) (hl : lv_has ls 7 [(0, .ref b), (1, .ref (ad 0)), (2, .ref (bd 0)), (3, .ref o), (4, .int (nI i))])
    (hcX : vx_Met l yX2_ahead wsX2_ahead ({ frames := 7, cells := 1, slots := 6, locals := 104 }) (va_Pc [.ref (ad 0), .int (xs (i + 1))] (zPre D k ad M O H.size sa)) (zQop D k ad M M' O' (va_A (zw (20 + 2 * M 0 1) ad (cX k ad M O)) H.size) xq rr) (zX (fun E => exC E xq)) 1 6 (va_A (zw (20 + 2 * M 0 1) ad (cX k ad M O)) H.size))
    (hcM : ∀ sz : Nat, Met l yX3_ahead wsX3_ahead ({ frames := 2, cells := 0, slots := 0, locals := 42 }) (va_Pc [.ref (bd 0), .int (xs (i + 1))] (zG D k 19 bd (cM k bd M O th) sz)) (zQw D k 19 bd (cM k bd M1 O1 (nI (xq))) (va_A (zw 19 bd (cM k bd M O th)) sz) (fun r => xq = 0 → r = rr)) 0 0 (va_A (zw 19 bd (cM k bd M O th)) sz))
    (hq : xq ≤ 3) (h92 : xq ≠ 2) (h93 : xq ≠ 3) (e1 : xq = 0 → M1 = M' ∧ O1 = O') (e2 : xq ≠ 0 → M1 = M ∧ O1 = O)
    (kk : ∀ (g1 : Nat → Int64) (ad1 : Nat → Nat) (H : Heap) (locs : List Loc) (ls : Array Slot), va_P D vwCl (lX k o g1 ad1 M1 O1 ++ zw 19 bd (cM k bd M1 O1 (nI (xq)))) H → va_D (fun q => s.heap.size ≤ q) (lX k o g1 ad1 M1 O1 ++ zw 19 bd (cM k bd M1 O1 (nI (xq)))) → va_S (fun q => s.heap.size ≤ q) s.heap H locs → lv_has ls 7 [(0, .ref b), (1, .ref (ad1 0)), (2, .ref (bd 0)), (3, .ref o), (4, .int (nI i))] → W p l e room_1 s m args below meth c H locs (cells + 6) (slots + 35) Q (F0 m 1755 ls [])) : W p l e room_1 s m args below meth c H locs cells slots Q (F0 m 1643 ls []) := by
  have hx := F.1
  have hb := F.2.1
  have hts := F.2.2.2.2
  have hown := F.2.2.2.1
  have hA : ∀ q : Nat, s.heap.size ≤ q → (fun q => s.heap.size ≤ q) q := fun _ h => h
  have hbA : ¬ (fun q => s.heap.size ≤ q) b := Nat.not_le.mpr hbl
  refine lv_aload_n hx hb dL_law_1643 rfl (lv_at hl 1 rfl) ?_
  refine lv_aload_n hx hb dL_law_1644 rfl (lv_at hl 0 rfl) ?_
  refine lv_iload hx hb dL_law_1645 (lv_at hl 4 rfl) ?_
  refine lv_iconst (v := nI 1) hx hb dL_law_1647 (by decide) ?_
  refine z_add F dL_law_1648 ?_
  refine lw_sld F hX hbl hbA hS (show i + 1 < L by omega) hL dL_law_1649 ?_
  refine lv_aload_n hx hb dL_law_1650 rfl (lv_at hl 3 rfl) ?_
  refine law_X (wb := zw 19 bd (cM k bd M O th)) (As := [.ref (ad 0), .int (xs (i + 1)), .ref o]) (rest := []) F (c_L_ahead l sa D k ad M O o g H.size (xs (i + 1)) hcX h92 h93 e1 e2) (vx_cwSW 3 hts gL_law_L_ahead rfl rfl rfl (by decide +kernel) ⟨Nat.le_of_ble_eq_true rfl, Nat.le_of_ble_eq_true rfl⟩) hK hN hE hP hD hS hA rfl hl.1 rfl (Nat.le_of_ble_eq_true rfl) dL_law_1651 ⟨by show _ ≤ 601024; omega, by show _ ≤ 7293034; omega⟩ (fun ad1 g1 H locs hg had hP hD hS => ?_)
  refine lv_istore (lv' := [(5, .int (nI xq)), (0, .ref b), (1, .ref (ad 0)), (2, .ref (bd 0)), (3, .ref o), (4, .int (nI i))]) hx hb dL_law_1654 hl (by decide) rfl (fun ls hl => ?_)
  refine lv_aload_n hx hb dL_law_1656 rfl (lv_at hl 3 rfl) ?_
  refine lv_aload_n hx hb dL_law_1657 rfl (lv_at hl 1 rfl) ?_
  refine lv_iload hx hb dL_law_1658 (lv_at hl 5 rfl) ?_
  refine lv_iconst (v := nI 1) hx hb dL_law_1660 (by decide) ?_
  refine z_add F dL_law_1661 ?_
  refine lw_sld F hX hbl hbA hS (show i + 1 < L by omega) hL dL_law_1662 ?_
  refine law_M (wb := lX k o g1 ad1 M1 O1) (As := [.int (xs (i + 1))]) (rest := []) F (hcM _) (cwV 1 hts gL_law_X3_ahead rfl rfl rfl (by decide +kernel) ⟨Nat.le_of_ble_eq_true rfl, Nat.le_of_ble_eq_true rfl⟩) hK hP hD hS hA rfl hl.1 rfl (Nat.le_of_ble_eq_true rfl) dL_law_1663 ⟨by show _ ≤ 601024; omega, by show _ ≤ 7293034; omega⟩ (fun r H locs hr0 hP hD hS => ?_)
  refine lv_istore (lv' := [(6, .int r), (5, .int (nI xq)), (0, .ref b), (1, .ref (ad 0)), (2, .ref (bd 0)), (3, .ref o), (4, .int (nI i))]) hx hb dL_law_1666 hl (by decide) rfl (fun ls hl => ?_)
  refine lv_aload_n hx hb dL_law_1668 rfl (lv_at hl 4 rfl) ?_
  refine z_cV (qc := (RX3, TX3, 21)) (As := []) (rest := []) (0) F (c_X3_thrown l D k bd M1 O1 (nI (xq))) (cwV 0 hts gL_law_X3_thrown rfl rfl rfl (by decide +kernel) ⟨Nat.le_of_ble_eq_true rfl, Nat.le_of_ble_eq_true rfl⟩) hK (wP_r hP) (by omega) cM_0 rfl rfl hl.1 rfl (Nat.le_of_ble_eq_true rfl) dL_law_1669 ⟨by show _ ≤ 601024; omega, by show _ ≤ 7293034; omega⟩ (fun r9 hr9 => ?_)
  subst hr9
  refine lv_iload hx hb dL_law_1672 (lv_at hl 1 rfl) ?_
  refine lv_icmp_eq (tgt := 1679) hx hb dL_law_1674 (by decide) (fun _ => ?_) (fun zz1 => absurd rfl zz1)
  refine lv_iload hx hb dL_law_1679 (lv_at hl 1 rfl) ?_
  refine z_ifn_ne (tgt := 1696) F (by omega) dL_law_1681 (by decide) (fun zc => ?_) (fun zc => ?_)
  · refine lv_goto (tgt := 1755) hx hb dL_law_1696 (by decide) ?_
    refine W.widen (k := cells + 6) (n := slots + 35) (by omega) (by omega) ?_
    exact kk _ _ _ _ _ hP hD hS (by rw [had 0 (by omega)]; exact lv_sub hl [2, 3, 4, 5, 6] rfl)
  · have h0 : xq = 0 := by omega
    refine lv_aload_n hx hb dL_law_1684 rfl (lv_at hl 5 rfl) ?_
    refine lv_iconst (v := nI 0) hx hb dL_law_1685 (by decide) ?_
    refine lw_lald (g := g1) (ad := ad1) (M := M1) (O := O1) F hK hP dL_law_1686 ?_
    refine lv_iload hx hb dL_law_1687 (lv_at hl 0 rfl) ?_
    refine lv_i2l (v := (r).toInt64) hx hb dL_law_1689 rfl ?_
    refine W.lcmp hx hb dL_law_1690 ?_
    refine lv_if_eq (tgt := 1696) hx hb dL_law_1691 (by decide) (fun _ => ?_) (fun zz1 => absurd ((lg_cmp_eq _ _).mpr (by rw [hg h0, hr0 h0])) zz1)
    refine lv_goto (tgt := 1755) hx hb dL_law_1696 (by decide) ?_
    refine W.widen (k := cells + 6) (n := slots + 35) (by omega) (by omega) ?_
    exact kk _ _ _ _ _ hP hD hS (by rw [had 0 (by omega)]; exact lv_sub hl [2, 3, 4, 5, 6] rfl)
set_option maxRecDepth 100000 in
set_option maxHeartbeats 2000000 in
theorem lc_owes {p : Program} {l : Launch} {e : Env} {s : State} {m : MethodId} {args : Array Value} {below : List Frame} {meth : Method} {c : Code} {cells slots : Nat} {Q : State → Prop} {D : va_G} {k : Nat → ClassId} {sa : Nat → Nat} {b L i : Nat} {xs : Nat → Int32} {ad bd : Nat → Nat} {o : Nat} {g : Nat → Int64} {M M' M1 : Nat → Nat → Nat} {O O' O1 : Nat → Nat → Int32} {th rr : Int32} {xq : Nat} {H : Heap} {locs : List Loc} {ls : Array Slot} (F : CallFix p m c cL_law 7 s args wsL_law RL) (hK : va_K D vwCl (tyL k) s) (hN : lwN s) (hE : zE (fun q => s.heap.size ≤ q) sa s s.heap) (hX : va_X b L xs s s.heap) (hbl : b < s.heap.size) (hi : i + 5 ≤ L) (hL : L ≤ 2560) (hc1 : cells + 6 ≤ 601024) (hc2 : slots + 35 ≤ 7293034) (hP : va_P D vwCl (lX k o g ad M O ++ zw 19 bd (cM k bd M O th)) H) (hD : va_D (fun q => s.heap.size ≤ q) (lX k o g ad M O ++ zw 19 bd (cM k bd M O th))) (hS : va_S (fun q => s.heap.size ≤ q) s.heap H locs) (hl : lv_has ls 7 [(0, .ref b), (1, .ref (ad 0)), (2, .ref (bd 0)), (3, .ref o), (4, .int (nI i))])
    (hcX : vx_Met l yX2_owes wsX2_owes ({ frames := 7, cells := 1, slots := 6, locals := 104 }) (va_Pc [.ref (ad 0), .int (xs (i + 1))] (zPre D k ad M O H.size sa)) (zQop D k ad M M' O' (va_A (zw (20 + 2 * M 0 1) ad (cX k ad M O)) H.size) xq rr) (zX (fun E => exC E xq)) 1 6 (va_A (zw (20 + 2 * M 0 1) ad (cX k ad M O)) H.size))
    (hcM : ∀ sz : Nat, Met l yX3_owes wsX3_owes ({ frames := 2, cells := 0, slots := 0, locals := 42 }) (va_Pc [.ref (bd 0), .int (xs (i + 1))] (zG D k 19 bd (cM k bd M O th) sz)) (zQw D k 19 bd (cM k bd M1 O1 (nI (xq))) (va_A (zw 19 bd (cM k bd M O th)) sz) (fun r => xq = 0 → r = rr)) 0 0 (va_A (zw 19 bd (cM k bd M O th)) sz))
    (hq : xq ≤ 3) (h92 : xq ≠ 2) (h93 : xq ≠ 3) (e1 : xq = 0 → M1 = M' ∧ O1 = O') (e2 : xq ≠ 0 → M1 = M ∧ O1 = O)
    (kk : ∀ (g1 : Nat → Int64) (ad1 : Nat → Nat) (H : Heap) (locs : List Loc) (ls : Array Slot), va_P D vwCl (lX k o g1 ad1 M1 O1 ++ zw 19 bd (cM k bd M1 O1 (nI (xq)))) H → va_D (fun q => s.heap.size ≤ q) (lX k o g1 ad1 M1 O1 ++ zw 19 bd (cM k bd M1 O1 (nI (xq)))) → va_S (fun q => s.heap.size ≤ q) s.heap H locs → lv_has ls 7 [(0, .ref b), (1, .ref (ad1 0)), (2, .ref (bd 0)), (3, .ref o), (4, .int (nI i))] → W p l e room_1 s m args below meth c H locs (cells + 6) (slots + 35) Q (F0 m 1755 ls [])) : W p l e room_1 s m args below meth c H locs cells slots Q (F0 m 1699 ls []) := by
  have hx := F.1
  have hb := F.2.1
  have hts := F.2.2.2.2
  have hown := F.2.2.2.1
  have hA : ∀ q : Nat, s.heap.size ≤ q → (fun q => s.heap.size ≤ q) q := fun _ h => h
  have hbA : ¬ (fun q => s.heap.size ≤ q) b := Nat.not_le.mpr hbl
  refine lv_aload_n hx hb dL_law_1699 rfl (lv_at hl 1 rfl) ?_
  refine lv_aload_n hx hb dL_law_1700 rfl (lv_at hl 0 rfl) ?_
  refine lv_iload hx hb dL_law_1701 (lv_at hl 4 rfl) ?_
  refine lv_iconst (v := nI 1) hx hb dL_law_1703 (by decide) ?_
  refine z_add F dL_law_1704 ?_
  refine lw_sld F hX hbl hbA hS (show i + 1 < L by omega) hL dL_law_1705 ?_
  refine lv_aload_n hx hb dL_law_1706 rfl (lv_at hl 3 rfl) ?_
  refine law_X (wb := zw 19 bd (cM k bd M O th)) (As := [.ref (ad 0), .int (xs (i + 1)), .ref o]) (rest := []) F (c_L_owes l sa D k ad M O o g H.size (xs (i + 1)) hcX h92 h93 e1 e2) (vx_cwSW 3 hts gL_law_L_owes rfl rfl rfl (by decide +kernel) ⟨Nat.le_of_ble_eq_true rfl, Nat.le_of_ble_eq_true rfl⟩) hK hN hE hP hD hS hA rfl hl.1 rfl (Nat.le_of_ble_eq_true rfl) dL_law_1707 ⟨by show _ ≤ 601024; omega, by show _ ≤ 7293034; omega⟩ (fun ad1 g1 H locs hg had hP hD hS => ?_)
  refine lv_istore (lv' := [(5, .int (nI xq)), (0, .ref b), (1, .ref (ad 0)), (2, .ref (bd 0)), (3, .ref o), (4, .int (nI i))]) hx hb dL_law_1710 hl (by decide) rfl (fun ls hl => ?_)
  refine lv_aload_n hx hb dL_law_1712 rfl (lv_at hl 3 rfl) ?_
  refine lv_aload_n hx hb dL_law_1713 rfl (lv_at hl 1 rfl) ?_
  refine lv_iload hx hb dL_law_1714 (lv_at hl 5 rfl) ?_
  refine lv_iconst (v := nI 1) hx hb dL_law_1716 (by decide) ?_
  refine z_add F dL_law_1717 ?_
  refine lw_sld F hX hbl hbA hS (show i + 1 < L by omega) hL dL_law_1718 ?_
  refine law_M (wb := lX k o g1 ad1 M1 O1) (As := [.int (xs (i + 1))]) (rest := []) F (hcM _) (cwV 1 hts gL_law_X3_owes rfl rfl rfl (by decide +kernel) ⟨Nat.le_of_ble_eq_true rfl, Nat.le_of_ble_eq_true rfl⟩) hK hP hD hS hA rfl hl.1 rfl (Nat.le_of_ble_eq_true rfl) dL_law_1719 ⟨by show _ ≤ 601024; omega, by show _ ≤ 7293034; omega⟩ (fun r H locs hr0 hP hD hS => ?_)
  refine lv_istore (lv' := [(6, .int r), (5, .int (nI xq)), (0, .ref b), (1, .ref (ad 0)), (2, .ref (bd 0)), (3, .ref o), (4, .int (nI i))]) hx hb dL_law_1722 hl (by decide) rfl (fun ls hl => ?_)
  refine lv_aload_n hx hb dL_law_1724 rfl (lv_at hl 4 rfl) ?_
  refine z_cV (qc := (RX3, TX3, 21)) (As := []) (rest := []) (0) F (c_X3_thrown l D k bd M1 O1 (nI (xq))) (cwV 0 hts gL_law_X3_thrown rfl rfl rfl (by decide +kernel) ⟨Nat.le_of_ble_eq_true rfl, Nat.le_of_ble_eq_true rfl⟩) hK (wP_r hP) (by omega) cM_0 rfl rfl hl.1 rfl (Nat.le_of_ble_eq_true rfl) dL_law_1725 ⟨by show _ ≤ 601024; omega, by show _ ≤ 7293034; omega⟩ (fun r9 hr9 => ?_)
  subst hr9
  refine lv_iload hx hb dL_law_1728 (lv_at hl 1 rfl) ?_
  refine lv_icmp_eq (tgt := 1735) hx hb dL_law_1730 (by decide) (fun _ => ?_) (fun zz1 => absurd rfl zz1)
  refine lv_iload hx hb dL_law_1735 (lv_at hl 1 rfl) ?_
  refine z_ifn_ne (tgt := 1752) F (by omega) dL_law_1737 (by decide) (fun zc => ?_) (fun zc => ?_)
  · refine lv_goto (tgt := 1755) hx hb dL_law_1752 (by decide) ?_
    refine W.widen (k := cells + 6) (n := slots + 35) (by omega) (by omega) ?_
    exact kk _ _ _ _ _ hP hD hS (by rw [had 0 (by omega)]; exact lv_sub hl [2, 3, 4, 5, 6] rfl)
  · have h0 : xq = 0 := by omega
    refine lv_aload_n hx hb dL_law_1740 rfl (lv_at hl 5 rfl) ?_
    refine lv_iconst (v := nI 0) hx hb dL_law_1741 (by decide) ?_
    refine lw_lald (g := g1) (ad := ad1) (M := M1) (O := O1) F hK hP dL_law_1742 ?_
    refine lv_iload hx hb dL_law_1743 (lv_at hl 0 rfl) ?_
    refine lv_i2l (v := (r).toInt64) hx hb dL_law_1745 rfl ?_
    refine W.lcmp hx hb dL_law_1746 ?_
    refine lv_if_eq (tgt := 1752) hx hb dL_law_1747 (by decide) (fun _ => ?_) (fun zz1 => absurd ((lg_cmp_eq _ _).mpr (by rw [hg h0, hr0 h0])) zz1)
    refine lv_goto (tgt := 1755) hx hb dL_law_1752 (by decide) ?_
    refine W.widen (k := cells + 6) (n := slots + 35) (by omega) (by omega) ?_
    exact kk _ _ _ _ _ hP hD hS (by rw [had 0 (by omega)]; exact lv_sub hl [2, 3, 4, 5, 6] rfl)
