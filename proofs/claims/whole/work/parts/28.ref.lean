/-! THE REFERENCE: pass, hour by hour: b the time, the cases below c and the stages of c below s have had this hour. -/
def pM (M : Nat → Nat → Nat) (a b c s : Nat) : Nat → Nat → Nat := fun r x => if r = 0 ∧ x = 0 then b else if r = 15 ∧ x / 3 < M 0 1 then (if x / 3 < c ∨ (x / 3 = c ∧ x % 3 < s) then rkv M a (b + 1) (x / 3) (x % 3) else rkv M a b (x / 3) (x % 3)) else M r x
theorem rkv_s {M : Nat → Nat → Nat} {a b c s : Nat} (hab : a ≤ b) (h : M 12 c = 0 ∧ M 14 c = 0) (hc : hrB M (M 9 c) b = true) : rkv M a (b + 1) c s = rkv M a b c s + (if s < M 16 c then 0 else 1) := by
  have hmo := hN_up M (M 9 c) hab
  unfold rkv
  by_cases q : s < M 16 c
  · rw [if_neg (fun zz1 => zz1.2 q), if_neg (fun zz1 => zz1.2 q), if_pos q]
    rfl
  · rw [if_pos ⟨h, q⟩, if_pos ⟨h, q⟩, if_neg q, hN_y hmo hc]
    omega
theorem rkv_o {M : Nat → Nat → Nat} {a b c s : Nat} (h : ¬ (M 12 c = 0 ∧ M 14 c = 0) ∨ ¬ hrB M (M 9 c) b = true) : rkv M a (b + 1) c s = rkv M a b c s := by
  unfold rkv
  by_cases q : (M 12 c = 0 ∧ M 14 c = 0) ∧ ¬ s < M 16 c
  · rw [if_pos q, if_pos q]
    rcases h with h | h
    · exact absurd q.1 h
    · rw [hN_n h]; rfl
  · rw [if_neg q, if_neg q]
theorem rkv_0 {M : Nat → Nat → Nat} {a c s : Nat} : rkv M a a c s = M 15 (3 * c + s) := by
  unfold rkv
  rw [Nat.sub_self]
  split <;> rfl
theorem pM_0 {M : Nat → Nat → Nat} : pM M (M 0 0) (M 0 0) 0 0 = M := by
  funext r x
  unfold pM
  by_cases h : r = 0 ∧ x = 0
  · rw [if_pos h, h.1, h.2]
  rw [if_neg h]
  by_cases h2 : r = 15 ∧ x / 3 < M 0 1
  · rw [if_pos h2, if_neg (by omega), rkv_0, h2.1, show 3 * (x / 3) + x % 3 = x by omega]
  · rw [if_neg h2]
theorem pM_e {M : Nat → Nat → Nat} {a b : Nat} : pM M a b 0 0 = zu (rkM M a b (M 0 1)) 0 0 b := by
  funext r x
  unfold pM zu rkM
  by_cases h : r = 0 ∧ x = 0
  · rw [if_pos h, if_pos h]
  rw [if_neg h, if_neg h]
  by_cases h2 : r = 15 ∧ x / 3 < M 0 1
  · rw [if_pos h2, if_neg (by omega), if_pos h2]
  · rw [if_neg h2, if_neg h2]
theorem pM_h {M : Nat → Nat → Nat} {a b : Nat} : zu (pM M a b (M 0 1) 0) 0 0 (b + 1) = pM M a (b + 1) 0 0 := by
  funext r x
  unfold pM zu
  by_cases h : r = 0 ∧ x = 0
  · rw [if_pos h, if_pos h]
  rw [if_neg h, if_neg h]
  show (if r = 0 ∧ x = 0 then _ else _) = _
  rw [if_neg h]
  by_cases h2 : r = 15 ∧ x / 3 < M 0 1
  · rw [if_pos h2, if_pos h2, if_pos (Or.inl h2.2), if_neg (by omega)]
  · rw [if_neg h2, if_neg h2]
theorem pM_c {M : Nat → Nat → Nat} {a b c : Nat} : pM M a b c 3 = pM M a b (c + 1) 0 := by
  funext r x
  unfold pM
  have e : (x / 3 < c ∨ (x / 3 = c ∧ x % 3 < 3)) = (x / 3 < c + 1 ∨ (x / 3 = c + 1 ∧ x % 3 < 0)) := propext (by omega)
  simp only [e]
theorem pM_o {M : Nat → Nat → Nat} {a b c : Nat} (h : ¬ (M 12 c = 0 ∧ M 14 c = 0) ∨ ¬ hrB M (M 9 c) b = true) : pM M a b c 0 = pM M a b (c + 1) 0 := by
  funext r x
  unfold pM
  by_cases h0 : r = 0 ∧ x = 0
  · rw [if_pos h0, if_pos h0]
  rw [if_neg h0, if_neg h0]
  by_cases h2 : r = 15 ∧ x / 3 < M 0 1
  · rw [if_pos h2, if_pos h2]
    by_cases h3 : x / 3 = c
    · rw [if_neg (by omega), if_pos (by omega), h3, rkv_o h]
    · by_cases h4 : x / 3 < c
      · rw [if_pos (Or.inl h4), if_pos (by omega)]
      · rw [if_neg (by omega), if_neg (by omega)]
  · rw [if_neg h2, if_neg h2]
theorem pM_k {M : Nat → Nat → Nat} {a b c s : Nat} (hc : c < M 0 1) (hs : s < 3) : pM M a b c s 15 (3 * c + s) = rkv M a b c s := by
  unfold pM
  rw [if_neg (by omega), if_pos (by omega), if_neg (by omega), show (3 * c + s) / 3 = c by omega, show (3 * c + s) % 3 = s by omega]
theorem pM_s {M : Nat → Nat → Nat} {a b c s : Nat} (hab : a ≤ b) (hc : c < M 0 1) (hs : s < 3) (h : M 12 c = 0 ∧ M 14 c = 0) (hh : hrB M (M 9 c) b = true) {v : Nat} (hv : v = pM M a b c s 15 (3 * c + s) + (if s < M 16 c then 0 else 1)) : zu (pM M a b c s) 15 (3 * c + s) v = pM M a b c (s + 1) := by
  rw [pM_k hc hs, ← rkv_s hab h hh] at hv
  subst hv
  funext r x
  by_cases h1 : r = 15 ∧ x = 3 * c + s
  · obtain ⟨rfl, rfl⟩ := h1
    rw [zu_s]
    unfold pM
    rw [if_neg (by omega), if_pos (by omega), if_pos (by omega), show (3 * c + s) / 3 = c by omega, show (3 * c + s) % 3 = s by omega]
  · have e : zu (pM M a b c s) 15 (3 * c + s) (rkv M a (b + 1) c s) r x = pM M a b c s r x := if_neg h1
    rw [e]
    unfold pM
    by_cases h0 : r = 0 ∧ x = 0
    · rw [if_pos h0, if_pos h0]
    rw [if_neg h0, if_neg h0]
    by_cases h2 : r = 15 ∧ x / 3 < M 0 1
    · rw [if_pos h2, if_pos h2]
      by_cases h3 : x / 3 < c ∨ (x / 3 = c ∧ x % 3 < s)
      · rw [if_pos h3, if_pos (by omega)]
      · rw [if_neg h3, if_neg (by omega)]
    · rw [if_neg h2, if_neg h2]
set_option maxRecDepth 100000 in
set_option maxHeartbeats 1000000 in
theorem lp_passS {p : Program} {l : Launch} {e : Env} {s : State} {m : MethodId} {args : Array Value} {below : List Frame} {meth : Method} {c : Code} {Q : State → Prop} {D : va_G} {k : Nat → ClassId} {bd : Nat → Nat} {M : Nat → Nat → Nat} {O : Nat → Nat → Int32} {th : Int32} (F : CallFix p m c cX3_pass 6 s args wsX3_pass RX3) (hK : va_K D vwCl (tyL k) s)
    {A : Nat → Prop} {a b n h : Nat} (hab : a ≤ b) (hb9 : b ≤ 24000) (h40 : M 0 1 ≤ 40) {c0 : Nat} (hc0 : c0 < M 0 1) (hrun : M 12 c0 = 0 ∧ M 14 c0 = 0) (hcnt : hrB M (M 9 c0) b = true)
    (k0 : ∀ (H : Heap) (locs : List Loc), va_P D vwCl (zw 19 bd (cM k bd (pM M a b c0 3) O th)) H → va_D A (zw 19 bd (cM k bd (pM M a b c0 3) O th)) → va_S A s.heap H locs → ∀ (ls : Array Slot), lv_has ls 6 [(4, .int (nI c0)), (3, .int (nI n)), (0, .ref (bd 0)), (1, .int (nI h))] → W p l e (headSpec wsX3_pass ({ frames := 2, cells := 0, slots := 0, locals := 44 })).room s m args below meth c H locs (0 + 0) (0 + 0) Q (F0 m 147 ls [])) :
    ∀ (fu s0 : Nat) (H : Heap) (locs : List Loc), s0 ≤ 3 → 3 < s0 + fu → va_P D vwCl (zw 19 bd (cM k bd (pM M a b c0 s0) O th)) H → va_D A (zw 19 bd (cM k bd (pM M a b c0 s0) O th)) → va_S A s.heap H locs → ∀ (ls : Array Slot), lv_has ls 6 [(5, .int (nI s0)), (4, .int (nI c0)), (3, .int (nI n)), (0, .ref (bd 0)), (1, .int (nI h))] → W p l e (headSpec wsX3_pass ({ frames := 2, cells := 0, slots := 0, locals := 44 })).room s m args below meth c H locs (0 + 0) (0 + 0) Q (F0 m 100 ls []) := by
  have hx := F.1
  have hb := F.2.1
  have hts := F.2.2.2.2
  have hown := F.2.2.2.1
  have hi3 : ∀ w ∈ u_ws RX3 TX3 21, w ∈ wsX3_pass := by decide +kernel
  intro fu
  induction fu with
  | zero => intro s0 H locs h1 h2; omega
  | succ fu ih =>
    intro s0 H locs h1 h2 hP hD hS ls hl
    refine lv_iload hx hb dX3_pass_100 (lv_at hl 0 rfl) ?_
    refine lv_iconst (v := nI 2) hx hb dX3_pass_102 (by decide) ?_
    refine z_icmp_gt (tgt := 147) F (by omega) (by omega) dX3_pass_103 (by decide) (fun c1 => ?_) (fun c1 => ?_)
    · obtain rfl : s0 = 3 := by omega
      exact k0 H locs hP hD hS ls (lv_sub hl [1, 2, 3, 4] rfl)
    · refine lv_aload_n hx hb dX3_pass_106 rfl (lv_at hl 3 rfl) ?_
      refine z_get (C := RX3) (T := TX3) (N := 21) (ci := 3) (fs := mObj bd (pM M a b c0 s0) th) (v := .ref (bd 15)) F hK hP hi3 rfl (0) 15 (by omega) cM_0 (by decide) rfl (by decide +kernel) dX3_pass_107 ?_
      refine lv_iconst (v := nI 3) hx hb dX3_pass_110 (by decide) ?_
      refine lv_iload hx hb dX3_pass_111 (lv_at hl 1 rfl) ?_
      refine z_mul F dX3_pass_113 ?_
      refine lv_iload hx hb dX3_pass_114 (lv_at hl 0 rfl) ?_
      refine z_add F dX3_pass_116 ?_
      refine lv_dup2_11 hx hb dX3_pass_117 rfl rfl ?_
      refine z_iald (v := nI ((pM M a b c0 s0) 15 ((3 * c0) + s0))) (cA := k 0) (len := 120) (g := mA (pM M a b c0 s0) O 15) F hK hP (15) 0 (by omega) rfl rfl (i := nI ((3 * c0) + s0)) ((3 * c0) + s0) rfl (by omega) (by decide) rfl dX3_pass_118 ?_
      refine lv_aload_n hx hb dX3_pass_119 rfl (lv_at hl 3 rfl) ?_
      refine z_get (C := RX3) (T := TX3) (N := 21) (ci := 3) (fs := mObj bd (pM M a b c0 s0) th) (v := .ref (bd 16)) F hK hP hi3 rfl (0) 16 (by omega) cM_0 (by decide) rfl (by decide +kernel) dX3_pass_120 ?_
      refine lv_iconst (v := nI 3) hx hb dX3_pass_123 (by decide) ?_
      refine lv_iload hx hb dX3_pass_124 (lv_at hl 1 rfl) ?_
      refine z_mul F dX3_pass_126 ?_
      refine lv_iload hx hb dX3_pass_127 (lv_at hl 0 rfl) ?_
      refine z_add F dX3_pass_129 ?_
      refine z_zald (v := bI (s0 < M 16 c0)) (cA := k 1) (len := 120) (g := mA (pM M a b c0 s0) O 16) F hK hP (16) 1 (by omega) rfl rfl (i := nI ((3 * c0) + s0)) ((3 * c0) + s0) rfl (by omega) (by decide) (mA_16 (by omega)) dX3_pass_130 ?_
      refine z_ifb_eq (tgt := 138) F dX3_pass_131 (by decide) (fun c2 => ?_) (fun c2 => ?_)
      · refine lv_iconst (v := nI 1) hx hb dX3_pass_138 (by decide) ?_
        refine z_add F dX3_pass_139 ?_
        refine z_iast (f' := (cM k bd (zu (pM M a b c0 s0) 15 ((3 * c0) + s0) (((pM M a b c0 s0) 15 ((3 * c0) + s0)) + 1)) O th)) (cA := k 0) (len := 120) (g := mA (pM M a b c0 s0) O 15) F hK hP hD hS (15) 0 (by omega) rfl rfl (i := nI ((3 * c0) + s0)) ((3 * c0) + s0) rfl (by omega) (by decide) (cM_urow 15 (by decide) (by decide) (by decide) (by decide) (by decide) _ _) dX3_pass_140 (fun H locs hP hD hS => ?_)
        rw [pM_s hab hc0 (by omega) hrun hcnt (by rw [if_neg c2])] at hP hD
        refine lv_iinc (v := nI (s0 + 1)) (lv' := [(5, .int (nI (s0 + 1))), (4, .int (nI c0)), (3, .int (nI n)), (0, .ref (bd 0)), (1, .int (nI h))]) hx hb dX3_pass_141 hl (k := 0) rfl (nI_1 s0) (by decide) rfl (fun ls hl => ?_)
        refine lv_goto (tgt := 100) hx hb dX3_pass_144 (by decide) ?_
        exact ih (s0 + 1) H locs (by omega) (by omega) hP hD hS ls (lv_sub hl [0, 1, 2, 3, 4] rfl)
      · refine lv_iconst (v := nI 0) hx hb dX3_pass_134 (by decide) ?_
        refine lv_goto (tgt := 139) hx hb dX3_pass_135 (by decide) ?_
        refine z_add F dX3_pass_139 ?_
        refine z_iast (f' := (cM k bd (zu (pM M a b c0 s0) 15 ((3 * c0) + s0) (((pM M a b c0 s0) 15 ((3 * c0) + s0)) + 0)) O th)) (cA := k 0) (len := 120) (g := mA (pM M a b c0 s0) O 15) F hK hP hD hS (15) 0 (by omega) rfl rfl (i := nI ((3 * c0) + s0)) ((3 * c0) + s0) rfl (by omega) (by decide) (cM_urow 15 (by decide) (by decide) (by decide) (by decide) (by decide) _ _) dX3_pass_140 (fun H locs hP hD hS => ?_)
        rw [pM_s hab hc0 (by omega) hrun hcnt (by rw [if_pos c2])] at hP hD
        refine lv_iinc (v := nI (s0 + 1)) (lv' := [(5, .int (nI (s0 + 1))), (4, .int (nI c0)), (3, .int (nI n)), (0, .ref (bd 0)), (1, .int (nI h))]) hx hb dX3_pass_141 hl (k := 0) rfl (nI_1 s0) (by decide) rfl (fun ls hl => ?_)
        refine lv_goto (tgt := 100) hx hb dX3_pass_144 (by decide) ?_
        exact ih (s0 + 1) H locs (by omega) (by omega) hP hD hS ls (lv_sub hl [0, 1, 2, 3, 4] rfl)
set_option maxRecDepth 100000 in
set_option maxHeartbeats 1000000 in
theorem lp_passC {p : Program} {l : Launch} {e : Env} {s : State} {m : MethodId} {args : Array Value} {below : List Frame} {meth : Method} {c : Code} {Q : State → Prop} {D : va_G} {k : Nat → ClassId} {bd : Nat → Nat} {M : Nat → Nat → Nat} {O : Nat → Nat → Int32} {th : Int32} (F : CallFix p m c cX3_pass 6 s args wsX3_pass RX3) (hK : va_K D vwCl (tyL k) s)
    {A : Nat → Prop} {a b n h : Nat} (hab : a ≤ b) (hb9 : b ≤ 24000) (h40 : M 0 1 ≤ 40) (hca : ∀ c, c < M 0 1 → zCa M c) (hI3 : ∀ i, i < 4 → zSi M i ∧ zCo M i)
    (k0 : ∀ (H : Heap) (locs : List Loc), va_P D vwCl (zw 19 bd (cM k bd (pM M a b (M 0 1) 0) O th)) H → va_D A (zw 19 bd (cM k bd (pM M a b (M 0 1) 0) O th)) → va_S A s.heap H locs → ∀ (ls : Array Slot), lv_has ls 6 [(3, .int (nI n)), (0, .ref (bd 0)), (1, .int (nI h))] → W p l e (headSpec wsX3_pass ({ frames := 2, cells := 0, slots := 0, locals := 44 })).room s m args below meth c H locs (0 + 0) (0 + 0) Q (F0 m 153 ls [])) :
    ∀ (fu c0 : Nat) (H : Heap) (locs : List Loc), c0 ≤ M 0 1 → M 0 1 < c0 + fu → va_P D vwCl (zw 19 bd (cM k bd (pM M a b c0 0) O th)) H → va_D A (zw 19 bd (cM k bd (pM M a b c0 0) O th)) → va_S A s.heap H locs → ∀ (ls : Array Slot), lv_has ls 6 [(4, .int (nI c0)), (3, .int (nI n)), (0, .ref (bd 0)), (1, .int (nI h))] → W p l e (headSpec wsX3_pass ({ frames := 2, cells := 0, slots := 0, locals := 44 })).room s m args below meth c H locs (0 + 0) (0 + 0) Q (F0 m 50 ls []) := by
  have hx := F.1
  have hb := F.2.1
  have hts := F.2.2.2.2
  have hown := F.2.2.2.1
  have hi3 : ∀ w ∈ u_ws RX3 TX3 21, w ∈ wsX3_pass := by decide +kernel
  intro fu
  induction fu with
  | zero => intro c0 H locs h1 h2; omega
  | succ fu ih =>
    intro c0 H locs h1 h2 hP hD hS ls hl
    refine lv_iload hx hb dX3_pass_50 (lv_at hl 0 rfl) ?_
    refine lv_aload_n hx hb dX3_pass_52 rfl (lv_at hl 2 rfl) ?_
    refine z_get (C := RX3) (T := TX3) (N := 21) (ci := 3) (fs := mObj bd (pM M a b c0 0) th) (v := .int (nI (M 0 1))) F hK hP hi3 rfl (0) 17 (by omega) cM_0 (by decide) rfl (by decide +kernel) dX3_pass_53 ?_
    refine z_icmp_ge (tgt := 153) F (by omega) (by omega) dX3_pass_56 (by decide) (fun c3 => ?_) (fun c3 => ?_)
    · obtain rfl : c0 = M 0 1 := by omega
      exact k0 H locs hP hD hS ls (lv_sub hl [1, 2, 3] rfl)
    · obtain ⟨hc1, hc2, hc3, hc4, hc5, hc6, hc7⟩ := hca c0 (by omega)
      obtain ⟨hs, hco⟩ := hI3 _ hc1
      refine lv_aload_n hx hb dX3_pass_59 rfl (lv_at hl 2 rfl) ?_
      refine z_get (C := RX3) (T := TX3) (N := 21) (ci := 3) (fs := mObj bd (pM M a b c0 0) th) (v := .ref (bd 12)) F hK hP hi3 rfl (0) 12 (by omega) cM_0 (by decide) rfl (by decide +kernel) dX3_pass_60 ?_
      refine lv_iload hx hb dX3_pass_63 (lv_at hl 0 rfl) ?_
      refine z_iald (v := nI (M 12 c0)) (cA := k 0) (len := 40) (g := mA (pM M a b c0 0) O 12) F hK hP (12) 0 (by omega) rfl rfl (i := nI c0) c0 rfl (by omega) (by decide) rfl dX3_pass_65 ?_
      refine z_ifn_ne (tgt := 147) F (by omega) dX3_pass_66 (by decide) (fun c4 => ?_) (fun c4 => ?_)
      · rw [pM_o (Or.inl (fun zz1 => c4 zz1.1))] at hP hD
        refine lv_iinc (v := nI (c0 + 1)) (lv' := [(4, .int (nI (c0 + 1))), (3, .int (nI n)), (0, .ref (bd 0)), (1, .int (nI h))]) hx hb dX3_pass_147 hl (k := 0) rfl (nI_1 c0) (by decide) rfl (fun ls hl => ?_)
        refine lv_goto (tgt := 50) hx hb dX3_pass_150 (by decide) ?_
        exact ih (c0 + 1) H locs (by omega) (by omega) hP hD hS ls (lv_sub hl [0, 1, 2, 3] rfl)
      · refine lv_aload_n hx hb dX3_pass_69 rfl (lv_at hl 2 rfl) ?_
        refine z_get (C := RX3) (T := TX3) (N := 21) (ci := 3) (fs := mObj bd (pM M a b c0 0) th) (v := .ref (bd 14)) F hK hP hi3 rfl (0) 14 (by omega) cM_0 (by decide) rfl (by decide +kernel) dX3_pass_70 ?_
        refine lv_iload hx hb dX3_pass_73 (lv_at hl 0 rfl) ?_
        refine z_zald (v := nI (M 14 c0)) (cA := k 1) (len := 40) (g := mA (pM M a b c0 0) O 14) F hK hP (14) 1 (by omega) rfl rfl (i := nI c0) c0 rfl (by omega) (by decide) rfl dX3_pass_75 ?_
        refine z_ifn_ne (tgt := 147) F (by omega) dX3_pass_76 (by decide) (fun c5 => ?_) (fun c5 => ?_)
        · rw [pM_o (Or.inl (fun zz1 => c5 zz1.2))] at hP hD
          refine lv_iinc (v := nI (c0 + 1)) (lv' := [(4, .int (nI (c0 + 1))), (3, .int (nI n)), (0, .ref (bd 0)), (1, .int (nI h))]) hx hb dX3_pass_147 hl (k := 0) rfl (nI_1 c0) (by decide) rfl (fun ls hl => ?_)
          refine lv_goto (tgt := 50) hx hb dX3_pass_150 (by decide) ?_
          exact ih (c0 + 1) H locs (by omega) (by omega) hP hD hS ls (lv_sub hl [0, 1, 2, 3] rfl)
        · refine lv_aload_n hx hb dX3_pass_79 rfl (lv_at hl 2 rfl) ?_
          refine lv_aload_n hx hb dX3_pass_80 rfl (lv_at hl 2 rfl) ?_
          refine z_get (C := RX3) (T := TX3) (N := 21) (ci := 3) (fs := mObj bd (pM M a b c0 0) th) (v := .ref (bd 9)) F hK hP hi3 rfl (0) 9 (by omega) cM_0 (by decide) rfl (by decide +kernel) dX3_pass_81 ?_
          refine lv_iload hx hb dX3_pass_84 (lv_at hl 0 rfl) ?_
          refine z_iald (v := nI (M 9 c0)) (cA := k 0) (len := 40) (g := mA (pM M a b c0 0) O 9) F hK hP (9) 0 (by omega) rfl rfl (i := nI c0) c0 rfl (by omega) (by decide) rfl dX3_pass_86 ?_
          refine lv_aload_n hx hb dX3_pass_87 rfl (lv_at hl 2 rfl) ?_
          refine z_get (C := RX3) (T := TX3) (N := 21) (ci := 3) (fs := mObj bd (pM M a b c0 0) th) (v := .int (nI b)) F hK hP hi3 rfl (0) 0 (by omega) cM_0 (by decide) rfl (by decide +kernel) dX3_pass_88 ?_
          refine z_cV (qc := (RX3, TX3, 21)) (As := [.int (nI (M 9 c0)), .int (nI b)]) (rest := []) (0) F (c_X3_counts l D k bd (pM M a b c0 0) O th (M 9 c0) b hs hc1 (by omega)) (cwV 2 hts gX3_pass_X3_counts rfl rfl rfl (by decide +kernel) ⟨Nat.le_of_ble_eq_true rfl, Nat.le_of_ble_eq_true rfl⟩) hK hP (by omega) cM_0 rfl rfl hl.1 rfl (Nat.le_of_ble_eq_true rfl) dX3_pass_91 ⟨Nat.le_of_ble_eq_true rfl, Nat.le_of_ble_eq_true rfl⟩ (fun r hr => ?_)
          subst hr
          refine z_ifb_eq (tgt := 147) F dX3_pass_94 (by decide) (fun c6 => ?_) (fun c6 => ?_)
          · rw [pM_o (Or.inr (show ¬ hrB M (M 9 c0) b = true from c6))] at hP hD
            refine lv_iinc (v := nI (c0 + 1)) (lv' := [(4, .int (nI (c0 + 1))), (3, .int (nI n)), (0, .ref (bd 0)), (1, .int (nI h))]) hx hb dX3_pass_147 hl (k := 0) rfl (nI_1 c0) (by decide) rfl (fun ls hl => ?_)
            refine lv_goto (tgt := 50) hx hb dX3_pass_150 (by decide) ?_
            exact ih (c0 + 1) H locs (by omega) (by omega) hP hD hS ls (lv_sub hl [0, 1, 2, 3] rfl)
          · refine lv_iconst (v := nI 0) hx hb dX3_pass_97 (by decide) ?_
            refine lv_istore (lv' := [(5, .int (nI 0)), (4, .int (nI c0)), (3, .int (nI n)), (0, .ref (bd 0)), (1, .int (nI h))]) hx hb dX3_pass_98 hl (by decide) rfl (fun ls hl => ?_)
            refine lp_passS (A := A) F hK hab hb9 h40 (show c0 < M 0 1 by omega) ⟨c4, c5⟩ (show hrB M (M 9 c0) b = true from c6) (fun H locs hP hD hS ls hl => ?_) 4 0 H _ (by omega) (by omega) hP hD hS ls (lv_sub hl [0, 1, 2, 3, 4] rfl)
            rw [pM_c] at hP hD
            refine lv_iinc (v := nI (c0 + 1)) (lv' := [(4, .int (nI (c0 + 1))), (3, .int (nI n)), (0, .ref (bd 0)), (1, .int (nI h))]) hx hb dX3_pass_147 hl (k := 0) rfl (nI_1 c0) (by decide) rfl (fun ls hl => ?_)
            refine lv_goto (tgt := 50) hx hb dX3_pass_150 (by decide) ?_
            exact ih (c0 + 1) H locs (by omega) (by omega) hP hD hS ls (lv_sub hl [0, 1, 2, 3] rfl)
set_option maxRecDepth 100000 in
set_option maxHeartbeats 1000000 in
theorem lp_passH {p : Program} {l : Launch} {e : Env} {s : State} {m : MethodId} {args : Array Value} {below : List Frame} {meth : Method} {c : Code} {Q : State → Prop} {D : va_G} {k : Nat → ClassId} {bd : Nat → Nat} {M : Nat → Nat → Nat} {O : Nat → Nat → Int32} {th : Int32} (F : CallFix p m c cX3_pass 6 s args wsX3_pass RX3) (hK : va_K D vwCl (tyL k) s)
    {A : Nat → Prop} {h : Nat} (hh9 : M 0 0 + h ≤ 24000) (h40 : M 0 1 ≤ 40) (hca : ∀ c, c < M 0 1 → zCa M c) (hI3 : ∀ i, i < 4 → zSi M i ∧ zCo M i)
    (k0 : ∀ (H : Heap) (locs : List Loc), va_P D vwCl (zw 19 bd (cM k bd (pM M (M 0 0) (M 0 0 + h) 0 0) O th)) H → va_D A (zw 19 bd (cM k bd (pM M (M 0 0) (M 0 0 + h) 0 0) O th)) → va_S A s.heap H locs → ∀ (ls : Array Slot), lv_has ls 6 [(0, .ref (bd 0))] → W p l e (headSpec wsX3_pass ({ frames := 2, cells := 0, slots := 0, locals := 44 })).room s m args below meth c H locs (0 + 0) (0 + 0) Q (F0 m 169 ls [])) :
    ∀ (fu n : Nat) (H : Heap) (locs : List Loc), n ≤ h → h < n + fu → va_P D vwCl (zw 19 bd (cM k bd (pM M (M 0 0) (M 0 0 + n) 0 0) O th)) H → va_D A (zw 19 bd (cM k bd (pM M (M 0 0) (M 0 0 + n) 0 0) O th)) → va_S A s.heap H locs → ∀ (ls : Array Slot), lv_has ls 6 [(3, .int (nI n)), (0, .ref (bd 0)), (1, .int (nI h))] → W p l e (headSpec wsX3_pass ({ frames := 2, cells := 0, slots := 0, locals := 44 })).room s m args below meth c H locs (0 + 0) (0 + 0) Q (F0 m 42 ls []) := by
  have hx := F.1
  have hb := F.2.1
  have hts := F.2.2.2.2
  have hown := F.2.2.2.1
  have hi3 : ∀ w ∈ u_ws RX3 TX3 21, w ∈ wsX3_pass := by decide +kernel
  intro fu
  induction fu with
  | zero => intro n H locs h1 h2; omega
  | succ fu ih =>
    intro n H locs h1 h2 hP hD hS ls hl
    refine lv_iload_n hx hb dX3_pass_42 rfl (lv_at hl 0 rfl) ?_
    refine lv_iload_n hx hb dX3_pass_43 rfl (lv_at hl 2 rfl) ?_
    refine z_icmp_ge (tgt := 169) F (by omega) (by omega) dX3_pass_44 (by decide) (fun c7 => ?_) (fun c7 => ?_)
    · obtain rfl : n = h := by omega
      exact k0 H locs hP hD hS ls (lv_sub hl [1] rfl)
    · refine lv_iconst (v := nI 0) hx hb dX3_pass_47 (by decide) ?_
      refine lv_istore (lv' := [(4, .int (nI 0)), (3, .int (nI n)), (0, .ref (bd 0)), (1, .int (nI h))]) hx hb dX3_pass_48 hl (by decide) rfl (fun ls hl => ?_)
      refine lp_passC (A := A) F hK (show M 0 0 ≤ M 0 0 + n by omega) (show M 0 0 + n ≤ 24000 by omega) h40 hca hI3 (fun H locs hP hD hS ls hl => ?_) (M 0 1 + 1) 0 H _ (by omega) (by omega) hP hD hS ls (lv_sub hl [0, 1, 2, 3] rfl)
      refine lv_aload_n hx hb dX3_pass_153 rfl (lv_at hl 1 rfl) ?_
      refine lv_dup hx hb dX3_pass_154 rfl ?_
      refine z_get (C := RX3) (T := TX3) (N := 21) (ci := 3) (fs := mObj bd (pM M (M 0 0) (M 0 0 + n) (M 0 1) 0) th) (v := .int (nI (M 0 0 + n))) F hK hP hi3 rfl (0) 0 (by omega) cM_0 (by decide) rfl (by decide +kernel) dX3_pass_155 ?_
      refine lv_iconst (v := nI 1) hx hb dX3_pass_158 (by decide) ?_
      refine z_add F dX3_pass_159 ?_
      refine z_put (C := RX3) (T := TX3) (N := 21) (ci := 3) (fs := mObj bd (pM M (M 0 0) (M 0 0 + n) (M 0 1) 0) th) (f' := (cM k bd (zu (pM M (M 0 0) (M 0 0 + n) (M 0 1) 0) 0 0 ((M 0 0 + n) + 1)) O th)) F hK hP hD hS hi3 rfl tyX3 tyX3_ok nmX3 (0) 0 (by omega) cM_0 (by decide) (Nat.le_of_ble_eq_true rfl) (by decide +kernel) rfl rfl rfl rfl (cM_unow _) dX3_pass_160 (fun H locs hP hD hS => ?_)
      rw [pM_h] at hP hD
      refine lv_iinc (v := nI (n + 1)) (lv' := [(3, .int (nI (n + 1))), (0, .ref (bd 0)), (1, .int (nI h))]) hx hb dX3_pass_163 hl (k := 0) rfl (nI_1 n) (by decide) rfl (fun ls hl => ?_)
      refine lv_goto (tgt := 42) hx hb dX3_pass_166 (by decide) ?_
      exact ih (n + 1) H locs (by omega) (by omega) hP hD hS ls (lv_sub hl [0, 1, 2] rfl)
set_option maxRecDepth 100000 in
set_option maxHeartbeats 1000000 in
theorem c_X3_pass (l : Launch) (D : va_G) (k : Nat → ClassId) (bd : Nat → Nat) (M : Nat → Nat → Nat) (O : Nat → Nat → Int32) (th : Int32) (sz : Nat) (hI : zInv M) (p0 : Int32) : Met l yX3_pass wsX3_pass ({ frames := 2, cells := 0, slots := 0, locals := 44 }) (va_Pc [.ref (bd 0), .int p0] (zG D k 19 bd (cM k bd M O th) sz)) (zQw D k 19 bd (cM k bd (if (x3 (True) (nI 1 ≤ p0 ∧ p0 ≤ nI 1000) (M 0 0 + ix p0 ≤ 24000)) = 0 then (zu (rkM M (M 0 0) (M 0 0 + ix p0) (M 0 1)) 0 0 (M 0 0 + ix p0)) else M) O (nI ((x3 (True) (nI 1 ≤ p0 ∧ p0 ≤ nI 1000) (M 0 0 + ix p0 ≤ 24000)) - 1))) (va_A (zw 19 bd (cM k bd M O th)) sz) (fun r => (x3 (True) (nI 1 ≤ p0 ∧ p0 ≤ nI 1000) (M 0 0 + ix p0 ≤ 24000)) = 0 → r = (nI (M 0 0 + ix p0)))) 0 0 (va_A (zw 19 bd (cM k bd M O th)) sz) := by
  refine Met.ofW (cc := cX3_pass) (maxL := 6) (ret := (some .int)) (by decide) rfl ?_
  intro p e s m args below meth c s₁ B hml hv
  obtain ⟨rfl, hsz, ⟨hP, hK⟩, hD0⟩ := hv
  have hx := B.exec
  have hb := B.bytes
  have hr := B.returns
  have hts := atoms_spec (ws := wsX3_pass) B.pre
  have hown : s.vm.findClass RX3 = some m.cls := findClass_of_methodNamed B.named
  have hlocks := B.notSynchronized
  have F : CallFix p m c cX3_pass 6 s _ wsX3_pass RX3 := ⟨hx, hb, hml, hown, hts⟩
  subst hsz
  have hD := hD0.self (sz := s.heap.size)
  generalize hAe : va_A (zw 19 bd (cM k bd M O th)) s.heap.size = A at hD ⊢
  have hA : ∀ q : Nat, s.heap.size ≤ q → A q := fun q h => by rw [← hAe]; exact Or.inr h
  have hS : va_S A s.heap s.heap [] := va_S.rf
  have hl := lv_entry ([.ref (bd 0), .int p0]) (n := 6) (Nat.le_of_ble_eq_true rfl)
  rw [lg_entry_eq]
  generalize (lg_sl ([.ref (bd 0), .int p0]) ++ List.replicate (6 - (lg_sl ([.ref (bd 0), .int p0])).length) Slot.unset).toArray = ls at hl ⊢
  have hl : lv_has ls 6 [(0, .ref (bd 0)), (1, .int p0)] := hl
  have hi3 : ∀ w ∈ u_ws RX3 TX3 21, w ∈ wsX3_pass := by decide +kernel
  obtain ⟨hI1, hI2, hI3, hI4, hI5, hI6, hI7⟩ := id hI
  refine lv_iload_n hx hb dX3_pass_0 rfl (lv_at hl 1 rfl) ?_
  refine lv_iconst (v := nI 1) hx hb dX3_pass_1 (by decide) ?_
  refine lv_sipush (v := nI 1000) hx hb dX3_pass_2 (by decide) ?_
  refine z_cS (As := [.int p0, .int (nI 1), .int (nI 1000)]) (rest := []) F (c_X3_in l p0 (nI 1) (nI 1000)) (va_cwS 3 hts gX3_pass_X3_in rfl rfl rfl (by decide +kernel) ⟨Nat.le_of_ble_eq_true rfl, Nat.le_of_ble_eq_true rfl⟩) rfl hl.1 rfl (Nat.le_of_ble_eq_true rfl) dX3_pass_5 ⟨Nat.le_of_ble_eq_true rfl, Nat.le_of_ble_eq_true rfl⟩ (fun r hr => ?_)
  subst hr
  refine lv_istore_n (lv' := [(2, .int (bI (nI 1 ≤ p0 ∧ p0 ≤ nI 1000))), (0, .ref (bd 0)), (1, .int p0)]) hx hb dX3_pass_8 rfl hl (by decide) rfl (fun ls hl => ?_)
  refine lv_aload_n hx hb dX3_pass_9 rfl (lv_at hl 1 rfl) ?_
  refine lv_iload_n hx hb dX3_pass_10 rfl (lv_at hl 0 rfl) ?_
  refine lv_iload_n hx hb dX3_pass_11 rfl (lv_at hl 0 rfl) ?_
  refine z_ifb_eq (tgt := 31) F dX3_pass_12 (by decide) (fun c8 => ?_) (fun c8 => ?_)
  · refine lv_iconst (v := nI 0) hx hb dX3_pass_31 (by decide) ?_
    refine z_top (show nI 0 = bI ((nI 1 ≤ p0 ∧ p0 ≤ nI 1000) ∧ M 0 0 + ix p0 ≤ 24000) from (bI_f (fun zz1 => by have zz2 := zz1.1; first | exact c8 zz2 | omega)).symm) ?_
    refine z_mV (qc := (RX3, TX3, 21)) (As := [.int (bI (nI 1 ≤ p0 ∧ p0 ≤ nI 1000)), .int (bI ((nI 1 ≤ p0 ∧ p0 ≤ nI 1000) ∧ M 0 0 + ix p0 ≤ 24000))]) (rest := []) (0) F (c_X3_asked_ l D k bd M O th _ (nI 1 ≤ p0 ∧ p0 ≤ nI 1000) ((nI 1 ≤ p0 ∧ p0 ≤ nI 1000) ∧ M 0 0 + ix p0 ≤ 24000)) (cwV 2 hts gX3_pass_X3_asked_ rfl rfl rfl (by decide +kernel) ⟨Nat.le_of_ble_eq_true rfl, Nat.le_of_ble_eq_true rfl⟩) hK hP hD hS hA (by omega) cM_0 rfl rfl hl.1 rfl (Nat.le_of_ble_eq_true rfl) dX3_pass_32 ⟨Nat.le_of_ble_eq_true rfl, Nat.le_of_ble_eq_true rfl⟩ (fun r H locs hr0 hP hD hS => ?_)
    subst hr0
    refine z_ifb_ne (tgt := 40) F dX3_pass_35 (by decide) (fun c9 => ?_) (fun c9 => ?_)
    · exact absurd c9.2 (fun zz1 => by have zz2 := zz1.1; first | exact c8 zz2 | omega)
    · refine lv_iconst (v := nI 0) hx hb dX3_pass_38 (by decide) ?_
      have hx0 : (x3 (True) (nI 1 ≤ p0 ∧ p0 ≤ nI 1000) (M 0 0 + ix p0 ≤ 24000)) ≠ 0 := x3_no (fun zz1 => c9 ⟨zz1.2.1, zz1.2.1, zz1.2.2⟩)
      have eW : cM k bd (if (x3 (True) (nI 1 ≤ p0 ∧ p0 ≤ nI 1000) (M 0 0 + ix p0 ≤ 24000)) = 0 then (zu (rkM M (M 0 0) (M 0 0 + ix p0) (M 0 1)) 0 0 (M 0 0 + ix p0)) else M) O (nI ((x3 (True) (nI 1 ≤ p0 ∧ p0 ≤ nI 1000) (M 0 0 + ix p0 ≤ 24000)) - 1)) = cM k bd M O (nI (y2 (nI 1 ≤ p0 ∧ p0 ≤ nI 1000) ((nI 1 ≤ p0 ∧ p0 ≤ nI 1000) ∧ M 0 0 + ix p0 ≤ 24000))) := by rw [if_neg hx0, ← y2_bc] <;> rfl
      rw [← eW] at hP hD
      refine W.widen (k := 0) (n := 0) (Nat.le_of_ble_eq_true rfl) (Nat.le_of_ble_eq_true rfl) ?_
      exact W.iret (v := nI 0) hx hb hr (fun t ht hW => ⟨⟨nI 0, (), rfl, fun zz1 => absurd zz1 hx0, ⟨by rw [ht]; exact hP, va_K.moved hW.alike hK⟩, hD⟩, hS.F ht⟩) hS.2.2 dX3_pass_39
  · obtain ⟨h, hh0, hh, rfl⟩ := (zB_iff (by omega) (by decide)).mp (c8)
    try rw [ix_nI (show h < 2 ^ 31 by omega)]
    refine lv_aload_n hx hb dX3_pass_15 rfl (lv_at hl 1 rfl) ?_
    refine z_get (C := RX3) (T := TX3) (N := 21) (ci := 3) (fs := mObj bd M th) (v := .int (nI (M 0 0))) F hK hP hi3 rfl (0) 0 (by omega) cM_0 (by decide) rfl (by decide +kernel) dX3_pass_16 ?_
    refine lv_iload_n hx hb dX3_pass_19 rfl (lv_at hl 2 rfl) ?_
    refine z_add F dX3_pass_20 ?_
    refine lv_sipush (v := nI 24000) hx hb dX3_pass_21 (by decide) ?_
    refine z_icmp_gt (tgt := 31) F (by omega) (by omega) dX3_pass_24 (by decide) (fun c10 => ?_) (fun c10 => ?_)
    · refine lv_iconst (v := nI 0) hx hb dX3_pass_31 (by decide) ?_
      refine z_top (show nI 0 = bI ((nI 1 ≤ (nI h) ∧ (nI h) ≤ nI 1000) ∧ M 0 0 + h ≤ 24000) from (bI_f (fun zz1 => by have zz2 := zz1.2; first | exact c10 zz2 | omega)).symm) ?_
      refine z_mV (qc := (RX3, TX3, 21)) (As := [.int (bI (nI 1 ≤ (nI h) ∧ (nI h) ≤ nI 1000)), .int (bI ((nI 1 ≤ (nI h) ∧ (nI h) ≤ nI 1000) ∧ M 0 0 + h ≤ 24000))]) (rest := []) (0) F (c_X3_asked_ l D k bd M O th _ (nI 1 ≤ (nI h) ∧ (nI h) ≤ nI 1000) ((nI 1 ≤ (nI h) ∧ (nI h) ≤ nI 1000) ∧ M 0 0 + h ≤ 24000)) (cwV 2 hts gX3_pass_X3_asked_ rfl rfl rfl (by decide +kernel) ⟨Nat.le_of_ble_eq_true rfl, Nat.le_of_ble_eq_true rfl⟩) hK hP hD hS hA (by omega) cM_0 rfl rfl hl.1 rfl (Nat.le_of_ble_eq_true rfl) dX3_pass_32 ⟨Nat.le_of_ble_eq_true rfl, Nat.le_of_ble_eq_true rfl⟩ (fun r H locs hr0 hP hD hS => ?_)
      subst hr0
      refine z_ifb_ne (tgt := 40) F dX3_pass_35 (by decide) (fun c11 => ?_) (fun c11 => ?_)
      · exact absurd c11.2 (fun zz1 => by have zz2 := zz1.2; first | exact c10 zz2 | omega)
      · refine lv_iconst (v := nI 0) hx hb dX3_pass_38 (by decide) ?_
        have hx0 : (x3 (True) (nI 1 ≤ (nI h) ∧ (nI h) ≤ nI 1000) (M 0 0 + h ≤ 24000)) ≠ 0 := x3_no (fun zz1 => c11 ⟨zz1.2.1, zz1.2.1, zz1.2.2⟩)
        have eW : cM k bd (if (x3 (True) (nI 1 ≤ (nI h) ∧ (nI h) ≤ nI 1000) (M 0 0 + h ≤ 24000)) = 0 then (zu (rkM M (M 0 0) (M 0 0 + h) (M 0 1)) 0 0 (M 0 0 + h)) else M) O (nI ((x3 (True) (nI 1 ≤ (nI h) ∧ (nI h) ≤ nI 1000) (M 0 0 + h ≤ 24000)) - 1)) = cM k bd M O (nI (y2 (nI 1 ≤ (nI h) ∧ (nI h) ≤ nI 1000) ((nI 1 ≤ (nI h) ∧ (nI h) ≤ nI 1000) ∧ M 0 0 + h ≤ 24000))) := by rw [if_neg hx0, ← y2_bc] <;> rfl
        rw [← eW] at hP hD
        refine W.widen (k := 0) (n := 0) (Nat.le_of_ble_eq_true rfl) (Nat.le_of_ble_eq_true rfl) ?_
        exact W.iret (v := nI 0) hx hb hr (fun t ht hW => ⟨⟨nI 0, (), rfl, fun zz1 => absurd zz1 hx0, ⟨by rw [ht]; exact hP, va_K.moved hW.alike hK⟩, hD⟩, hS.F ht⟩) hS.2.2 dX3_pass_39
    · refine lv_iconst (v := nI 1) hx hb dX3_pass_27 (by decide) ?_
      refine lv_goto (tgt := 32) hx hb dX3_pass_28 (by decide) ?_
      refine z_top (show nI 1 = bI ((nI 1 ≤ (nI h) ∧ (nI h) ≤ nI 1000) ∧ M 0 0 + h ≤ 24000) from (bI_t ⟨c8, c10⟩).symm) ?_
      refine z_mV (qc := (RX3, TX3, 21)) (As := [.int (bI (nI 1 ≤ (nI h) ∧ (nI h) ≤ nI 1000)), .int (bI ((nI 1 ≤ (nI h) ∧ (nI h) ≤ nI 1000) ∧ M 0 0 + h ≤ 24000))]) (rest := []) (0) F (c_X3_asked_ l D k bd M O th _ (nI 1 ≤ (nI h) ∧ (nI h) ≤ nI 1000) ((nI 1 ≤ (nI h) ∧ (nI h) ≤ nI 1000) ∧ M 0 0 + h ≤ 24000)) (cwV 2 hts gX3_pass_X3_asked_ rfl rfl rfl (by decide +kernel) ⟨Nat.le_of_ble_eq_true rfl, Nat.le_of_ble_eq_true rfl⟩) hK hP hD hS hA (by omega) cM_0 rfl rfl hl.1 rfl (Nat.le_of_ble_eq_true rfl) dX3_pass_32 ⟨Nat.le_of_ble_eq_true rfl, Nat.le_of_ble_eq_true rfl⟩ (fun r H locs hr0 hP hD hS => ?_)
      subst hr0
      refine z_ifb_ne (tgt := 40) F dX3_pass_35 (by decide) (fun c12 => ?_) (fun c12 => ?_)
      · refine lv_iconst (v := nI 0) hx hb dX3_pass_40 (by decide) ?_
        refine lv_istore_n (lv' := [(3, .int (nI 0)), (2, .int (bI (nI 1 ≤ (nI h) ∧ (nI h) ≤ nI 1000))), (0, .ref (bd 0)), (1, .int (nI h))]) hx hb dX3_pass_41 rfl hl (by decide) rfl (fun ls hl => ?_)
        have e0 : pM M (M 0 0) (M 0 0 + 0) 0 0 = M := pM_0
        refine lp_passH (A := A) F hK (c12.2.2) hI2 hI5 hI3 (fun H locs hP hD hS ls hl => ?_) (h + 1) 0 H _ (by omega) (by omega) (by rw [e0]; exact hP) (by rw [e0]; exact hD) hS ls (lv_sub hl [0, 2, 3] rfl)
        refine lv_aload_n hx hb dX3_pass_169 rfl (lv_at hl 0 rfl) ?_
        refine z_get (C := RX3) (T := TX3) (N := 21) (ci := 3) (fs := mObj bd (pM M (M 0 0) (M 0 0 + h) 0 0) (nI (y2 (nI 1 ≤ (nI h) ∧ (nI h) ≤ nI 1000) ((nI 1 ≤ (nI h) ∧ (nI h) ≤ nI 1000) ∧ M 0 0 + h ≤ 24000)))) (v := .int (nI (M 0 0 + h))) F hK hP hi3 rfl (0) 0 (by omega) cM_0 (by decide) rfl (by decide +kernel) dX3_pass_170 ?_
        have hx0 : (x3 (True) (nI 1 ≤ (nI h) ∧ (nI h) ≤ nI 1000) (M 0 0 + h ≤ 24000)) = 0 := x3_0 trivial c12.1 c12.2.2
        have eW : cM k bd (if (x3 (True) (nI 1 ≤ (nI h) ∧ (nI h) ≤ nI 1000) (M 0 0 + h ≤ 24000)) = 0 then (zu (rkM M (M 0 0) (M 0 0 + h) (M 0 1)) 0 0 (M 0 0 + h)) else M) O (nI ((x3 (True) (nI 1 ≤ (nI h) ∧ (nI h) ≤ nI 1000) (M 0 0 + h ≤ 24000)) - 1)) = cM k bd (pM M (M 0 0) (M 0 0 + h) 0 0) O (nI (y2 (nI 1 ≤ (nI h) ∧ (nI h) ≤ nI 1000) ((nI 1 ≤ (nI h) ∧ (nI h) ≤ nI 1000) ∧ M 0 0 + h ≤ 24000))) := by rw [if_pos hx0, ← y2_bc, ← pM_e] <;> rfl
        rw [← eW] at hP hD
        refine W.widen (k := 0) (n := 0) (Nat.le_of_ble_eq_true rfl) (Nat.le_of_ble_eq_true rfl) ?_
        exact W.iret (v := nI (M 0 0 + h)) hx hb hr (fun t ht hW => ⟨⟨nI (M 0 0 + h), (), rfl, fun _ => rfl, ⟨by rw [ht]; exact hP, va_K.moved hW.alike hK⟩, hD⟩, hS.F ht⟩) hS.2.2 dX3_pass_173
      · refine lv_iconst (v := nI 0) hx hb dX3_pass_38 (by decide) ?_
        have hx0 : (x3 (True) (nI 1 ≤ (nI h) ∧ (nI h) ≤ nI 1000) (M 0 0 + h ≤ 24000)) ≠ 0 := x3_no (fun zz1 => c12 ⟨zz1.2.1, zz1.2.1, zz1.2.2⟩)
        have eW : cM k bd (if (x3 (True) (nI 1 ≤ (nI h) ∧ (nI h) ≤ nI 1000) (M 0 0 + h ≤ 24000)) = 0 then (zu (rkM M (M 0 0) (M 0 0 + h) (M 0 1)) 0 0 (M 0 0 + h)) else M) O (nI ((x3 (True) (nI 1 ≤ (nI h) ∧ (nI h) ≤ nI 1000) (M 0 0 + h ≤ 24000)) - 1)) = cM k bd M O (nI (y2 (nI 1 ≤ (nI h) ∧ (nI h) ≤ nI 1000) ((nI 1 ≤ (nI h) ∧ (nI h) ≤ nI 1000) ∧ M 0 0 + h ≤ 24000))) := by rw [if_neg hx0, ← y2_bc] <;> rfl
        rw [← eW] at hP hD
        refine W.widen (k := 0) (n := 0) (Nat.le_of_ble_eq_true rfl) (Nat.le_of_ble_eq_true rfl) ?_
        exact W.iret (v := nI 0) hx hb hr (fun t ht hW => ⟨⟨nI 0, (), rfl, fun zz1 => absurd zz1 hx0, ⟨by rw [ht]; exact hP, va_K.moved hW.alike hK⟩, hD⟩, hS.F ht⟩) hS.2.2 dX3_pass_39
