/-! THE REFERENCE: reach. -/
theorem zu_id (M : Nat → Nat → Nat) (r i : Nat) : zu M r i (M r i) = M := by
  funext a b
  unfold zu
  by_cases h : a = r ∧ b = i
  · rw [if_pos h, h.1, h.2]
  · rw [if_neg h]
theorem zu_zu (M : Nat → Nat → Nat) (r i v w : Nat) : zu (zu M r i v) r i w = zu M r i w := by
  funext a b
  unfold zu
  by_cases h : a = r ∧ b = i
  · rw [if_pos h, if_pos h]
  · rw [if_neg h, if_neg h, if_neg h]
set_option maxRecDepth 100000 in
set_option maxHeartbeats 1000000 in
theorem lp_reachA {p : Program} {l : Launch} {e : Env} {s : State} {m : MethodId} {args : Array Value} {below : List Frame} {meth : Method} {c : Code} {Q : State → Prop} {D : va_G} {k : Nat → ClassId} {bd : Nat → Nat} {M : Nat → Nat → Nat} {O : Nat → Nat → Int32} {th : Int32} (F : CallFix p m c cX3_reach 7 s args wsX3_reach RX3) (hK : va_K D vwCl (tyL k) s)
    {A : Nat → Prop} {i st : Nat} {Z3 : Prop} (hi : i < 40) (hst : st ≤ 2)
    (k0 : ∀ (H : Heap) (locs : List Loc), va_P D vwCl (zw 19 bd (cM k bd (zu M 16 i (max (M 16 i) (st + 1))) O th)) H → va_D A (zw 19 bd (cM k bd (zu M 16 i (max (M 16 i) (st + 1))) O th)) → va_S A s.heap H locs → ∀ (ls : Array Slot), lv_has ls 7 [(0, .ref (bd 0)), (1, .int (nI i)), (2, .int (nI st))] → W p l e (headSpec wsX3_reach ({ frames := 2, cells := 0, slots := 0, locals := 47 })).room s m args below meth c H locs (0 + 0) (0 + 0) Q (F0 m 89 ls [])) :
    ∀ (fu s0 : Nat) (H : Heap) (locs : List Loc), s0 ≤ st + 1 → st + 1 < s0 + fu → va_P D vwCl (zw 19 bd (cM k bd (zu M 16 i (max (M 16 i) s0)) O th)) H → va_D A (zw 19 bd (cM k bd (zu M 16 i (max (M 16 i) s0)) O th)) → va_S A s.heap H locs → ∀ (ls : Array Slot), lv_has ls 7 [(5, .int (nI s0)), (0, .ref (bd 0)), (1, .int (nI i)), (2, .int (nI st)), (3, .int (bI Z3))] → W p l e (headSpec wsX3_reach ({ frames := 2, cells := 0, slots := 0, locals := 47 })).room s m args below meth c H locs (0 + 0) (0 + 0) Q (F0 m 65 ls []) := by
  have hx := F.1
  have hb := F.2.1
  have hts := F.2.2.2.2
  have hown := F.2.2.2.1
  have hi3 : ∀ w ∈ u_ws RX3 TX3 21, w ∈ wsX3_reach := by decide +kernel
  intro fu
  induction fu with
  | zero => intro s0 H locs h1 h2; omega
  | succ fu ih =>
    intro s0 H locs h1 h2 hP hD hS ls hl
    refine lv_iload hx hb dX3_reach_65 (lv_at hl 0 rfl) ?_
    refine lv_iload_n hx hb dX3_reach_67 rfl (lv_at hl 3 rfl) ?_
    refine z_icmp_gt (tgt := 89) F (by omega) (by omega) dX3_reach_68 (by decide) (fun c1 => ?_) (fun c1 => ?_)
    · obtain rfl : s0 = st + 1 := by omega
      exact k0 H locs hP hD hS ls (lv_sub hl [1, 2, 3] rfl)
    · refine lv_aload_n hx hb dX3_reach_71 rfl (lv_at hl 1 rfl) ?_
      refine z_get (C := RX3) (T := TX3) (N := 21) (ci := 3) (fs := mObj bd (zu M 16 i (max (M 16 i) s0)) th) (v := .ref (bd 16)) F hK hP hi3 rfl (0) 16 (by omega) cM_0 (by decide) rfl (by decide +kernel) dX3_reach_72 ?_
      refine lv_iconst (v := nI 3) hx hb dX3_reach_75 (by decide) ?_
      refine lv_iload_n hx hb dX3_reach_76 rfl (lv_at hl 2 rfl) ?_
      refine z_mul F dX3_reach_77 ?_
      refine lv_iload hx hb dX3_reach_78 (lv_at hl 0 rfl) ?_
      refine z_add F dX3_reach_80 ?_
      refine lv_iconst (v := nI 1) hx hb dX3_reach_81 (by decide) ?_
      refine z_zast (f' := (cM k bd (zu (zu M 16 i (max (M 16 i) s0)) 16 i (max (M 16 i) (s0 + 1))) O th)) (cA := k 1) (len := 120) (g := mA (zu M 16 i (max (M 16 i) s0)) O 16) F hK hP hD hS (16) 1 (by omega) rfl rfl (i := nI ((3 * i) + s0)) ((3 * i) + s0) rfl (by omega) (by decide) rfl (cM_urch i s0 (max (M 16 i) (s0 + 1)) 1 (by omega) (by intro j hj; rw [zu_s]; by_cases zz1 : j = s0; (rw [if_pos zz1]; omega); (rw [if_neg zz1]; omega)) (by decide)) dX3_reach_82 (fun H locs hP hD hS => ?_)
      rw [zu_zu] at hP hD
      refine lv_iinc (v := nI (s0 + 1)) (lv' := [(5, .int (nI (s0 + 1))), (0, .ref (bd 0)), (1, .int (nI i)), (2, .int (nI st)), (3, .int (bI Z3))]) hx hb dX3_reach_83 hl (k := 0) rfl (nI_1 s0) (by decide) rfl (fun ls hl => ?_)
      refine lv_goto (tgt := 65) hx hb dX3_reach_86 (by decide) ?_
      exact ih (s0 + 1) H locs (by omega) (by omega) hP hD hS ls (lv_sub hl [0, 1, 2, 3, 4] rfl)
set_option maxRecDepth 100000 in
set_option maxHeartbeats 1000000 in
theorem lp_reachB {p : Program} {l : Launch} {e : Env} {s : State} {m : MethodId} {args : Array Value} {below : List Frame} {meth : Method} {c : Code} {Q : State → Prop} {D : va_G} {k : Nat → ClassId} {bd : Nat → Nat} {M : Nat → Nat → Nat} {O : Nat → Nat → Int32} {th : Int32} (F : CallFix p m c cX3_reach 7 s args wsX3_reach RX3) (hK : va_K D vwCl (tyL k) s)
    {A : Nat → Prop} {i st n0 : Nat} (hi : i < 40) (h40 : M 0 1 ≤ 40) (hca : ∀ c, c < M 0 1 → zCa M c)
    (k0 : ∀ (H : Heap) (locs : List Loc), va_P D vwCl (zw 19 bd (cM k bd (clM (zu M 12 i 2) i (M 0 1)) O th)) H → va_D A (zw 19 bd (cM k bd (clM (zu M 12 i 2) i (M 0 1)) O th)) → va_S A s.heap H locs → ∀ (ls : Array Slot), lv_has ls 7 [(0, .ref (bd 0)), (1, .int (nI i)), (2, .int (nI st)), (5, .int (nI n0))] → W p l e (headSpec wsX3_reach ({ frames := 2, cells := 0, slots := 0, locals := 47 })).room s m args below meth c H locs (0 + 0) (0 + 0) Q (F0 m 166 ls [])) :
    ∀ (fu j : Nat) (H : Heap) (locs : List Loc), j ≤ M 0 1 → M 0 1 < j + fu → va_P D vwCl (zw 19 bd (cM k bd (clM (zu M 12 i 2) i j) O th)) H → va_D A (zw 19 bd (cM k bd (clM (zu M 12 i 2) i j) O th)) → va_S A s.heap H locs → ∀ (ls : Array Slot), lv_has ls 7 [(6, .int (nI j)), (0, .ref (bd 0)), (1, .int (nI i)), (2, .int (nI st)), (5, .int (nI n0))] → W p l e (headSpec wsX3_reach ({ frames := 2, cells := 0, slots := 0, locals := 47 })).room s m args below meth c H locs (0 + 0) (0 + 0) Q (F0 m 111 ls []) := by
  have hx := F.1
  have hb := F.2.1
  have hts := F.2.2.2.2
  have hown := F.2.2.2.1
  have hi3 : ∀ w ∈ u_ws RX3 TX3 21, w ∈ wsX3_reach := by decide +kernel
  intro fu
  induction fu with
  | zero => intro j H locs h1 h2; omega
  | succ fu ih =>
    intro j H locs h1 h2 hP hD hS ls hl
    have e01 : (clM (zu M 12 i 2) i j) 0 1 = M 0 1 := by rw [clM_r (by decide)]; rfl
    refine lv_iload hx hb dX3_reach_111 (lv_at hl 0 rfl) ?_
    refine lv_aload_n hx hb dX3_reach_113 rfl (lv_at hl 1 rfl) ?_
    refine z_get (C := RX3) (T := TX3) (N := 21) (ci := 3) (fs := mObj bd (clM (zu M 12 i 2) i j) th) (v := .int (nI ((clM (zu M 12 i 2) i j) 0 1))) F hK hP hi3 rfl (0) 17 (by omega) cM_0 (by decide) rfl (by decide +kernel) dX3_reach_114 ?_
    refine z_icmp_ge (tgt := 166) F (by omega) (by omega) dX3_reach_117 (by decide) (fun c2 => ?_) (fun c2 => ?_)
    · obtain rfl : j = M 0 1 := by omega
      exact k0 H locs hP hD hS ls (lv_sub hl [1, 2, 3, 4] rfl)
    · obtain ⟨hc1, hc2, hc3, hc4, hc5, hc6, hc7⟩ := hca j (by omega)
      have e12 : (clM (zu M 12 i 2) i j) 12 j = (zu M 12 i 2) 12 j := clM_at
      have e13 : (clM (zu M 12 i 2) i j) 13 j = M 13 j := by rw [clM_r (by decide)]; rfl
      have e12a : (zu M 12 i 2) 12 j < 3 := zu12_lt hc4
      refine lv_aload_n hx hb dX3_reach_120 rfl (lv_at hl 1 rfl) ?_
      refine z_get (C := RX3) (T := TX3) (N := 21) (ci := 3) (fs := mObj bd (clM (zu M 12 i 2) i j) th) (v := .ref (bd 12)) F hK hP hi3 rfl (0) 12 (by omega) cM_0 (by decide) rfl (by decide +kernel) dX3_reach_121 ?_
      refine lv_iload hx hb dX3_reach_124 (lv_at hl 0 rfl) ?_
      refine lv_aload_n hx hb dX3_reach_126 rfl (lv_at hl 1 rfl) ?_
      refine z_get (C := RX3) (T := TX3) (N := 21) (ci := 3) (fs := mObj bd (clM (zu M 12 i 2) i j) th) (v := .ref (bd 12)) F hK hP hi3 rfl (0) 12 (by omega) cM_0 (by decide) rfl (by decide +kernel) dX3_reach_127 ?_
      refine lv_iload hx hb dX3_reach_130 (lv_at hl 0 rfl) ?_
      refine z_iald (v := nI ((clM (zu M 12 i 2) i j) 12 j)) (cA := k 0) (len := 40) (g := mA (clM (zu M 12 i 2) i j) O 12) F hK hP (12) 0 (by omega) rfl rfl (i := nI j) j rfl (by omega) (by decide) rfl dX3_reach_132 ?_
      refine lv_iconst (v := nI 1) hx hb dX3_reach_133 (by decide) ?_
      refine z_icmp_ne (tgt := 152) F (by omega) (by omega) dX3_reach_134 (by decide) (fun c3 => ?_) (fun c3 => ?_)
      · refine lv_aload_n hx hb dX3_reach_152 rfl (lv_at hl 1 rfl) ?_
        refine z_get (C := RX3) (T := TX3) (N := 21) (ci := 3) (fs := mObj bd (clM (zu M 12 i 2) i j) th) (v := .ref (bd 12)) F hK hP hi3 rfl (0) 12 (by omega) cM_0 (by decide) rfl (by decide +kernel) dX3_reach_153 ?_
        refine lv_iload hx hb dX3_reach_156 (lv_at hl 0 rfl) ?_
        refine z_iald (v := nI ((clM (zu M 12 i 2) i j) 12 j)) (cA := k 0) (len := 40) (g := mA (clM (zu M 12 i 2) i j) O 12) F hK hP (12) 0 (by omega) rfl rfl (i := nI j) j rfl (by omega) (by decide) rfl dX3_reach_158 ?_
        refine z_iast (f' := (cM k bd (zu (clM (zu M 12 i 2) i j) 12 j ((clM (zu M 12 i 2) i j) 12 j)) O th)) (cA := k 0) (len := 40) (g := mA (clM (zu M 12 i 2) i j) O 12) F hK hP hD hS (12) 0 (by omega) rfl rfl (i := nI j) j rfl (by omega) (by decide) (cM_urow 12 (by decide) (by decide) (by decide) (by decide) (by decide) _ _) dX3_reach_159 (fun H locs hP hD hS => ?_)
        refine lv_iinc (v := nI (j + 1)) (lv' := [(6, .int (nI (j + 1))), (0, .ref (bd 0)), (1, .int (nI i)), (2, .int (nI st)), (5, .int (nI n0))]) hx hb dX3_reach_160 hl (k := 0) rfl (nI_1 j) (by decide) rfl (fun ls hl => ?_)
        refine lv_goto (tgt := 111) hx hb dX3_reach_163 (by decide) ?_
        have e9 : zu (clM (zu M 12 i 2) i j) 12 j ((clM (zu M 12 i 2) i j) 12 j) = clM (zu M 12 i 2) i (j + 1) := by rw [zu_id]; exact (clM_no (a := i) (n := j) (M := zu M 12 i 2) (fun zz1 => c3 (by rw [e12]; exact zz1.1))).symm
        rw [e9] at hP hD
        exact ih (j + 1) H locs (by omega) (by omega) hP hD hS ls (lv_sub hl [0, 1, 2, 3, 4] rfl)
      · refine lv_aload_n hx hb dX3_reach_137 rfl (lv_at hl 1 rfl) ?_
        refine z_get (C := RX3) (T := TX3) (N := 21) (ci := 3) (fs := mObj bd (clM (zu M 12 i 2) i j) th) (v := .ref (bd 13)) F hK hP hi3 rfl (0) 13 (by omega) cM_0 (by decide) rfl (by decide +kernel) dX3_reach_138 ?_
        refine lv_iload hx hb dX3_reach_141 (lv_at hl 0 rfl) ?_
        refine z_iald (v := hdI ((clM (zu M 12 i 2) i j) 13 j)) (cA := k 0) (len := 40) (g := mA (clM (zu M 12 i 2) i j) O 13) F hK hP (13) 0 (by omega) rfl rfl (i := nI j) j rfl (by omega) (by decide) rfl dX3_reach_143 ?_
        refine lv_iload_n hx hb dX3_reach_144 rfl (lv_at hl 2 rfl) ?_
        refine lv_icmp_ne (tgt := 152) hx hb dX3_reach_145 (by decide) (fun c4 => ?_) (fun c4 => ?_)
        · refine lv_aload_n hx hb dX3_reach_152 rfl (lv_at hl 1 rfl) ?_
          refine z_get (C := RX3) (T := TX3) (N := 21) (ci := 3) (fs := mObj bd (clM (zu M 12 i 2) i j) th) (v := .ref (bd 12)) F hK hP hi3 rfl (0) 12 (by omega) cM_0 (by decide) rfl (by decide +kernel) dX3_reach_153 ?_
          refine lv_iload hx hb dX3_reach_156 (lv_at hl 0 rfl) ?_
          refine z_iald (v := nI ((clM (zu M 12 i 2) i j) 12 j)) (cA := k 0) (len := 40) (g := mA (clM (zu M 12 i 2) i j) O 12) F hK hP (12) 0 (by omega) rfl rfl (i := nI j) j rfl (by omega) (by decide) rfl dX3_reach_158 ?_
          refine z_iast (f' := (cM k bd (zu (clM (zu M 12 i 2) i j) 12 j ((clM (zu M 12 i 2) i j) 12 j)) O th)) (cA := k 0) (len := 40) (g := mA (clM (zu M 12 i 2) i j) O 12) F hK hP hD hS (12) 0 (by omega) rfl rfl (i := nI j) j rfl (by omega) (by decide) (cM_urow 12 (by decide) (by decide) (by decide) (by decide) (by decide) _ _) dX3_reach_159 (fun H locs hP hD hS => ?_)
          refine lv_iinc (v := nI (j + 1)) (lv' := [(6, .int (nI (j + 1))), (0, .ref (bd 0)), (1, .int (nI i)), (2, .int (nI st)), (5, .int (nI n0))]) hx hb dX3_reach_160 hl (k := 0) rfl (nI_1 j) (by decide) rfl (fun ls hl => ?_)
          refine lv_goto (tgt := 111) hx hb dX3_reach_163 (by decide) ?_
          have e9 : zu (clM (zu M 12 i 2) i j) 12 j ((clM (zu M 12 i 2) i j) 12 j) = clM (zu M 12 i 2) i (j + 1) := by rw [zu_id]; exact (clM_no (a := i) (n := j) (M := zu M 12 i 2) (fun zz1 => c4 ((hdI_eq (by rw [e13]; omega) (by omega)).mpr (by rw [e13]; exact (show M 13 j = i + 1 from zz1.2))))).symm
          rw [e9] at hP hD
          exact ih (j + 1) H locs (by omega) (by omega) hP hD hS ls (lv_sub hl [0, 1, 2, 3, 4] rfl)
        · refine lv_iconst (v := nI 2) hx hb dX3_reach_148 (by decide) ?_
          refine lv_goto (tgt := 159) hx hb dX3_reach_149 (by decide) ?_
          refine z_iast (f' := (cM k bd (zu (clM (zu M 12 i 2) i j) 12 j 2) O th)) (cA := k 0) (len := 40) (g := mA (clM (zu M 12 i 2) i j) O 12) F hK hP hD hS (12) 0 (by omega) rfl rfl (i := nI j) j rfl (by omega) (by decide) (cM_urow 12 (by decide) (by decide) (by decide) (by decide) (by decide) _ _) dX3_reach_159 (fun H locs hP hD hS => ?_)
          refine lv_iinc (v := nI (j + 1)) (lv' := [(6, .int (nI (j + 1))), (0, .ref (bd 0)), (1, .int (nI i)), (2, .int (nI st)), (5, .int (nI n0))]) hx hb dX3_reach_160 hl (k := 0) rfl (nI_1 j) (by decide) rfl (fun ls hl => ?_)
          refine lv_goto (tgt := 111) hx hb dX3_reach_163 (by decide) ?_
          have e9 : zu (clM (zu M 12 i 2) i j) 12 j 2 = clM (zu M 12 i 2) i (j + 1) := (clM_yes (M := zu M 12 i 2) (a := i) (n := j) ⟨by rw [← e12]; exact c3, show M 13 j = i + 1 by rw [← e13]; exact (hdI_eq (by rw [e13]; omega) (by omega)).mp c4⟩).symm
          rw [e9] at hP hD
          exact ih (j + 1) H locs (by omega) (by omega) hP hD hS ls (lv_sub hl [0, 1, 2, 3, 4] rfl)
set_option maxRecDepth 100000 in
set_option maxHeartbeats 1000000 in
theorem c_X3_reach (l : Launch) (D : va_G) (k : Nat → ClassId) (bd : Nat → Nat) (M : Nat → Nat → Nat) (O : Nat → Nat → Int32) (th : Int32) (sz : Nat) (hI : zInv M) (p0 p1 : Int32) : Met l yX3_reach wsX3_reach ({ frames := 2, cells := 0, slots := 0, locals := 47 }) (va_Pc [.ref (bd 0), .int p0, .int p1] (zG D k 19 bd (cM k bd M O th) sz)) (zQw D k 19 bd (cM k bd (if (x3 (zI (M 0 1) p0) (nI 0 ≤ p1 ∧ p1 ≤ nI 2) (M 12 (ix p0) = 0 ∧ ¬ ix p1 < M 16 (ix p0))) = 0 then (reM M (ix p0) (ix p1)) else M) (if (x3 (zI (M 0 1) p0) (nI 0 ≤ p1 ∧ p1 ≤ nI 2) (M 12 (ix p0) = 0 ∧ ¬ ix p1 < M 16 (ix p0))) = 0 then (reO M O (ix p0) (ix p1)) else O) (nI ((x3 (zI (M 0 1) p0) (nI 0 ≤ p1 ∧ p1 ≤ nI 2) (M 12 (ix p0) = 0 ∧ ¬ ix p1 < M 16 (ix p0)))))) (va_A (zw 19 bd (cM k bd M O th)) sz) (fun r => (x3 (zI (M 0 1) p0) (nI 0 ≤ p1 ∧ p1 ≤ nI 2) (M 12 (ix p0) = 0 ∧ ¬ ix p1 < M 16 (ix p0))) = 0 → r = (nI (mN (zu M 16 (ix p0) (ix p1 + 1)) (ix p0) 3)))) 0 0 (va_A (zw 19 bd (cM k bd M O th)) sz) := by
  refine Met.ofW (cc := cX3_reach) (maxL := 7) (ret := (some .int)) (by decide) rfl ?_
  intro p e s m args below meth c s₁ B hml hv
  obtain ⟨rfl, hsz, ⟨hP, hK⟩, hD0⟩ := hv
  have hx := B.exec
  have hb := B.bytes
  have hr := B.returns
  have hts := atoms_spec (ws := wsX3_reach) B.pre
  have hown : s.vm.findClass RX3 = some m.cls := findClass_of_methodNamed B.named
  have hlocks := B.notSynchronized
  have F : CallFix p m c cX3_reach 7 s _ wsX3_reach RX3 := ⟨hx, hb, hml, hown, hts⟩
  subst hsz
  have hD := hD0.self (sz := s.heap.size)
  generalize hAe : va_A (zw 19 bd (cM k bd M O th)) s.heap.size = A at hD ⊢
  have hA : ∀ q : Nat, s.heap.size ≤ q → A q := fun q h => by rw [← hAe]; exact Or.inr h
  have hS : va_S A s.heap s.heap [] := va_S.rf
  have hl := lv_entry ([.ref (bd 0), .int p0, .int p1]) (n := 7) (Nat.le_of_ble_eq_true rfl)
  rw [lg_entry_eq]
  generalize (lg_sl ([.ref (bd 0), .int p0, .int p1]) ++ List.replicate (7 - (lg_sl ([.ref (bd 0), .int p0, .int p1])).length) Slot.unset).toArray = ls at hl ⊢
  have hl : lv_has ls 7 [(0, .ref (bd 0)), (1, .int p0), (2, .int p1)] := hl
  have hi3 : ∀ w ∈ u_ws RX3 TX3 21, w ∈ wsX3_reach := by decide +kernel
  obtain ⟨hI1, hI2, hI3, hI4, hI5, hI6, hI7⟩ := id hI
  have hk9 : ∀ x, x < 120 → M 15 x ≤ 24000 := fun x h => Nat.le_trans (hI6 x h) hI1
  refine lv_aload_n hx hb dX3_reach_0 rfl (lv_at hl 0 rfl) ?_
  refine lv_iload_n hx hb dX3_reach_1 rfl (lv_at hl 1 rfl) ?_
  refine z_cV (qc := (RX3, TX3, 21)) (As := [.int p0]) (rest := []) (0) F (c_X3_isCase l D k bd M O th hI2 p0) (cwV 1 hts gX3_reach_X3_isCase rfl rfl rfl (by decide +kernel) ⟨Nat.le_of_ble_eq_true rfl, Nat.le_of_ble_eq_true rfl⟩) hK hP (by omega) cM_0 rfl rfl hl.1 rfl (Nat.le_of_ble_eq_true rfl) dX3_reach_2 ⟨Nat.le_of_ble_eq_true rfl, Nat.le_of_ble_eq_true rfl⟩ (fun r hr => ?_)
  subst hr
  refine lv_istore_n (lv' := [(3, .int (bI (zI (M 0 1) p0))), (0, .ref (bd 0)), (1, .int p0), (2, .int p1)]) hx hb dX3_reach_5 rfl hl (by decide) rfl (fun ls hl => ?_)
  refine lv_iload_n hx hb dX3_reach_6 rfl (lv_at hl 3 rfl) ?_
  refine lv_iconst (v := nI 0) hx hb dX3_reach_7 (by decide) ?_
  refine lv_iconst (v := nI 2) hx hb dX3_reach_8 (by decide) ?_
  refine z_cS (As := [.int p1, .int (nI 0), .int (nI 2)]) (rest := []) F (c_X3_in l p1 (nI 0) (nI 2)) (va_cwS 3 hts gX3_reach_X3_in rfl rfl rfl (by decide +kernel) ⟨Nat.le_of_ble_eq_true rfl, Nat.le_of_ble_eq_true rfl⟩) rfl hl.1 rfl (Nat.le_of_ble_eq_true rfl) dX3_reach_9 ⟨Nat.le_of_ble_eq_true rfl, Nat.le_of_ble_eq_true rfl⟩ (fun r hr => ?_)
  subst hr
  refine lv_istore (lv' := [(4, .int (bI (nI 0 ≤ p1 ∧ p1 ≤ nI 2))), (3, .int (bI (zI (M 0 1) p0))), (0, .ref (bd 0)), (1, .int p0), (2, .int p1)]) hx hb dX3_reach_12 hl (by decide) rfl (fun ls hl => ?_)
  refine lv_aload_n hx hb dX3_reach_14 rfl (lv_at hl 2 rfl) ?_
  refine lv_iload_n hx hb dX3_reach_15 rfl (lv_at hl 1 rfl) ?_
  refine lv_iload hx hb dX3_reach_16 (lv_at hl 0 rfl) ?_
  refine lv_iload_n hx hb dX3_reach_18 rfl (lv_at hl 1 rfl) ?_
  refine z_ifb_eq (tgt := 53) F dX3_reach_19 (by decide) (fun c5 => ?_) (fun c5 => ?_)
  · refine lv_iconst (v := nI 0) hx hb dX3_reach_53 (by decide) ?_
    refine z_top (show nI 0 = bI (((zI (M 0 1) p0) ∧ nI 0 ≤ p1 ∧ p1 ≤ nI 2) ∧ M 12 (ix p0) = 0 ∧ ¬ ix p1 < M 16 (ix p0)) from (bI_f (fun zz1 => by have zz2 := zz1.1.1; first | exact c5 zz2 | exact zz2 c5 | omega)).symm) ?_
    refine z_mV (qc := (RX3, TX3, 21)) (As := [.int (bI (zI (M 0 1) p0)), .int (bI (nI 0 ≤ p1 ∧ p1 ≤ nI 2)), .int (bI (((zI (M 0 1) p0) ∧ nI 0 ≤ p1 ∧ p1 ≤ nI 2) ∧ M 12 (ix p0) = 0 ∧ ¬ ix p1 < M 16 (ix p0)))]) (rest := []) (0) F (c_X3_asked__ l D k bd M O th _ (zI (M 0 1) p0) (nI 0 ≤ p1 ∧ p1 ≤ nI 2) (((zI (M 0 1) p0) ∧ nI 0 ≤ p1 ∧ p1 ≤ nI 2) ∧ M 12 (ix p0) = 0 ∧ ¬ ix p1 < M 16 (ix p0))) (cwV 3 hts gX3_reach_X3_asked__ rfl rfl rfl (by decide +kernel) ⟨Nat.le_of_ble_eq_true rfl, Nat.le_of_ble_eq_true rfl⟩) hK hP hD hS hA (by omega) cM_0 rfl rfl hl.1 rfl (Nat.le_of_ble_eq_true rfl) dX3_reach_54 ⟨Nat.le_of_ble_eq_true rfl, Nat.le_of_ble_eq_true rfl⟩ (fun r H locs hr0 hP hD hS => ?_)
    subst hr0
    refine z_ifb_ne (tgt := 62) F dX3_reach_57 (by decide) (fun c6 => ?_) (fun c6 => ?_)
    · exact absurd c6.2.2 (fun zz1 => by have zz2 := zz1.1.1; first | exact c5 zz2 | exact zz2 c5 | omega)
    · refine lv_iconst (v := nI 0) hx hb dX3_reach_60 (by decide) ?_
      have hx0 : (x3 (zI (M 0 1) p0) (nI 0 ≤ p1 ∧ p1 ≤ nI 2) (M 12 (ix p0) = 0 ∧ ¬ ix p1 < M 16 (ix p0))) ≠ 0 := x3_no (fun zz1 => c6 ⟨zz1.1, zz1.2.1, ⟨zz1.1, zz1.2.1⟩, zz1.2.2⟩)
      have eW : cM k bd (if (x3 (zI (M 0 1) p0) (nI 0 ≤ p1 ∧ p1 ≤ nI 2) (M 12 (ix p0) = 0 ∧ ¬ ix p1 < M 16 (ix p0))) = 0 then (reM M (ix p0) (ix p1)) else M) (if (x3 (zI (M 0 1) p0) (nI 0 ≤ p1 ∧ p1 ≤ nI 2) (M 12 (ix p0) = 0 ∧ ¬ ix p1 < M 16 (ix p0))) = 0 then (reO M O (ix p0) (ix p1)) else O) (nI ((x3 (zI (M 0 1) p0) (nI 0 ≤ p1 ∧ p1 ≤ nI 2) (M 12 (ix p0) = 0 ∧ ¬ ix p1 < M 16 (ix p0))))) = cM k bd M O (nI (x3 (zI (M 0 1) p0) (nI 0 ≤ p1 ∧ p1 ≤ nI 2) (((zI (M 0 1) p0) ∧ nI 0 ≤ p1 ∧ p1 ≤ nI 2) ∧ M 12 (ix p0) = 0 ∧ ¬ ix p1 < M 16 (ix p0)))) := by rw [if_neg hx0, if_neg hx0, ← x3_abc] <;> rfl
      rw [← eW] at hP hD
      refine W.widen (k := 0) (n := 0) (Nat.le_of_ble_eq_true rfl) (Nat.le_of_ble_eq_true rfl) ?_
      exact W.iret (v := nI 0) hx hb hr (fun t ht hW => ⟨⟨nI 0, (), rfl, fun zz1 => absurd zz1 hx0, ⟨by rw [ht]; exact hP, va_K.moved hW.alike hK⟩, hD⟩, hS.F ht⟩) hS.2.2 dX3_reach_61
  · obtain ⟨i, hi, rfl⟩ := id (c5)
    try rw [ix_nI (show i < 2 ^ 31 by omega)]
    have hz := hI5 i hi
    obtain ⟨hc1, hc2, hc3, hc4, hc5, hc6, hc7⟩ := id hz
    refine lv_iload hx hb dX3_reach_22 (lv_at hl 0 rfl) ?_
    refine z_ifb_eq (tgt := 53) F dX3_reach_24 (by decide) (fun c7 => ?_) (fun c7 => ?_)
    · refine lv_iconst (v := nI 0) hx hb dX3_reach_53 (by decide) ?_
      refine z_top (show nI 0 = bI (((zI (M 0 1) (nI i)) ∧ nI 0 ≤ p1 ∧ p1 ≤ nI 2) ∧ M 12 (i) = 0 ∧ ¬ ix p1 < M 16 (i)) from (bI_f (fun zz1 => by have zz2 := zz1.1.2; first | exact c7 zz2 | exact zz2 c7 | omega)).symm) ?_
      refine z_mV (qc := (RX3, TX3, 21)) (As := [.int (bI (zI (M 0 1) (nI i))), .int (bI (nI 0 ≤ p1 ∧ p1 ≤ nI 2)), .int (bI (((zI (M 0 1) (nI i)) ∧ nI 0 ≤ p1 ∧ p1 ≤ nI 2) ∧ M 12 (i) = 0 ∧ ¬ ix p1 < M 16 (i)))]) (rest := []) (0) F (c_X3_asked__ l D k bd M O th _ (zI (M 0 1) (nI i)) (nI 0 ≤ p1 ∧ p1 ≤ nI 2) (((zI (M 0 1) (nI i)) ∧ nI 0 ≤ p1 ∧ p1 ≤ nI 2) ∧ M 12 (i) = 0 ∧ ¬ ix p1 < M 16 (i))) (cwV 3 hts gX3_reach_X3_asked__ rfl rfl rfl (by decide +kernel) ⟨Nat.le_of_ble_eq_true rfl, Nat.le_of_ble_eq_true rfl⟩) hK hP hD hS hA (by omega) cM_0 rfl rfl hl.1 rfl (Nat.le_of_ble_eq_true rfl) dX3_reach_54 ⟨Nat.le_of_ble_eq_true rfl, Nat.le_of_ble_eq_true rfl⟩ (fun r H locs hr0 hP hD hS => ?_)
      subst hr0
      refine z_ifb_ne (tgt := 62) F dX3_reach_57 (by decide) (fun c8 => ?_) (fun c8 => ?_)
      · exact absurd c8.2.2 (fun zz1 => by have zz2 := zz1.1.2; first | exact c7 zz2 | exact zz2 c7 | omega)
      · refine lv_iconst (v := nI 0) hx hb dX3_reach_60 (by decide) ?_
        have hx0 : (x3 (zI (M 0 1) (nI i)) (nI 0 ≤ p1 ∧ p1 ≤ nI 2) (M 12 (i) = 0 ∧ ¬ ix p1 < M 16 (i))) ≠ 0 := x3_no (fun zz1 => c8 ⟨zz1.1, zz1.2.1, ⟨zz1.1, zz1.2.1⟩, zz1.2.2⟩)
        have eW : cM k bd (if (x3 (zI (M 0 1) (nI i)) (nI 0 ≤ p1 ∧ p1 ≤ nI 2) (M 12 (i) = 0 ∧ ¬ ix p1 < M 16 (i))) = 0 then (reM M (i) (ix p1)) else M) (if (x3 (zI (M 0 1) (nI i)) (nI 0 ≤ p1 ∧ p1 ≤ nI 2) (M 12 (i) = 0 ∧ ¬ ix p1 < M 16 (i))) = 0 then (reO M O (i) (ix p1)) else O) (nI ((x3 (zI (M 0 1) (nI i)) (nI 0 ≤ p1 ∧ p1 ≤ nI 2) (M 12 (i) = 0 ∧ ¬ ix p1 < M 16 (i))))) = cM k bd M O (nI (x3 (zI (M 0 1) (nI i)) (nI 0 ≤ p1 ∧ p1 ≤ nI 2) (((zI (M 0 1) (nI i)) ∧ nI 0 ≤ p1 ∧ p1 ≤ nI 2) ∧ M 12 (i) = 0 ∧ ¬ ix p1 < M 16 (i)))) := by rw [if_neg hx0, if_neg hx0, ← x3_abc] <;> rfl
        rw [← eW] at hP hD
        refine W.widen (k := 0) (n := 0) (Nat.le_of_ble_eq_true rfl) (Nat.le_of_ble_eq_true rfl) ?_
        exact W.iret (v := nI 0) hx hb hr (fun t ht hW => ⟨⟨nI 0, (), rfl, fun zz1 => absurd zz1 hx0, ⟨by rw [ht]; exact hP, va_K.moved hW.alike hK⟩, hD⟩, hS.F ht⟩) hS.2.2 dX3_reach_61
    · obtain ⟨st, hst0, hst, rfl⟩ := (zB_iff (by decide) (by decide)).mp c7
      try rw [ix_nI (show st < 2 ^ 31 by omega)]
      refine lv_aload_n hx hb dX3_reach_27 rfl (lv_at hl 2 rfl) ?_
      refine z_get (C := RX3) (T := TX3) (N := 21) (ci := 3) (fs := mObj bd M th) (v := .ref (bd 12)) F hK hP hi3 rfl (0) 12 (by omega) cM_0 (by decide) rfl (by decide +kernel) dX3_reach_28 ?_
      refine lv_iload_n hx hb dX3_reach_31 rfl (lv_at hl 3 rfl) ?_
      refine z_iald (v := nI (M 12 i)) (cA := k 0) (len := 40) (g := mA M O 12) F hK hP (12) 0 (by omega) rfl rfl (i := nI i) i rfl (by omega) (by decide) rfl dX3_reach_32 ?_
      refine z_ifn_ne (tgt := 53) F (by omega) dX3_reach_33 (by decide) (fun c9 => ?_) (fun c9 => ?_)
      · refine lv_iconst (v := nI 0) hx hb dX3_reach_53 (by decide) ?_
        refine z_top (show nI 0 = bI (((zI (M 0 1) (nI i)) ∧ nI 0 ≤ (nI st) ∧ (nI st) ≤ nI 2) ∧ M 12 (i) = 0 ∧ ¬ st < M 16 (i)) from (bI_f (fun zz1 => by have zz2 := zz1.2.1; first | exact c9 zz2 | exact zz2 c9 | omega)).symm) ?_
        refine z_mV (qc := (RX3, TX3, 21)) (As := [.int (bI (zI (M 0 1) (nI i))), .int (bI (nI 0 ≤ (nI st) ∧ (nI st) ≤ nI 2)), .int (bI (((zI (M 0 1) (nI i)) ∧ nI 0 ≤ (nI st) ∧ (nI st) ≤ nI 2) ∧ M 12 (i) = 0 ∧ ¬ st < M 16 (i)))]) (rest := []) (0) F (c_X3_asked__ l D k bd M O th _ (zI (M 0 1) (nI i)) (nI 0 ≤ (nI st) ∧ (nI st) ≤ nI 2) (((zI (M 0 1) (nI i)) ∧ nI 0 ≤ (nI st) ∧ (nI st) ≤ nI 2) ∧ M 12 (i) = 0 ∧ ¬ st < M 16 (i))) (cwV 3 hts gX3_reach_X3_asked__ rfl rfl rfl (by decide +kernel) ⟨Nat.le_of_ble_eq_true rfl, Nat.le_of_ble_eq_true rfl⟩) hK hP hD hS hA (by omega) cM_0 rfl rfl hl.1 rfl (Nat.le_of_ble_eq_true rfl) dX3_reach_54 ⟨Nat.le_of_ble_eq_true rfl, Nat.le_of_ble_eq_true rfl⟩ (fun r H locs hr0 hP hD hS => ?_)
        subst hr0
        refine z_ifb_ne (tgt := 62) F dX3_reach_57 (by decide) (fun c10 => ?_) (fun c10 => ?_)
        · exact absurd c10.2.2 (fun zz1 => by have zz2 := zz1.2.1; first | exact c9 zz2 | exact zz2 c9 | omega)
        · refine lv_iconst (v := nI 0) hx hb dX3_reach_60 (by decide) ?_
          have hx0 : (x3 (zI (M 0 1) (nI i)) (nI 0 ≤ (nI st) ∧ (nI st) ≤ nI 2) (M 12 (i) = 0 ∧ ¬ st < M 16 (i))) ≠ 0 := x3_no (fun zz1 => c10 ⟨zz1.1, zz1.2.1, ⟨zz1.1, zz1.2.1⟩, zz1.2.2⟩)
          have eW : cM k bd (if (x3 (zI (M 0 1) (nI i)) (nI 0 ≤ (nI st) ∧ (nI st) ≤ nI 2) (M 12 (i) = 0 ∧ ¬ st < M 16 (i))) = 0 then (reM M (i) (st)) else M) (if (x3 (zI (M 0 1) (nI i)) (nI 0 ≤ (nI st) ∧ (nI st) ≤ nI 2) (M 12 (i) = 0 ∧ ¬ st < M 16 (i))) = 0 then (reO M O (i) (st)) else O) (nI ((x3 (zI (M 0 1) (nI i)) (nI 0 ≤ (nI st) ∧ (nI st) ≤ nI 2) (M 12 (i) = 0 ∧ ¬ st < M 16 (i))))) = cM k bd M O (nI (x3 (zI (M 0 1) (nI i)) (nI 0 ≤ (nI st) ∧ (nI st) ≤ nI 2) (((zI (M 0 1) (nI i)) ∧ nI 0 ≤ (nI st) ∧ (nI st) ≤ nI 2) ∧ M 12 (i) = 0 ∧ ¬ st < M 16 (i)))) := by rw [if_neg hx0, if_neg hx0, ← x3_abc] <;> rfl
          rw [← eW] at hP hD
          refine W.widen (k := 0) (n := 0) (Nat.le_of_ble_eq_true rfl) (Nat.le_of_ble_eq_true rfl) ?_
          exact W.iret (v := nI 0) hx hb hr (fun t ht hW => ⟨⟨nI 0, (), rfl, fun zz1 => absurd zz1 hx0, ⟨by rw [ht]; exact hP, va_K.moved hW.alike hK⟩, hD⟩, hS.F ht⟩) hS.2.2 dX3_reach_61
      · refine lv_aload_n hx hb dX3_reach_36 rfl (lv_at hl 2 rfl) ?_
        refine z_get (C := RX3) (T := TX3) (N := 21) (ci := 3) (fs := mObj bd M th) (v := .ref (bd 16)) F hK hP hi3 rfl (0) 16 (by omega) cM_0 (by decide) rfl (by decide +kernel) dX3_reach_37 ?_
        refine lv_iconst (v := nI 3) hx hb dX3_reach_40 (by decide) ?_
        refine lv_iload_n hx hb dX3_reach_41 rfl (lv_at hl 3 rfl) ?_
        refine z_mul F dX3_reach_42 ?_
        refine lv_iload_n hx hb dX3_reach_43 rfl (lv_at hl 4 rfl) ?_
        refine z_add F dX3_reach_44 ?_
        refine z_zald (v := bI (st < M 16 i)) (cA := k 1) (len := 120) (g := mA M O 16) F hK hP (16) 1 (by omega) rfl rfl (i := nI ((3 * i) + st)) ((3 * i) + st) rfl (by omega) (by decide) (mA_16 (by omega)) dX3_reach_45 ?_
        refine z_ifb_ne (tgt := 53) F dX3_reach_46 (by decide) (fun c11 => ?_) (fun c11 => ?_)
        · refine lv_iconst (v := nI 0) hx hb dX3_reach_53 (by decide) ?_
          refine z_top (show nI 0 = bI (((zI (M 0 1) (nI i)) ∧ nI 0 ≤ (nI st) ∧ (nI st) ≤ nI 2) ∧ M 12 (i) = 0 ∧ ¬ st < M 16 (i)) from (bI_f (fun zz1 => by have zz2 := zz1.2.2; first | exact c11 zz2 | exact zz2 c11 | omega)).symm) ?_
          refine z_mV (qc := (RX3, TX3, 21)) (As := [.int (bI (zI (M 0 1) (nI i))), .int (bI (nI 0 ≤ (nI st) ∧ (nI st) ≤ nI 2)), .int (bI (((zI (M 0 1) (nI i)) ∧ nI 0 ≤ (nI st) ∧ (nI st) ≤ nI 2) ∧ M 12 (i) = 0 ∧ ¬ st < M 16 (i)))]) (rest := []) (0) F (c_X3_asked__ l D k bd M O th _ (zI (M 0 1) (nI i)) (nI 0 ≤ (nI st) ∧ (nI st) ≤ nI 2) (((zI (M 0 1) (nI i)) ∧ nI 0 ≤ (nI st) ∧ (nI st) ≤ nI 2) ∧ M 12 (i) = 0 ∧ ¬ st < M 16 (i))) (cwV 3 hts gX3_reach_X3_asked__ rfl rfl rfl (by decide +kernel) ⟨Nat.le_of_ble_eq_true rfl, Nat.le_of_ble_eq_true rfl⟩) hK hP hD hS hA (by omega) cM_0 rfl rfl hl.1 rfl (Nat.le_of_ble_eq_true rfl) dX3_reach_54 ⟨Nat.le_of_ble_eq_true rfl, Nat.le_of_ble_eq_true rfl⟩ (fun r H locs hr0 hP hD hS => ?_)
          subst hr0
          refine z_ifb_ne (tgt := 62) F dX3_reach_57 (by decide) (fun c12 => ?_) (fun c12 => ?_)
          · exact absurd c12.2.2 (fun zz1 => by have zz2 := zz1.2.2; first | exact c11 zz2 | exact zz2 c11 | omega)
          · refine lv_iconst (v := nI 0) hx hb dX3_reach_60 (by decide) ?_
            have hx0 : (x3 (zI (M 0 1) (nI i)) (nI 0 ≤ (nI st) ∧ (nI st) ≤ nI 2) (M 12 (i) = 0 ∧ ¬ st < M 16 (i))) ≠ 0 := x3_no (fun zz1 => c12 ⟨zz1.1, zz1.2.1, ⟨zz1.1, zz1.2.1⟩, zz1.2.2⟩)
            have eW : cM k bd (if (x3 (zI (M 0 1) (nI i)) (nI 0 ≤ (nI st) ∧ (nI st) ≤ nI 2) (M 12 (i) = 0 ∧ ¬ st < M 16 (i))) = 0 then (reM M (i) (st)) else M) (if (x3 (zI (M 0 1) (nI i)) (nI 0 ≤ (nI st) ∧ (nI st) ≤ nI 2) (M 12 (i) = 0 ∧ ¬ st < M 16 (i))) = 0 then (reO M O (i) (st)) else O) (nI ((x3 (zI (M 0 1) (nI i)) (nI 0 ≤ (nI st) ∧ (nI st) ≤ nI 2) (M 12 (i) = 0 ∧ ¬ st < M 16 (i))))) = cM k bd M O (nI (x3 (zI (M 0 1) (nI i)) (nI 0 ≤ (nI st) ∧ (nI st) ≤ nI 2) (((zI (M 0 1) (nI i)) ∧ nI 0 ≤ (nI st) ∧ (nI st) ≤ nI 2) ∧ M 12 (i) = 0 ∧ ¬ st < M 16 (i)))) := by rw [if_neg hx0, if_neg hx0, ← x3_abc] <;> rfl
            rw [← eW] at hP hD
            refine W.widen (k := 0) (n := 0) (Nat.le_of_ble_eq_true rfl) (Nat.le_of_ble_eq_true rfl) ?_
            exact W.iret (v := nI 0) hx hb hr (fun t ht hW => ⟨⟨nI 0, (), rfl, fun zz1 => absurd zz1 hx0, ⟨by rw [ht]; exact hP, va_K.moved hW.alike hK⟩, hD⟩, hS.F ht⟩) hS.2.2 dX3_reach_61
        · refine lv_iconst (v := nI 1) hx hb dX3_reach_49 (by decide) ?_
          refine lv_goto (tgt := 54) hx hb dX3_reach_50 (by decide) ?_
          refine z_top (show nI 1 = bI (((zI (M 0 1) (nI i)) ∧ nI 0 ≤ (nI st) ∧ (nI st) ≤ nI 2) ∧ M 12 (i) = 0 ∧ ¬ st < M 16 (i)) from (bI_t ⟨⟨c5, c7⟩, c9, c11⟩).symm) ?_
          refine z_mV (qc := (RX3, TX3, 21)) (As := [.int (bI (zI (M 0 1) (nI i))), .int (bI (nI 0 ≤ (nI st) ∧ (nI st) ≤ nI 2)), .int (bI (((zI (M 0 1) (nI i)) ∧ nI 0 ≤ (nI st) ∧ (nI st) ≤ nI 2) ∧ M 12 (i) = 0 ∧ ¬ st < M 16 (i)))]) (rest := []) (0) F (c_X3_asked__ l D k bd M O th _ (zI (M 0 1) (nI i)) (nI 0 ≤ (nI st) ∧ (nI st) ≤ nI 2) (((zI (M 0 1) (nI i)) ∧ nI 0 ≤ (nI st) ∧ (nI st) ≤ nI 2) ∧ M 12 (i) = 0 ∧ ¬ st < M 16 (i))) (cwV 3 hts gX3_reach_X3_asked__ rfl rfl rfl (by decide +kernel) ⟨Nat.le_of_ble_eq_true rfl, Nat.le_of_ble_eq_true rfl⟩) hK hP hD hS hA (by omega) cM_0 rfl rfl hl.1 rfl (Nat.le_of_ble_eq_true rfl) dX3_reach_54 ⟨Nat.le_of_ble_eq_true rfl, Nat.le_of_ble_eq_true rfl⟩ (fun r H locs hr0 hP hD hS => ?_)
          subst hr0
          refine z_ifb_ne (tgt := 62) F dX3_reach_57 (by decide) (fun c13 => ?_) (fun c13 => ?_)
          · have hnr := c13.2.2.2.2
            refine lv_iconst (v := nI 0) hx hb dX3_reach_62 (by decide) ?_
            refine lv_istore (lv' := [(5, .int (nI 0)), (4, .int (bI (nI 0 ≤ (nI st) ∧ (nI st) ≤ nI 2))), (3, .int (bI (zI (M 0 1) (nI i)))), (0, .ref (bd 0)), (1, .int (nI i)), (2, .int (nI st))]) hx hb dX3_reach_63 hl (by decide) rfl (fun ls hl => ?_)
            have e0 : zu M 16 i (max (M 16 i) 0) = M := by rw [Nat.max_zero, zu_id]
            have e9 : max (M 16 i) (st + 1) = st + 1 := by omega
            refine lp_reachA (A := A) F hK (show i < 40 by omega) hst (fun H locs hP hD hS ls hl => ?_) (st + 2) 0 H _ (by omega) (by omega) (by rw [e0]; exact hP) (by rw [e0]; exact hD) hS ls (lv_sub hl [0, 3, 4, 5, 2] rfl)
            rw [e9] at hP hD
            have hz1 : zCa (zu M 16 i (st + 1)) i := ⟨hc1, hc2, hc3, hc4, hc5, hc6, by rw [zu_s]; omega⟩
            have hca1 : ∀ c, c < (zu M 16 i (st + 1)) 0 1 → zCa (zu M 16 i (st + 1)) c := by
              intro zc zc1
              obtain ⟨g1, g2, g3, g4, g5, g6, g7⟩ := hI5 zc zc1
              refine ⟨g1, g2, g3, g4, g5, g6, ?_⟩
              by_cases zc2 : zc = i
              · rw [zc2, zu_s]; omega
              · rw [zu_i _ _ _ _ zc2]; exact g7
            have hmn := mN_le (zu M 16 i (st + 1)) i 3
            refine lv_aload_n hx hb dX3_reach_89 rfl (lv_at hl 0 rfl) ?_
            refine lv_iload_n hx hb dX3_reach_90 rfl (lv_at hl 1 rfl) ?_
            refine z_cV (qc := (RX3, TX3, 21)) (As := [.int (nI i)]) (rest := []) (0) F (c_X3_missedOf l D k bd (zu M 16 i (st + 1)) O (nI (x3 (zI (M 0 1) (nI i)) (nI 0 ≤ (nI st) ∧ (nI st) ≤ nI 2) (((zI (M 0 1) (nI i)) ∧ nI 0 ≤ (nI st) ∧ (nI st) ≤ nI 2) ∧ M 12 (i) = 0 ∧ ¬ st < M 16 (i)))) i hz1 (by omega) hI4 hk9) (cwV 1 hts gX3_reach_X3_missedOf rfl rfl rfl (by decide +kernel) ⟨Nat.le_of_ble_eq_true rfl, Nat.le_of_ble_eq_true rfl⟩) hK hP (by omega) cM_0 rfl rfl hl.1 rfl (Nat.le_of_ble_eq_true rfl) dX3_reach_91 ⟨Nat.le_of_ble_eq_true rfl, Nat.le_of_ble_eq_true rfl⟩ (fun r hr => ?_)
            subst hr
            refine lv_istore (lv' := [(5, .int (nI (mN (zu M 16 i (st + 1)) i 3))), (0, .ref (bd 0)), (1, .int (nI i)), (2, .int (nI st))]) hx hb dX3_reach_94 hl (by decide) rfl (fun ls hl => ?_)
            refine lv_iload_n hx hb dX3_reach_96 rfl (lv_at hl 3 rfl) ?_
            refine lv_iconst (v := nI 2) hx hb dX3_reach_97 (by decide) ?_
            refine z_icmp_ne (tgt := 212) F (by omega) (by omega) dX3_reach_98 (by decide) (fun c14 => ?_) (fun c14 => ?_)
            · refine lv_iload hx hb dX3_reach_212 (lv_at hl 0 rfl) ?_
              have hx0 : (x3 (zI (M 0 1) (nI i)) (nI 0 ≤ (nI st) ∧ (nI st) ≤ nI 2) (M 12 (i) = 0 ∧ ¬ st < M 16 (i))) = 0 := x3_0 c13.1 c13.2.1 c13.2.2.2
              have eW : cM k bd (if (x3 (zI (M 0 1) (nI i)) (nI 0 ≤ (nI st) ∧ (nI st) ≤ nI 2) (M 12 (i) = 0 ∧ ¬ st < M 16 (i))) = 0 then (reM M (i) (st)) else M) (if (x3 (zI (M 0 1) (nI i)) (nI 0 ≤ (nI st) ∧ (nI st) ≤ nI 2) (M 12 (i) = 0 ∧ ¬ st < M 16 (i))) = 0 then (reO M O (i) (st)) else O) (nI ((x3 (zI (M 0 1) (nI i)) (nI 0 ≤ (nI st) ∧ (nI st) ≤ nI 2) (M 12 (i) = 0 ∧ ¬ st < M 16 (i))))) = cM k bd (zu M 16 i (st + 1)) O (nI (x3 (zI (M 0 1) (nI i)) (nI 0 ≤ (nI st) ∧ (nI st) ≤ nI 2) (((zI (M 0 1) (nI i)) ∧ nI 0 ≤ (nI st) ∧ (nI st) ≤ nI 2) ∧ M 12 (i) = 0 ∧ ¬ st < M 16 (i)))) := by rw [if_pos hx0, if_pos hx0, ← x3_abc, show reM M i st = zu M 16 i (st + 1) by unfold reM; rw [if_neg c14], show reO M O i st = O by unfold reO; rw [if_neg c14]] <;> rfl
              rw [← eW] at hP hD
              refine W.widen (k := 0) (n := 0) (Nat.le_of_ble_eq_true rfl) (Nat.le_of_ble_eq_true rfl) ?_
              exact W.iret (v := nI (mN (zu M 16 i (st + 1)) i 3)) hx hb hr (fun t ht hW => ⟨⟨nI (mN (zu M 16 i (st + 1)) i 3), (), rfl, fun _ => rfl, ⟨by rw [ht]; exact hP, va_K.moved hW.alike hK⟩, hD⟩, hS.F ht⟩) hS.2.2 dX3_reach_214
            · refine lv_aload_n hx hb dX3_reach_101 rfl (lv_at hl 1 rfl) ?_
              refine z_get (C := RX3) (T := TX3) (N := 21) (ci := 3) (fs := mObj bd (zu M 16 i (st + 1)) (nI (x3 (zI (M 0 1) (nI i)) (nI 0 ≤ (nI st) ∧ (nI st) ≤ nI 2) (((zI (M 0 1) (nI i)) ∧ nI 0 ≤ (nI st) ∧ (nI st) ≤ nI 2) ∧ M 12 (i) = 0 ∧ ¬ st < M 16 (i))))) (v := .ref (bd 12)) F hK hP hi3 rfl (0) 12 (by omega) cM_0 (by decide) rfl (by decide +kernel) dX3_reach_102 ?_
              refine lv_iload_n hx hb dX3_reach_105 rfl (lv_at hl 2 rfl) ?_
              refine lv_iconst (v := nI 2) hx hb dX3_reach_106 (by decide) ?_
              refine z_iast (f' := (cM k bd (zu (zu M 16 i (st + 1)) 12 i 2) O (nI (x3 (zI (M 0 1) (nI i)) (nI 0 ≤ (nI st) ∧ (nI st) ≤ nI 2) (((zI (M 0 1) (nI i)) ∧ nI 0 ≤ (nI st) ∧ (nI st) ≤ nI 2) ∧ M 12 (i) = 0 ∧ ¬ st < M 16 (i)))))) (cA := k 0) (len := 40) (g := mA (zu M 16 i (st + 1)) O 12) F hK hP hD hS (12) 0 (by omega) rfl rfl (i := nI i) i rfl (by omega) (by decide) (cM_urow 12 (by decide) (by decide) (by decide) (by decide) (by decide) _ _) dX3_reach_107 (fun H locs hP hD hS => ?_)
              refine lv_iconst (v := nI 0) hx hb dX3_reach_108 (by decide) ?_
              refine lv_istore (lv' := [(6, .int (nI 0)), (5, .int (nI (mN (zu M 16 i (st + 1)) i 3))), (0, .ref (bd 0)), (1, .int (nI i)), (2, .int (nI st))]) hx hb dX3_reach_109 hl (by decide) rfl (fun ls hl => ?_)
              have e8 : clM (zu (zu M 16 i (st + 1)) 12 i 2) i 0 = zu (zu M 16 i (st + 1)) 12 i 2 := clM_0 _ _
              refine lp_reachB (M := zu M 16 i (st + 1)) (A := A) (n0 := mN (zu M 16 i (st + 1)) i 3) F hK (show i < 40 by omega) hI2 hca1 (fun H locs hP hD hS ls hl => ?_) (M 0 1 + 1) 0 H _ (Nat.zero_le _) (Nat.lt_of_lt_of_eq (Nat.lt_succ_self _) (Nat.zero_add _).symm) (by rw [e8]; exact hP) (by rw [e8]; exact hD) hS ls (lv_sub hl [0, 2, 3, 4, 1] rfl)
              have e9 : (clM (zu (zu M 16 i (st + 1)) 12 i 2) i ((zu M 16 i (st + 1)) 0 1)) 9 i = M 9 i := clM_r (by decide)
              have e00 : (clM (zu (zu M 16 i (st + 1)) 12 i 2) i ((zu M 16 i (st + 1)) 0 1)) 0 0 = M 0 0 := clM_r (by decide)
              obtain ⟨hs, hco⟩ := hI3 _ hc1
              refine lv_aload_n hx hb dX3_reach_166 rfl (lv_at hl 0 rfl) ?_
              refine lv_aload_n hx hb dX3_reach_167 rfl (lv_at hl 0 rfl) ?_
              refine z_get (C := RX3) (T := TX3) (N := 21) (ci := 3) (fs := mObj bd (clM (zu (zu M 16 i (st + 1)) 12 i 2) i ((zu M 16 i (st + 1)) 0 1)) (nI (x3 (zI (M 0 1) (nI i)) (nI 0 ≤ (nI st) ∧ (nI st) ≤ nI 2) (((zI (M 0 1) (nI i)) ∧ nI 0 ≤ (nI st) ∧ (nI st) ≤ nI 2) ∧ M 12 (i) = 0 ∧ ¬ st < M 16 (i))))) (v := .ref (bd 9)) F hK hP hi3 rfl (0) 9 (by omega) cM_0 (by decide) rfl (by decide +kernel) dX3_reach_168 ?_
              refine lv_iload_n hx hb dX3_reach_171 rfl (lv_at hl 1 rfl) ?_
              refine z_iald (v := nI ((clM (zu (zu M 16 i (st + 1)) 12 i 2) i ((zu M 16 i (st + 1)) 0 1)) 9 i)) (cA := k 0) (len := 40) (g := mA (clM (zu (zu M 16 i (st + 1)) 12 i 2) i ((zu M 16 i (st + 1)) 0 1)) O 9) F hK hP (9) 0 (by omega) rfl rfl (i := nI i) i rfl (by omega) (by decide) rfl dX3_reach_172 ?_
              refine lv_aload_n hx hb dX3_reach_173 rfl (lv_at hl 0 rfl) ?_
              refine z_get (C := RX3) (T := TX3) (N := 21) (ci := 3) (fs := mObj bd (clM (zu (zu M 16 i (st + 1)) 12 i 2) i ((zu M 16 i (st + 1)) 0 1)) (nI (x3 (zI (M 0 1) (nI i)) (nI 0 ≤ (nI st) ∧ (nI st) ≤ nI 2) (((zI (M 0 1) (nI i)) ∧ nI 0 ≤ (nI st) ∧ (nI st) ≤ nI 2) ∧ M 12 (i) = 0 ∧ ¬ st < M 16 (i))))) (v := .ref (bd 10)) F hK hP hi3 rfl (0) 10 (by omega) cM_0 (by decide) rfl (by decide +kernel) dX3_reach_174 ?_
              refine lv_iload_n hx hb dX3_reach_177 rfl (lv_at hl 1 rfl) ?_
              refine z_iald (v := nI ((clM (zu (zu M 16 i (st + 1)) 12 i 2) i ((zu M 16 i (st + 1)) 0 1)) 10 i)) (cA := k 0) (len := 40) (g := mA (clM (zu (zu M 16 i (st + 1)) 12 i 2) i ((zu M 16 i (st + 1)) 0 1)) O 10) F hK hP (10) 0 (by omega) rfl rfl (i := nI i) i rfl (by omega) (by decide) rfl dX3_reach_178 ?_
              refine lv_aload_n hx hb dX3_reach_179 rfl (lv_at hl 0 rfl) ?_
              refine z_get (C := RX3) (T := TX3) (N := 21) (ci := 3) (fs := mObj bd (clM (zu (zu M 16 i (st + 1)) 12 i 2) i ((zu M 16 i (st + 1)) 0 1)) (nI (x3 (zI (M 0 1) (nI i)) (nI 0 ≤ (nI st) ∧ (nI st) ≤ nI 2) (((zI (M 0 1) (nI i)) ∧ nI 0 ≤ (nI st) ∧ (nI st) ≤ nI 2) ∧ M 12 (i) = 0 ∧ ¬ st < M 16 (i))))) (v := .int (nI ((clM (zu (zu M 16 i (st + 1)) 12 i 2) i ((zu M 16 i (st + 1)) 0 1)) 0 0))) F hK hP hi3 rfl (0) 0 (by omega) cM_0 (by decide) rfl (by decide +kernel) dX3_reach_180 ?_
              refine lv_bipush (v := nI 24) hx hb dX3_reach_183 (by decide) ?_
              refine z_div F (by omega) (by omega) (by omega) dX3_reach_185 ?_
              refine z_cV (qc := (RX3, TX3, 21)) (As := [.int (nI ((clM (zu (zu M 16 i (st + 1)) 12 i 2) i ((zu M 16 i (st + 1)) 0 1)) 9 i)), .int (nI ((clM (zu (zu M 16 i (st + 1)) 12 i 2) i ((zu M 16 i (st + 1)) 0 1)) 10 i)), .int (nI (((clM (zu (zu M 16 i (st + 1)) 12 i 2) i ((zu M 16 i (st + 1)) 0 1)) 0 0) / 24))]) (rest := []) (0) F (c_X3_covered l D k bd (clM (zu (zu M 16 i (st + 1)) 12 i 2) i ((zu M 16 i (st + 1)) 0 1)) O (nI (x3 (zI (M 0 1) (nI i)) (nI 0 ≤ (nI st) ∧ (nI st) ≤ nI 2) (((zI (M 0 1) (nI i)) ∧ nI 0 ≤ (nI st) ∧ (nI st) ≤ nI 2) ∧ M 12 (i) = 0 ∧ ¬ st < M 16 (i)))) (M 9 i) (M 10 i) (M 0 0 / 24) hs hco hc1 hc2 (by omega)) (cwV 3 hts gX3_reach_X3_covered rfl rfl rfl (by decide +kernel) ⟨Nat.le_of_ble_eq_true rfl, Nat.le_of_ble_eq_true rfl⟩) hK hP (by omega) cM_0 rfl rfl hl.1 rfl (Nat.le_of_ble_eq_true rfl) dX3_reach_186 ⟨Nat.le_of_ble_eq_true rfl, Nat.le_of_ble_eq_true rfl⟩ (fun r hr => ?_)
              subst hr
              refine z_ifb_eq (tgt := 212) F dX3_reach_189 (by decide) (fun c15 => ?_) (fun c15 => ?_)
              · refine lv_iload hx hb dX3_reach_212 (lv_at hl 3 rfl) ?_
                have hx0 : (x3 (zI (M 0 1) (nI i)) (nI 0 ≤ (nI st) ∧ (nI st) ≤ nI 2) (M 12 (i) = 0 ∧ ¬ st < M 16 (i))) = 0 := x3_0 c13.1 c13.2.1 c13.2.2.2
                have eW : cM k bd (if (x3 (zI (M 0 1) (nI i)) (nI 0 ≤ (nI st) ∧ (nI st) ≤ nI 2) (M 12 (i) = 0 ∧ ¬ st < M 16 (i))) = 0 then (reM M (i) (st)) else M) (if (x3 (zI (M 0 1) (nI i)) (nI 0 ≤ (nI st) ∧ (nI st) ≤ nI 2) (M 12 (i) = 0 ∧ ¬ st < M 16 (i))) = 0 then (reO M O (i) (st)) else O) (nI ((x3 (zI (M 0 1) (nI i)) (nI 0 ≤ (nI st) ∧ (nI st) ≤ nI 2) (M 12 (i) = 0 ∧ ¬ st < M 16 (i))))) = cM k bd (clM (zu (zu M 16 i (st + 1)) 12 i 2) i ((zu M 16 i (st + 1)) 0 1)) O (nI (x3 (zI (M 0 1) (nI i)) (nI 0 ≤ (nI st) ∧ (nI st) ≤ nI 2) (((zI (M 0 1) (nI i)) ∧ nI 0 ≤ (nI st) ∧ (nI st) ≤ nI 2) ∧ M 12 (i) = 0 ∧ ¬ st < M 16 (i)))) := by rw [if_pos hx0, if_pos hx0, ← x3_abc, show reM M i st = clM (zu (zu M 16 i (st + 1)) 12 i 2) i ((zu M 16 i (st + 1)) 0 1) by unfold reM; rw [if_pos c14]; rfl, show reO M O i st = crO M O i (mN (zu M 16 i (st + 1)) i 3) by unfold reO; rw [if_pos c14], crO_f (show ¬ cov M (M 9 i) (M 10 i) (M 0 0 / 24) from c15)] <;> rfl
                rw [← eW] at hP hD
                refine W.widen (k := 0) (n := 0) (Nat.le_of_ble_eq_true rfl) (Nat.le_of_ble_eq_true rfl) ?_
                exact W.iret (v := nI (mN (zu M 16 i (st + 1)) i 3)) hx hb hr (fun t ht hW => ⟨⟨nI (mN (zu M 16 i (st + 1)) i 3), (), rfl, fun _ => rfl, ⟨by rw [ht]; exact hP, va_K.moved hW.alike hK⟩, hD⟩, hS.F ht⟩) hS.2.2 dX3_reach_214
              · refine lv_aload_n hx hb dX3_reach_192 rfl (lv_at hl 0 rfl) ?_
                refine z_get (C := RX3) (T := TX3) (N := 21) (ci := 3) (fs := mObj bd (clM (zu (zu M 16 i (st + 1)) 12 i 2) i ((zu M 16 i (st + 1)) 0 1)) (nI (x3 (zI (M 0 1) (nI i)) (nI 0 ≤ (nI st) ∧ (nI st) ≤ nI 2) (((zI (M 0 1) (nI i)) ∧ nI 0 ≤ (nI st) ∧ (nI st) ≤ nI 2) ∧ M 12 (i) = 0 ∧ ¬ st < M 16 (i))))) (v := .ref (bd 18)) F hK hP hi3 rfl (0) 19 (by omega) cM_0 (by decide) rfl (by decide +kernel) dX3_reach_193 ?_
                refine lv_aload_n hx hb dX3_reach_196 rfl (lv_at hl 0 rfl) ?_
                refine z_get (C := RX3) (T := TX3) (N := 21) (ci := 3) (fs := mObj bd (clM (zu (zu M 16 i (st + 1)) 12 i 2) i ((zu M 16 i (st + 1)) 0 1)) (nI (x3 (zI (M 0 1) (nI i)) (nI 0 ≤ (nI st) ∧ (nI st) ≤ nI 2) (((zI (M 0 1) (nI i)) ∧ nI 0 ≤ (nI st) ∧ (nI st) ≤ nI 2) ∧ M 12 (i) = 0 ∧ ¬ st < M 16 (i))))) (v := .ref (bd 9)) F hK hP hi3 rfl (0) 9 (by omega) cM_0 (by decide) rfl (by decide +kernel) dX3_reach_197 ?_
                refine lv_iload_n hx hb dX3_reach_200 rfl (lv_at hl 1 rfl) ?_
                refine z_iald (v := nI ((clM (zu (zu M 16 i (st + 1)) 12 i 2) i ((zu M 16 i (st + 1)) 0 1)) 9 i)) (cA := k 0) (len := 40) (g := mA (clM (zu (zu M 16 i (st + 1)) 12 i 2) i ((zu M 16 i (st + 1)) 0 1)) O 9) F hK hP (9) 0 (by omega) rfl rfl (i := nI i) i rfl (by omega) (by decide) rfl dX3_reach_201 ?_
                refine lv_dup2_11 hx hb dX3_reach_202 rfl rfl ?_
                refine z_iald (v := O 1 ((clM (zu (zu M 16 i (st + 1)) 12 i 2) i ((zu M 16 i (st + 1)) 0 1)) 9 i)) (cA := k 0) (len := 4) (g := mA (clM (zu (zu M 16 i (st + 1)) 12 i 2) i ((zu M 16 i (st + 1)) 0 1)) O 18) F hK hP (18) 0 (by omega) rfl rfl (i := nI ((clM (zu (zu M 16 i (st + 1)) 12 i 2) i ((zu M 16 i (st + 1)) 0 1)) 9 i)) ((clM (zu (zu M 16 i (st + 1)) 12 i 2) i ((zu M 16 i (st + 1)) 0 1)) 9 i) rfl hc1 (by decide) rfl dX3_reach_203 ?_
                refine lv_sipush (v := nI 2500) hx hb dX3_reach_204 (by decide) ?_
                refine lv_iload hx hb dX3_reach_207 (lv_at hl 3 rfl) ?_
                refine z_mul F dX3_reach_209 ?_
                refine lv_isub hx hb dX3_reach_210 ?_
                refine z_iast (f' := (cM k bd (clM (zu (zu M 16 i (st + 1)) 12 i 2) i ((zu M 16 i (st + 1)) 0 1)) (zo O 1 ((clM (zu (zu M 16 i (st + 1)) 12 i 2) i ((zu M 16 i (st + 1)) 0 1)) 9 i) ((O 1 ((clM (zu (zu M 16 i (st + 1)) 12 i 2) i ((zu M 16 i (st + 1)) 0 1)) 9 i)) - (nI (2500 * (mN (zu M 16 i (st + 1)) i 3))))) (nI (x3 (zI (M 0 1) (nI i)) (nI 0 ≤ (nI st) ∧ (nI st) ≤ nI 2) (((zI (M 0 1) (nI i)) ∧ nI 0 ≤ (nI st) ∧ (nI st) ≤ nI 2) ∧ M 12 (i) = 0 ∧ ¬ st < M 16 (i)))))) (cA := k 0) (len := 4) (g := mA (clM (zu (zu M 16 i (st + 1)) 12 i 2) i ((zu M 16 i (st + 1)) 0 1)) O 18) F hK hP hD hS (18) 0 (by omega) rfl rfl (i := nI ((clM (zu (zu M 16 i (st + 1)) 12 i 2) i ((zu M 16 i (st + 1)) 0 1)) 9 i)) ((clM (zu (zu M 16 i (st + 1)) 12 i 2) i ((zu M 16 i (st + 1)) 0 1)) 9 i) rfl hc1 (by decide) (cM_uowes _ _) dX3_reach_211 (fun H locs hP hD hS => ?_)
                refine lv_iload hx hb dX3_reach_212 (lv_at hl 3 rfl) ?_
                have hx0 : (x3 (zI (M 0 1) (nI i)) (nI 0 ≤ (nI st) ∧ (nI st) ≤ nI 2) (M 12 (i) = 0 ∧ ¬ st < M 16 (i))) = 0 := x3_0 c13.1 c13.2.1 c13.2.2.2
                have eW : cM k bd (if (x3 (zI (M 0 1) (nI i)) (nI 0 ≤ (nI st) ∧ (nI st) ≤ nI 2) (M 12 (i) = 0 ∧ ¬ st < M 16 (i))) = 0 then (reM M (i) (st)) else M) (if (x3 (zI (M 0 1) (nI i)) (nI 0 ≤ (nI st) ∧ (nI st) ≤ nI 2) (M 12 (i) = 0 ∧ ¬ st < M 16 (i))) = 0 then (reO M O (i) (st)) else O) (nI ((x3 (zI (M 0 1) (nI i)) (nI 0 ≤ (nI st) ∧ (nI st) ≤ nI 2) (M 12 (i) = 0 ∧ ¬ st < M 16 (i))))) = cM k bd (clM (zu (zu M 16 i (st + 1)) 12 i 2) i ((zu M 16 i (st + 1)) 0 1)) (zo O 1 ((clM (zu (zu M 16 i (st + 1)) 12 i 2) i ((zu M 16 i (st + 1)) 0 1)) 9 i) ((O 1 ((clM (zu (zu M 16 i (st + 1)) 12 i 2) i ((zu M 16 i (st + 1)) 0 1)) 9 i)) - (nI (2500 * (mN (zu M 16 i (st + 1)) i 3))))) (nI (x3 (zI (M 0 1) (nI i)) (nI 0 ≤ (nI st) ∧ (nI st) ≤ nI 2) (((zI (M 0 1) (nI i)) ∧ nI 0 ≤ (nI st) ∧ (nI st) ≤ nI 2) ∧ M 12 (i) = 0 ∧ ¬ st < M 16 (i)))) := by rw [if_pos hx0, if_pos hx0, ← x3_abc, show reM M i st = clM (zu (zu M 16 i (st + 1)) 12 i 2) i ((zu M 16 i (st + 1)) 0 1) by unfold reM; rw [if_pos c14]; rfl, show reO M O i st = crO M O i (mN (zu M 16 i (st + 1)) i 3) by unfold reO; rw [if_pos c14], crO_t (show cov M (M 9 i) (M 10 i) (M 0 0 / 24) from c15), Nat.mul_comm (mN (zu M 16 i (st + 1)) i 3) 2500] <;> rfl
                rw [← eW] at hP hD
                refine W.widen (k := 0) (n := 0) (Nat.le_of_ble_eq_true rfl) (Nat.le_of_ble_eq_true rfl) ?_
                exact W.iret (v := nI (mN (zu M 16 i (st + 1)) i 3)) hx hb hr (fun t ht hW => ⟨⟨nI (mN (zu M 16 i (st + 1)) i 3), (), rfl, fun _ => rfl, ⟨by rw [ht]; exact hP, va_K.moved hW.alike hK⟩, hD⟩, hS.F ht⟩) hS.2.2 dX3_reach_214
          · refine lv_iconst (v := nI 0) hx hb dX3_reach_60 (by decide) ?_
            have hx0 : (x3 (zI (M 0 1) (nI i)) (nI 0 ≤ (nI st) ∧ (nI st) ≤ nI 2) (M 12 (i) = 0 ∧ ¬ st < M 16 (i))) ≠ 0 := x3_no (fun zz1 => c13 ⟨zz1.1, zz1.2.1, ⟨zz1.1, zz1.2.1⟩, zz1.2.2⟩)
            have eW : cM k bd (if (x3 (zI (M 0 1) (nI i)) (nI 0 ≤ (nI st) ∧ (nI st) ≤ nI 2) (M 12 (i) = 0 ∧ ¬ st < M 16 (i))) = 0 then (reM M (i) (st)) else M) (if (x3 (zI (M 0 1) (nI i)) (nI 0 ≤ (nI st) ∧ (nI st) ≤ nI 2) (M 12 (i) = 0 ∧ ¬ st < M 16 (i))) = 0 then (reO M O (i) (st)) else O) (nI ((x3 (zI (M 0 1) (nI i)) (nI 0 ≤ (nI st) ∧ (nI st) ≤ nI 2) (M 12 (i) = 0 ∧ ¬ st < M 16 (i))))) = cM k bd M O (nI (x3 (zI (M 0 1) (nI i)) (nI 0 ≤ (nI st) ∧ (nI st) ≤ nI 2) (((zI (M 0 1) (nI i)) ∧ nI 0 ≤ (nI st) ∧ (nI st) ≤ nI 2) ∧ M 12 (i) = 0 ∧ ¬ st < M 16 (i)))) := by rw [if_neg hx0, if_neg hx0, ← x3_abc] <;> rfl
            rw [← eW] at hP hD
            refine W.widen (k := 0) (n := 0) (Nat.le_of_ble_eq_true rfl) (Nat.le_of_ble_eq_true rfl) ?_
            exact W.iret (v := nI 0) hx hb hr (fun t ht hW => ⟨⟨nI 0, (), rfl, fun zz1 => absurd zz1 hx0, ⟨by rw [ht]; exact hP, va_K.moved hW.alike hK⟩, hD⟩, hS.F ht⟩) hS.2.2 dX3_reach_61
