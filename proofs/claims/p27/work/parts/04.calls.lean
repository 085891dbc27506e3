/-! ===== BEGIN .. of methods that hand back an object of the pool ===== -/
section
variable {p : Program} {l : Launch} {e : Env} {R : Room} {s : State} {m : MethodId} {args : Array Value} {below : List Frame} {meth : Method} {c : Code} {H : Heap} {locs : List Loc} {cells slots : Nat} {Q : State → Prop}
variable {mc ms : Nat} {free : Addr → Prop} {A0 A1 : Nat → Prop} {H0 : Heap} {a : Array Value} {pc : Nat} {ls : Array Slot} {st0 rest : List Value}
theorem vx_callq {S SX : Type} {post : Option Nat → S → Prop} {px : SX → Prop} {B : S → State → Prop} {BX : String → SX → State → Prop} {AX : Nat → Prop} (hr : vx_Run p l e R s m args below meth c H locs cells slots mc ms (F0 m pc ls st0) rest (va_Qq post B A1 a) (vx_X px BX AX) free) (hS : va_S A0 H0 H locs) (hA : ∀ q, q < H.size → A1 q → A0 q) (hf : ∀ q, free q → A0 q) (hAX : ∀ q, q < H.size → AX q → A0 q)
    (kx : ∀ (E : String) (ce : Cell) (q9 : Addr) (u : SX) (t : State) (H1 : Heap) (locs1 : List Loc), t.heap = H1 → s.vm.Alike t.vm → px u → BX E u t → H.size ≤ H1.size → (∀ q : Nat, q < H.size → ¬ AX q → H1[q]? = H[q]?) → va_S A0 H0 H1 locs1 → H1[q9]? = some ce → ce.vm = .none → s.vm.findClass E = some ce.cls → vx_W p l e R s m args below meth c H1 locs1 (cells + mc) (slots + ms) Q (F0 m pc ls rest) q9)
    (kk : ∀ (r : Option Nat) (u : S) (t : State) (H1 : Heap) (locs1 : List Loc), t.heap = H1 → s.vm.Alike t.vm → post r u → B u t → H.size ≤ H1.size → (∀ q : Nat, q < H.size → ¬ A1 q → H1[q]? = H[q]?) → va_S A0 H0 H1 locs1 → W p l e R s m args below meth c H1 locs1 (cells + mc) (slots + ms) Q (F0 m (pc + 3) ls (va_rf r :: rest))) : W p l e R s m args below meth c H locs cells slots Q (F0 m pc ls st0) := by
  intro T hT X
  rcases hr T hT X with ⟨v, st₀, t, T', L, h0, X', hL, e1, e2, ⟨⟨r, u, hv, hp, hb⟩, hF⟩, st⟩ | ⟨q, st₀, t, T', L, E, ce, h0, X', hL, e1, e2, ⟨u, hp, hb, hF⟩, hce, hcv, hcl, st⟩
  · cases hv
    obtain ⟨k1, k2, k3⟩ := vx_keep h0 e1 hS hA hf hL hF
    obtain ⟨t2, a1, b1⟩ := kk r u t T'.heap (locs ++ L) e1.symm (by rw [← e2]; exact X'.warmed.alike) hp hb k1 k2 k3 T' rfl X'
    exact ⟨t2, st t2 a1, b1⟩
  · obtain ⟨k1, k2, k3⟩ := vx_keep h0 e1 hS hAX hf hL hF
    obtain ⟨t2, a1, b1⟩ := kx E ce q u t T'.heap (locs ++ L) e1.symm (by rw [← e2]; exact X'.warmed.alike) hp hb k1 k2 k3 (by rw [e1]; exact hce) hcv hcl T' rfl X'
    exact ⟨t2, st.trans a1, b1⟩
end
/-! ===== END ===== -/
/-! CALLS over function worlds: reads (the heap stays), checks that may throw (no old cell changes), and methods that write. -/
abbrev exI : String := "java/lang/IndexOutOfBoundsException"
abbrev exA : String := "java/lang/IllegalArgumentException"
abbrev exS : String := "java/lang/IllegalStateException"
abbrev exR : MethodName := Bundle.initS "java/lang/RuntimeException"
abbrev exE : MethodName := Bundle.initS "java/lang/Exception"
abbrev exT : MethodName := Bundle.initS Bundle.tN
abbrev exN : List String := ["java/lang/RuntimeException", "java/lang/Exception"]
def zR (D : va_G) (k : Nat → ClassId) (n : Nat) (ad : Nat → Nat) (f : Nat → va_E) (U : State) : Prop := va_P D vwCl (zw n ad f) U.heap ∧ va_K D vwCl (tyL k) U
def zG (D : va_G) (k : Nat → ClassId) (n : Nat) (ad : Nat → Nat) (f : Nat → va_E) (sz : Nat) (U : State) : Prop := U.heap.size = sz ∧ zR D k n ad f U ∧ va_D (fun _ => True) (zw n ad f)
/-- what a throw needs of the machine: Throwable's two statics outside A, the texts, that each class is itself -/
def zE (A : Nat → Prop) (sa : Nat → Nat) (U : State) (H : Heap) : Prop :=
  (vx_Zq Bundle.tN "UNASSIGNED_STACK" Bundle.steD A U H ∧ vx_Zq Bundle.tN "SUPPRESSED_SENTINEL" Bundle.listD A U H) ∧
  (vk_R RX2 157 "no such site" (sa 0) U ∧ vk_R RX2 162 "no such case" (sa 1) U ∧ vk_R RX2 164 "no such kind" (sa 2) U ∧ vk_R RX2 168 "an argument is out of its range" (sa 3) U ∧ vk_R RX2 173 "not in this state" (sa 4) U) ∧
  (va_Nw (.castable exI exI) U ∧ va_Nw (.castable exA exA) U ∧ va_Nw (.castable exS exS) U) ∧
  (va_Nw (.declares exR) U ∧ va_Nw (.declares exE) U ∧ va_Nw (.declares exT) U)
theorem zE.go {A B : Nat → Prop} {sa : Nat → Nat} {s U : State} {H H1 : Heap} (h : zE A sa s H) (hW : s.WarmedH U.vm) (hAB : ∀ q, B q → A q) (hk : ∀ q : Nat, q < H.size → ¬ A q → H1[q]? = H[q]?) : zE B sa U H1 := by
  obtain ⟨⟨h1, h2⟩, ⟨h3, h4, h5, h6, h7⟩, ⟨h8, h9, h10⟩, h11, h12, h13⟩ := h
  exact ⟨⟨vx_Zq.moved hW.alike ((h1.kept hk).narrow hAB), vx_Zq.moved hW.alike ((h2.kept hk).narrow hAB)⟩, ⟨h3.warm hW, h4.warm hW, h5.warm hW, h6.warm hW, h7.warm hW⟩, ⟨h8.warmC hW, h9.warmC hW, h10.warmC hW⟩, h11.warmD hW, h12.warmD hW, h13.warmD hW⟩
theorem zE.same {A : Nat → Prop} {sa : Nat → Nat} {u U : State} {H : Heap} (h : zE A sa u H) (hv : U.vm = u.vm) : zE A sa U H :=
  h.go (by rw [hv]; exact State.WarmedH.refl u) (fun _ z => z) (fun _ _ _ => rfl)
theorem zR.moved {D : va_G} {k : Nat → ClassId} {n : Nat} {ad : Nat → Nat} {f : Nat → va_E} {u U : State} (h : zR D k n ad f u) (hh : U.heap = u.heap) (hv : u.vm.Alike U.vm) : zR D k n ad f U := ⟨by rw [hh]; exact h.1, va_K.moved hv h.2⟩
/-- the throwing part of a contract: what is known of the class E of the exception; no old cell changes -/
abbrev zX (px : String → Prop) : String → State → State → Prop := vx_X (S := Unit) (fun _ => True) (fun E _ _ => px E) noA
/-- a check: void, no old cell changes -/
abbrev zQv (P : Prop) : Array Value → State → Outcome → State → Prop := va_Qv (S := Unit) (fun _ => P) (fun _ _ => True) noA
/-- a look-up: an object, no old cell changes -/
abbrev zQq (P : Nat → Prop) : Array Value → State → Outcome → State → Prop := va_Qq (S := Unit) (fun r _ => ∃ a, r = some a ∧ P a) (fun _ _ => True) noA
/-- an answer, no old cell changes -/
abbrev zQi (P : Int32 → Prop) : Array Value → State → Outcome → State → Prop := va_Qi (S := Unit) (fun r _ => P r) (fun _ _ => True) noA
/-- an answer and a new world -/
abbrev zQw (D : va_G) (k : Nat → ClassId) (n : Nat) (ad : Nat → Nat) (f : Nat → va_E) (A : Nat → Prop) (P : Int32 → Prop) : Array Value → State → Outcome → State → Prop := va_Qi (S := Unit) (fun r _ => P r) (fun _ t => zR D k n ad f t ∧ va_D A (zw n ad f)) A
abbrev zQu (D : va_G) (k : Nat → ClassId) (n : Nat) (ad : Nat → Nat) (f : Nat → va_E) (A : Nat → Prop) : Array Value → State → Outcome → State → Prop := va_Qv (S := Unit) (fun _ => True) (fun _ t => zR D k n ad f t ∧ va_D A (zw n ad f)) A
theorem zS_mono {A B : Nat → Prop} {H0 H : Heap} {locs : List Loc} (h : va_S A H0 H locs) (hAB : ∀ q, A q → B q) : va_S B H0 H locs := ⟨h.1, fun q h1 h2 => h.2.1 q h1 (fun z => h2 (hAB q z)), fun l hl => hAB _ (h.2.2 l hl)⟩
theorem noA_le {B : Nat → Prop} : ∀ q, noA q → B q := fun _ h => False.elim h
section ZC
variable {p : Program} {l : Launch} {e : Env} {R : Room} {s : State} {m : MethodId} {args : Array Value} {below : List Frame} {meth : Method} {c : Code} {H : Heap} {locs : List Loc} {cells slots : Nat} {Q : State → Prop}
variable {cc bytes : ByteArray} {nL maxL index na mc ms : Nat} {Ts ws : List Cond} {own C : String} {y : MethodName} {ret : Option FieldType} {rm : Room} {pc : Nat} {ls : Array Slot} {As rest st0 : List Value} {D : va_G} {k : Nat → ClassId} {A : Nat → Prop} {H0 : Heap} {n n' : Nat} {ad ad' : Nat → Nat} {f f' : Nat → va_E}
theorem z_frameR {U : State} {g : JFrame} {mk : MethodId} {a : Array Value} (h : zR D k n ad f U) : zR D k n ad f (U.calling g mk a) := ⟨h.1, va_K.moved (u := U) (U := U.calling g mk a) (Vm.Alike.refl U.vm) h.2⟩
theorem z_ifb_eq {P : Prop} {off : Int} {tgt : Nat} (F : CallFix p m c cc nL s args Ts own) (hdg : decode cc pc = .ok (.ifCond .eq off, 3)) (ht : (pc : Int) + off = (tgt : Int)) (kt : ¬ P → W p l e R s m args below meth c H locs cells slots Q (F0 m tgt ls rest)) (kf : P → W p l e R s m args below meth c H locs cells slots Q (F0 m (pc + 3) ls rest)) : W p l e R s m args below meth c H locs cells slots Q (F0 m pc ls (.int (bI P) :: rest)) :=
  lv_if_eq F.1 F.2.1 hdg ht (fun q => kt (bI_0.mp q)) (fun q => kf (Classical.byContradiction fun z => q (bI_0.mpr z)))
theorem z_ifb_ne {P : Prop} {off : Int} {tgt : Nat} (F : CallFix p m c cc nL s args Ts own) (hdg : decode cc pc = .ok (.ifCond .ne off, 3)) (ht : (pc : Int) + off = (tgt : Int)) (kt : P → W p l e R s m args below meth c H locs cells slots Q (F0 m tgt ls rest)) (kf : ¬ P → W p l e R s m args below meth c H locs cells slots Q (F0 m (pc + 3) ls rest)) : W p l e R s m args below meth c H locs cells slots Q (F0 m pc ls (.int (bI P) :: rest)) := by
  by_cases h : P
  · exact lv_if_ne F.1 F.2.1 hdg ht (fun _ => kt h) (fun q => absurd (bI_0.mp (by first | exact q | exact Decidable.not_not.mp q)) (fun z => z h))
  · exact lv_if_ne F.1 F.2.1 hdg ht (fun q => absurd (bI_0.mpr h) q) (fun _ => kf h)
/-- a read: virtual -/
theorem z_cV {ci : Nat} {qc : vw_C} {fs : List Value} {post : Int32 → Prop} (q0 : Nat) (F : CallFix p m c cc nL s args Ts own) (hM : Met l y ws rm (va_Pc (.ref (ad q0) :: As) (zR D k n ad f)) (vp_Si post) 0 0 (fun _ => False)) (cw : CallW R s args own qc.1 index y bytes maxL ret ws rm 0 0 na)
    (hK : va_K D vwCl (tyL k) s) (hP : va_P D vwCl (zw n ad f) H) (hq : q0 < n) (he : f q0 = .inr (ci, fs)) (hc : vwCl[ci]? = some qc) (hn : As.length = na) (hsize : ls.size = nL) (hst : st0 = As.reverse ++ .ref (ad q0) :: rest) (hW : (rest.map fun v => v.category).sum ≤ 8) (hdg : decode cc pc = .ok (.invokevirtual index, 3)) (hf : cells ≤ R.cells ∧ slots ≤ R.slots)
    (kk : ∀ r : Int32, post r → W p l e R s m args below meth c H locs cells slots Q (F0 m (pc + 3) ls (.int r :: rest))) : W p l e R s m args below meth c H locs cells slots Q (F0 m pc ls st0) := by
  subst hst
  exact vp_callSi (W.runV (g := F0 m pc ls (As.reverse ++ .ref (ad q0) :: rest)) F hM cw ⟨fun a U g mk h => ⟨h.1, z_frameR h.2⟩, va_recv hK hP hc ((zw_at hq).trans (by rw [he])), fun U hU hW1 => ⟨rfl, by rw [hU]; exact hP, va_K.moved hW1.alike hK⟩⟩ rfl hn hsize rfl (lv_room hW) hdg ⟨hf.1, hf.2⟩) kk
/-- a read: static, of ints alone -/
theorem z_cS {post : Int32 → Prop} (F : CallFix p m c cc nL s args Ts own) (hM : Met l y ws rm (va_Pc As (fun _ => True)) (vp_Si post) 0 0 (fun _ => False)) (cw : CallB R s args own index y bytes maxL ret ws rm 0 0 na ∧ (Cond.static y).before args s = true)
    (hn : As.length = na) (hsize : ls.size = nL) (hst : st0 = As.reverse ++ rest) (hW : (rest.map fun v => v.category).sum ≤ 8) (hdg : decode cc pc = .ok (.invokestatic index, 3)) (hf : cells ≤ R.cells ∧ slots ≤ R.slots)
    (kk : ∀ r : Int32, post r → W p l e R s m args below meth c H locs cells slots Q (F0 m (pc + 3) ls (.int r :: rest))) : W p l e R s m args below meth c H locs cells slots Q (F0 m pc ls st0) := by
  subst hst
  exact vp_callSi (W.runS (g := F0 m pc ls (As.reverse ++ rest)) F hM cw ⟨fun a U g mk h => ⟨h.1, trivial⟩, fun U hU hW1 => ⟨rfl, trivial⟩⟩ rfl hn hsize rfl (lv_room hW) hdg ⟨hf.1, hf.2⟩) kk
theorem z_afree {q0 : Nat} {H1 : Heap} (hD : va_D A (zw n ad f)) (hA : ∀ q, H0.size ≤ q → A q) (hz : H0.size ≤ H.size) : ∀ q, va_A (zw n ad f) H.size q → A q := by
  intro q h
  rcases h with ⟨i, e, h⟩ | h
  · exact hD.2 i (q, e) h
  · exact hA q (Nat.le_trans hz h)
/-- a method that writes, with an answer -/
theorem z_mV {ci : Nat} {qc : vw_C} {fs : List Value} {post : Int32 → Prop} (q0 : Nat) (F : CallFix p m c cc nL s args Ts own) (hM : Met l y ws rm (va_Pc (.ref (ad q0) :: As) (zG D k n ad f H.size)) (zQw D k n' ad' f' (va_A (zw n ad f) H.size) post) mc ms (va_A (zw n ad f) H.size)) (cw : CallW R s args own qc.1 index y bytes maxL ret ws rm mc ms na)
    (hK : va_K D vwCl (tyL k) s) (hP : va_P D vwCl (zw n ad f) H) (hD : va_D A (zw n ad f)) (hS : va_S A H0 H locs) (hA : ∀ q, H0.size ≤ q → A q) (hq : q0 < n) (he : f q0 = .inr (ci, fs)) (hc : vwCl[ci]? = some qc) (hn : As.length = na) (hsize : ls.size = nL) (hst : st0 = As.reverse ++ .ref (ad q0) :: rest) (hW : (rest.map fun v => v.category).sum ≤ 8) (hdg : decode cc pc = .ok (.invokevirtual index, 3)) (hf : cells + mc ≤ R.cells ∧ slots + ms ≤ R.slots)
    (kk : ∀ (r : Int32) (H1 : Heap) (locs1 : List Loc), post r → va_P D vwCl (zw n' ad' f') H1 → va_D A (zw n' ad' f') → va_S A H0 H1 locs1 → W p l e R s m args below meth c H1 locs1 (cells + mc) (slots + ms) Q (F0 m (pc + 3) ls (.int r :: rest))) : W p l e R s m args below meth c H locs cells slots Q (F0 m pc ls st0) := by
  subst hst
  have hF := z_afree (H := H) (q0 := 0) (H1 := H) hD hA hS.1
  refine va_calli (va_runV (g := F0 m pc ls (As.reverse ++ .ref (ad q0) :: rest)) F hM cw ⟨fun a U g mk h => ⟨h.1, h.2.1, z_frameR h.2.2.1, h.2.2.2⟩, va_recv hK hP hc ((zw_at hq).trans (by rw [he])), fun U hU hW1 => ⟨rfl, by rw [hU], ⟨by rw [hU]; exact hP, va_K.moved hW1.alike hK⟩, hD.weaken (fun _ _ _ _ => trivial)⟩⟩ rfl hn hsize rfl (lv_room hW) hdg hf) hS (fun q _ h => hF q h) hF (fun r u t H1 locs1 ht hvm hp hB hz hk hS1 => ?_)
  obtain ⟨⟨hP1, hK1⟩, hD1⟩ := hB
  rw [ht] at hP1
  exact kk r H1 locs1 hp hP1 (hD1.weaken (fun _ q _ h => hF q.1 h)) hS1
/-- .. without one -/
theorem z_mVv {ci : Nat} {qc : vw_C} {fs : List Value} (q0 : Nat) (F : CallFix p m c cc nL s args Ts own) (hM : Met l y ws rm (va_Pc (.ref (ad q0) :: As) (zG D k n ad f H.size)) (zQu D k n' ad' f' (va_A (zw n ad f) H.size)) mc ms (va_A (zw n ad f) H.size)) (cw : CallW R s args own qc.1 index y bytes maxL ret ws rm mc ms na)
    (hK : va_K D vwCl (tyL k) s) (hP : va_P D vwCl (zw n ad f) H) (hD : va_D A (zw n ad f)) (hS : va_S A H0 H locs) (hA : ∀ q, H0.size ≤ q → A q) (hq : q0 < n) (he : f q0 = .inr (ci, fs)) (hc : vwCl[ci]? = some qc) (hn : As.length = na) (hsize : ls.size = nL) (hst : st0 = As.reverse ++ .ref (ad q0) :: rest) (hW : (rest.map fun v => v.category).sum ≤ 8) (hdg : decode cc pc = .ok (.invokevirtual index, 3)) (hf : cells + mc ≤ R.cells ∧ slots + ms ≤ R.slots)
    (kk : ∀ (H1 : Heap) (locs1 : List Loc), va_P D vwCl (zw n' ad' f') H1 → va_D A (zw n' ad' f') → va_S A H0 H1 locs1 → W p l e R s m args below meth c H1 locs1 (cells + mc) (slots + ms) Q (F0 m (pc + 3) ls rest)) : W p l e R s m args below meth c H locs cells slots Q (F0 m pc ls st0) := by
  subst hst
  have hF := z_afree (H := H) (q0 := 0) (H1 := H) hD hA hS.1
  refine va_callv (va_runV (g := F0 m pc ls (As.reverse ++ .ref (ad q0) :: rest)) F hM cw ⟨fun a U g mk h => ⟨h.1, h.2.1, z_frameR h.2.2.1, h.2.2.2⟩, va_recv hK hP hc ((zw_at hq).trans (by rw [he])), fun U hU hW1 => ⟨rfl, by rw [hU], ⟨by rw [hU]; exact hP, va_K.moved hW1.alike hK⟩, hD.weaken (fun _ _ _ _ => trivial)⟩⟩ rfl hn hsize rfl (lv_room hW) hdg hf) hS (fun q _ h => hF q h) hF (fun u t H1 locs1 ht hvm hp hB hz hk hS1 => ?_)
  obtain ⟨⟨hP1, hK1⟩, hD1⟩ := hB
  rw [ht] at hP1
  exact kk H1 locs1 hP1 (hD1.weaken (fun _ q _ h => hF q.1 h)) hS1
theorem z_mmin {a b : Nat} (F : CallFix p m c cc nL s args Ts own) (hsize : ls.size = nL) (hl1 : Cond.methodLink own index Lib.Math.min.name ∈ Ts) (hl2 : Cond.static Lib.Math.min.name ∈ Ts) (hl3 : Cond.initialized "java/lang/Math" ∈ Ts) (hl4 : Cond.code Lib.Math.min.name Lib.Math.min.code 2 (some .int) ∈ Ts) (hR : 1 ≤ R.frames ∧ (rest.map fun v => v.category).sum + 13 ≤ R.locals) (hf : cells ≤ R.cells ∧ slots ≤ R.slots) (ha : a < 2 ^ 31) (hb : b < 2 ^ 31) (hdg : decode cc pc = .ok (.invokestatic index, 3))
    (kk : W p l e R s m args below meth c H locs cells slots Q (F0 m (pc + 3) ls (.int (nI (min a b)) :: rest))) : W p l e R s m args below meth c H locs cells slots Q (F0 m pc ls (.int (nI b) :: .int (nI a) :: rest)) := by
  refine va_mmin F.1 F.2.1 (by rw [hsize, F.2.2.1]) F.2.2.2.1 (F.2.2.2.2 _ hl1) (F.2.2.2.2 _ hl2) (F.2.2.2.2 _ hl3) (F.2.2.2.2 _ hl4) hR.1 hR.2 hf.1 hf.2 hdg ?_
  refine z_top (y := nI (min a b)) ?_ kk
  by_cases h : b < a
  · rw [if_pos ((nI_ltI hb ha).mpr h), Nat.min_eq_right (by omega)]
  · rw [if_neg (fun z => h ((nI_ltI hb ha).mp z)), Nat.min_eq_left (by omega)]
theorem z_mmax {a b : Nat} (F : CallFix p m c cc nL s args Ts own) (hsize : ls.size = nL) (hl1 : Cond.methodLink own index Lib.Math.max.name ∈ Ts) (hl2 : Cond.static Lib.Math.max.name ∈ Ts) (hl3 : Cond.initialized "java/lang/Math" ∈ Ts) (hl4 : Cond.code Lib.Math.max.name Lib.Math.max.code 2 (some .int) ∈ Ts) (hR : 1 ≤ R.frames ∧ (rest.map fun v => v.category).sum + 13 ≤ R.locals) (hf : cells ≤ R.cells ∧ slots ≤ R.slots) (ha : a < 2 ^ 31) (hb : b < 2 ^ 31) (hdg : decode cc pc = .ok (.invokestatic index, 3))
    (kk : W p l e R s m args below meth c H locs cells slots Q (F0 m (pc + 3) ls (.int (nI (max a b)) :: rest))) : W p l e R s m args below meth c H locs cells slots Q (F0 m pc ls (.int (nI b) :: .int (nI a) :: rest)) := by
  refine va_mmax F.1 F.2.1 (by rw [hsize, F.2.2.1]) F.2.2.2.1 (F.2.2.2.2 _ hl1) (F.2.2.2.2 _ hl2) (F.2.2.2.2 _ hl3) (F.2.2.2.2 _ hl4) hR.1 hR.2 hf.1 hf.2 hdg ?_
  refine z_top (y := nI (max a b)) ?_ kk
  by_cases h : a < b
  · rw [if_pos ((nI_ltI ha hb).mpr h), Nat.max_eq_right (by omega)]
  · rw [if_neg (fun z => h ((nI_ltI ha hb).mp z)), Nat.max_eq_left (by omega)]
/-- max (a - b) 0 -/
theorem z_mmax0 {a b : Nat} (F : CallFix p m c cc nL s args Ts own) (hsize : ls.size = nL) (hl1 : Cond.methodLink own index Lib.Math.max.name ∈ Ts) (hl2 : Cond.static Lib.Math.max.name ∈ Ts) (hl3 : Cond.initialized "java/lang/Math" ∈ Ts) (hl4 : Cond.code Lib.Math.max.name Lib.Math.max.code 2 (some .int) ∈ Ts) (hR : 1 ≤ R.frames ∧ (rest.map fun v => v.category).sum + 13 ≤ R.locals) (hf : cells ≤ R.cells ∧ slots ≤ R.slots) (ha : a < 2 ^ 30) (hb : b < 2 ^ 30) (hdg : decode cc pc = .ok (.invokestatic index, 3))
    (kk : W p l e R s m args below meth c H locs cells slots Q (F0 m (pc + 3) ls (.int (nI (a - b)) :: rest))) : W p l e R s m args below meth c H locs cells slots Q (F0 m pc ls (.int (nI 0) :: .int (nI a - nI b) :: rest)) := by
  refine va_mmax F.1 F.2.1 (by rw [hsize, F.2.2.1]) F.2.2.2.1 (F.2.2.2.2 _ hl1) (F.2.2.2.2 _ hl2) (F.2.2.2.2 _ hl3) (F.2.2.2.2 _ hl4) hR.1 hR.2 hf.1 hf.2 hdg ?_
  refine z_top (y := nI (a - b)) ?_ kk
  by_cases h : a < b
  · rw [nI_0, if_pos (pk_sneg hb h), Nat.sub_eq_zero_of_le (by omega), nI_0]
  · have h1 : b ≤ a := by omega
    rw [pk_sub h1, nI_0, if_neg (nI_pos (by omega))]
/-! .. that may throw -/
variable {px px' : String → Prop} {P : Prop} {sa : Nat → Nat} {Qc : Array Value → State → Outcome → State → Prop} {mc' ms' : Nat} {free : Addr → Prop}
theorem z_out {E : String} {ce : Cell} {q : Addr} (hnox : ∀ x ∈ c.exceptionTable.toList, False) (hlocks : meth.locks = false) (hS0 : va_S noA s.heap H locs) (hcell : H[q]? = some ce) (hv : ce.vm = .none) (hcl : s.vm.findClass E = some ce.cls) (hpx : px' E) (hc : cells ≤ mc') (hs : slots ≤ ms') :
    vx_W p l e R s m args below meth c H locs cells slots (vx_MQ below Qc (zX px') args s mc' ms' free) (F0 m pc ls rest) q :=
  vx_out (fun x hx => (hnox x hx).elim) hlocks hcell hv hcl (fun t ht hvm => ⟨(), trivial, hpx, hS0.F ht⟩) (fun z hz => (hS0.2.2 z hz).elim) hc hs
/-- a check: static -/
theorem z_xS (F : CallFix p m c cc nL s args Ts own) (hM : vx_Met l y ws rm (va_Pc As (fun U => zE noA sa U U.heap)) (zQv P) (zX px) mc ms noA) (cw : CallB R s args own index y bytes maxL ret ws rm mc ms na ∧ (Cond.static y).before args s = true)
    (hE : zE A sa s s.heap) (hS0 : va_S noA s.heap H locs) (hnox : ∀ x ∈ c.exceptionTable.toList, False) (hlocks : meth.locks = false) (hn : As.length = na) (hsize : ls.size = nL) (hst : st0 = As.reverse ++ rest) (hW : (rest.map fun v => v.category).sum ≤ 8) (hdg : decode cc pc = .ok (.invokestatic index, 3)) (hf : cells + mc ≤ R.cells ∧ slots + ms ≤ R.slots)
    (hc : cells + mc ≤ mc') (hs : slots + ms ≤ ms') (kx : ∀ E, px E → px' E)
    (kk : P → ∀ (H1 : Heap) (locs1 : List Loc), H.size ≤ H1.size → (∀ q : Nat, q < H.size → ¬ noA q → H1[q]? = H[q]?) → va_S noA s.heap H1 locs1 → W p l e R s m args below meth c H1 locs1 (cells + mc) (slots + ms) (vx_MQ below Qc (zX px') args s mc' ms' free) (F0 m (pc + 3) ls rest)) : W p l e R s m args below meth c H locs cells slots (vx_MQ below Qc (zX px') args s mc' ms' free) (F0 m pc ls st0) := by
  subst hst
  refine vx_callv (vx_runS (g := F0 m pc ls (As.reverse ++ rest)) F hM cw ⟨fun a U g mk h => ⟨h.1, h.2.same rfl⟩, fun U hU hW1 => ⟨rfl, by show zE noA sa U U.heap; rw [hU]; exact hE.go hW1 noA_le (fun q h1 _ => hS0.2.1 q h1 (fun z => z))⟩⟩ rfl hn hsize rfl (lv_room hW) hdg hf) hS0 (fun q _ h => h) (fun q h => h) (fun q _ h => h) (fun E ce q9 u t H1 locs1 ht hvm _ hb _ _ hS1 hce hcv hcl => z_out hnox hlocks hS1 hce hcv hcl (kx E hb) hc hs) (fun u t H1 locs1 ht hvm hp hb hz hk hS1 => kk hp H1 locs1 hz hk hS1)
/-- a look-up, virtual, that may throw -/
theorem z_xVq {ci : Nat} {qc : vw_C} {fs : List Value} {P : Nat → Prop} (q0 : Nat) (F : CallFix p m c cc nL s args Ts own) (hM : vx_Met l y ws rm (va_Pc (.ref (ad q0) :: As) (fun U => zR D k n ad f U ∧ zE noA sa U U.heap)) (zQq P) (zX px) mc ms noA) (cw : CallW R s args own qc.1 index y bytes maxL ret ws rm mc ms na)
    (hK : va_K D vwCl (tyL k) s) (hP : va_P D vwCl (zw n ad f) H) (hq : q0 < n) (he : f q0 = .inr (ci, fs)) (hcl : vwCl[ci]? = some qc) (hE : zE A sa s s.heap) (hS0 : va_S noA s.heap H locs) (hnox : ∀ x ∈ c.exceptionTable.toList, False) (hlocks : meth.locks = false) (hn : As.length = na) (hsize : ls.size = nL) (hst : st0 = As.reverse ++ .ref (ad q0) :: rest) (hW : (rest.map fun v => v.category).sum ≤ 8) (hdg : decode cc pc = .ok (.invokevirtual index, 3)) (hf : cells + mc ≤ R.cells ∧ slots + ms ≤ R.slots)
    (hc : cells + mc ≤ mc') (hs : slots + ms ≤ ms') (kx : ∀ E, px E → px' E)
    (kk : ∀ a : Nat, P a → ∀ (H1 : Heap) (locs1 : List Loc), H.size ≤ H1.size → (∀ q : Nat, q < H.size → ¬ noA q → H1[q]? = H[q]?) → va_S noA s.heap H1 locs1 → W p l e R s m args below meth c H1 locs1 (cells + mc) (slots + ms) (vx_MQ below Qc (zX px') args s mc' ms' free) (F0 m (pc + 3) ls (.ref a :: rest))) : W p l e R s m args below meth c H locs cells slots (vx_MQ below Qc (zX px') args s mc' ms' free) (F0 m pc ls st0) := by
  subst hst
  refine vx_callq (vx_runV (g := F0 m pc ls (As.reverse ++ .ref (ad q0) :: rest)) F hM cw ⟨fun a U g mk h => ⟨h.1, z_frameR h.2.1, h.2.2.same rfl⟩, va_recv hK hP hcl ((zw_at hq).trans (by rw [he])), fun U hU hW1 => ⟨rfl, ⟨by rw [hU]; exact hP, va_K.moved hW1.alike hK⟩, by show zE noA sa U U.heap; rw [hU]; exact hE.go hW1 noA_le (fun q h1 _ => hS0.2.1 q h1 (fun z => z))⟩⟩ rfl hn hsize rfl (lv_room hW) hdg hf) hS0 (fun q _ h => h) (fun q h => h) (fun q _ h => h) (fun E ce q9 u t H1 locs1 ht hvm _ hb _ _ hS1 hce hcv hcl => z_out hnox hlocks hS1 hce hcv hcl (kx E hb) hc hs) (fun r u t H1 locs1 ht hvm hp hb hz hk hS1 => ?_)
  obtain ⟨a, rfl, hp⟩ := hp
  exact kk a hp H1 locs1 hz hk hS1
/-- a throw -/
theorem z_throw {cls text : String} {ik is ic a9 : Nat} (F : CallFix p m c cc nL s args Ts own) (hl : l.stackTraces = false) (hcls : Bundle.fit cls = true) (hk : Cond.classLink own ik cls ∈ Ts) (hini : Cond.initialized cls ∈ Ts) (hstr : vk_R own is text a9 s)
    (hat : ∀ w ∈ (vx_atS own ic cls exN).filter goodWord, w ∈ Ts) (hng : ∀ w ∈ (vx_atS own ic cls exN).filter (fun w => !goodWord w), w ∈ [Cond.castable cls cls, Cond.declares exR, Cond.declares exE, Cond.declares exT]) (hca : va_Nw (.castable cls cls) s) (hgood : ∀ w ∈ Cond.classLink own ik cls :: Cond.initialized cls :: vx_atS own ic cls exN, vx_ot w = true)
    (hE : zE noA sa s s.heap) (hS0 : va_S noA s.heap H locs) (hsize : ls.size = nL)
    (d0 : decode cc pc = .ok (.new ik, 3)) (d3 : decode cc (pc + 3) = .ok (.dup, 1)) (d4 : decode cc (pc + 4) = .ok (.ldc is, 2)) (d6 : decode cc (pc + 6) = .ok (.invokespecial ic, 3)) (d9 : decode cc (pc + 9) = .ok (.athrow, 1))
    (hnox : ∀ x ∈ c.exceptionTable.toList, False) (hlocks : meth.locks = false) (hRf : 5 < R.frames) (hRl : (rest.map fun v => v.category).sum + 82 ≤ R.locals) (hRc : cells + 1 ≤ R.cells) (hRs : slots + 6 ≤ R.slots) (hc : cells + 1 ≤ mc') (hs : slots + 6 ≤ ms') (hpx : px' cls) :
    W p l e R s m args below meth c H locs cells slots (vx_MQ below Qc (zX px') args s mc' ms' free) (F0 m pc ls rest) := by
  refine vx_throwS (names := exN) (A := noA) F.1 F.2.1 hl F.2.2.2.1 hcls (by decide) (F.2.2.2.2 _ hk) (F.2.2.2.2 _ hini) hstr (vx_hat (B := [Cond.castable cls cls, Cond.declares exR, Cond.declares exE, Cond.declares exT]) (fun w hw => F.2.2.2.2 w (hat w hw)) hng (vx_c hca (vx_c hE.2.2.2.1 (vx_c hE.2.2.2.2.1 (vx_c hE.2.2.2.2.2 vx_n))))) hgood hE.1.1 hE.1.2 hS0 (by rw [hsize, F.2.2.1]) d0 d3 d4 d6 d9 (fun x hx => (hnox x hx).elim) hRf hRl hRc hRs hlocks (fun t hvm hz hk9 => ⟨(), trivial, hpx, Nat.le_trans hS0.1 hz, fun q h1 h2 => (hk9 q (Nat.lt_of_lt_of_le h1 hS0.1)).trans (hS0.2.1 q h1 h2)⟩) (fun z hz => (hS0.2.2 z hz).elim) hc hs
end ZC
