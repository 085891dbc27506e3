/-! THE CLAIM OUT OF ONE WALK OF THE LAW'S BODY. Your part is whole_start (and what it stands on); all else here is the same for every law, but numbers. -/
def R_law : String := "PromiseClocksLaw"
def lw_P (b : Addr) (xs : List Int32) (args : Array Value) (s : State) : Prop := args = #[.ref b] ∧ s.IntsAt b xs ∧ xs.length ≤ 260 ∧ (Jvm.Cond.and given_1 narrow_1).before args s = true
def lw_Q (_ : Array Value) (s : State) (o : Outcome) (t : State) : Prop := o = .returned (some (.int 1)) ∧ Framed s o t [] 623114 7232282
def lw_Z (below : List Frame) (a : Array Value) (s : State) : State → Prop := fun t => ∃ o, t.status = .running ∧ Ended t below o ∧ lw_Q a s o t
/-- the law's own end, with 1 on the stack, nothing written that was there before, its room as the claim has it -/
theorem lw_ret {p : Program} {l : Launch} {e : Env} {s : State} {m : MethodId} {below : List Frame} {meth : Method} {c : Code} {b : Nat} (hx : p.tables.exec = Jvm.exec) (hb : c.code = code) (hr : meth.sig.returnType = ret) (hlocks : meth.locks = false) {pc : Nat} {H : Heap} {ls : Array Slot} (hdg : decode code pc = .ok (.ireturn, 1)) : W p l e room_1 s m #[Value.ref b] below meth c H [] 623114 7232282 (lw_Z below #[Value.ref b] s) (F0 m pc ls [.int 1]) := by
  intro T hT X
  obtain ⟨fs, hret, hrun, hended, hW, hframe⟩ := X.leave (v := some (.int 1)) (hlocks := hlocks) (fun h => by rw [hr] at h; cases h)
  have hmeth' : T.vm.method? m = some meth := X.method'
  refine ⟨T.setFrames fs, ?_, .returned (some (.int 1)), hrun, hended, rfl, ⟨_, rfl⟩, hW, hframe⟩
  jvm_step X.here [X.here.top, hx, hb, hdg, hmeth', hr, ret, narrow_b1]
  (try refine ⟨rfl, ?_⟩); (try refine ⟨rfl, ?_⟩)
  first | (intro acts; rw [hret _ acts rfl rfl rfl]) | rw [hret _ _ rfl rfl rfl]
  exact Steps.refl _
/-- what holds at the law's entry: the machine, the code, the tables' words (any of lw_tbl by 'hts w (by decide +kernel)'), the script of L ints xs at the cell b, what the Statement gives of the start (any of its parts by flat_of_before) -/
def lw_At (p : Program) (s : State) (m : MethodId) (meth : Method) (c : Code) (b L : Nat) (xs : Nat → Int32) : Prop :=
  p.tables.exec = Jvm.exec ∧ c.code = code ∧ meth.sig.returnType = ret ∧ c.maxLocals = 16 ∧ s.vm.findClass R_law = some m.cls ∧ (∀ w ∈ lw_tbl, w.before #[Value.ref b] s = true) ∧ va_X b L xs s s.heap ∧ b < s.heap.size ∧ meth.locks = false ∧ (Jvm.Cond.and given_1 narrow_1).before #[Value.ref b] s = true
section ZI
variable {p : Program} {l : Launch} {e : Env} {R : Room} {s : State} {m : MethodId} {args : Array Value} {below : List Frame} {meth : Method} {c : Code} {H : Heap} {locs : List Loc} {cells slots : Nat} {Q : State → Prop}
variable {cc bytes : ByteArray} {nL maxL index na mc ms : Nat} {Ts ws : List Cond} {own : String} {y : MethodName} {rm : Room} {pc : Nat} {ls : Array Slot} {As rest st0 : List Value} {D : va_G} {k : Nat → ClassId} {A : Nat → Prop} {n n' sz1 : Nat} {bd bd' : Nat → Nat} {f f' : Nat → va_E} {wb : va_W}
/-- a constructor, from a world that holds more; EP: what it asks of the tables -/
theorem law_IE {EP : State → Prop} (hE1 : ∀ a U g mk, EP U → EP (State.calling U g mk a)) (hE2 : ∀ U : State, s.WarmedH U.vm → EP U) (F : CallFix p m c cc nL s args Ts own) (hM : Met l y ws rm (va_Pc (.ref (bd 0) :: As) (fun U => zG D k n bd f H.size U ∧ EP U)) (zQn D k n' bd f' sz1 (va_A (zw n bd f) H.size)) mc ms (va_A (zw n bd f) H.size)) (cw : CallB R s args own index y bytes maxL none ws rm mc ms na ∧ y.name = "<init>" ∧ (Cond.instanceMethod y).before args s = true)
    (hK : va_K D vwCl (tyL k) s) (hP : va_P D vwCl (wb ++ zw n bd f) H) (hD : va_D A (wb ++ zw n bd f)) (hS : va_S A s.heap H locs) (hA : ∀ q, s.heap.size ≤ q → A q) (hn : As.length = na) (hsize : ls.size = nL) (hst : st0 = As.reverse ++ .ref (bd 0) :: rest) (hW : (rest.map fun v => v.category).sum ≤ 8) (hdg : decode cc pc = .ok (.invokespecial index, 3)) (hf : cells + mc ≤ R.cells ∧ slots + ms ≤ R.slots)
    (kk : ∀ (H1 : Heap) (locs1 : List Loc), H1.size = sz1 → va_P D vwCl (wb ++ zw n' bd f') H1 → va_D A (wb ++ zw n' bd f') → va_S A s.heap H1 locs1 → W p l e R s m args below meth c H1 locs1 (cells + mc) (slots + ms) Q (F0 m (pc + 3) ls rest)) : W p l e R s m args below meth c H locs cells slots Q (F0 m pc ls st0) := by
  subst hst
  have hPx := wP_r hP
  have hDx := wD_r hD
  have hle := wA hDx hA hS.1
  refine va_callv (va_runI (g := F0 m pc ls (As.reverse ++ .ref (bd 0) :: rest)) F hM cw ⟨fun a U g mk h => ⟨h.1, ⟨h.2.1.1, z_frameR h.2.1.2.1, h.2.1.2.2⟩, hE1 a U g mk h.2.2⟩, fun U hU hW1 => ⟨rfl, ⟨by rw [hU], ⟨by rw [hU]; exact hPx, va_K.moved hW1.alike hK⟩, hDx.weaken (fun _ _ _ _ => trivial)⟩, hE2 U hW1⟩⟩ rfl hn hsize rfl (lv_room hW) hdg hf) hS (fun q _ h => hle q h) hle (fun u t H1 locs1 ht hvm hp hB hz hk hS1 => ?_)
  obtain ⟨hz1, ⟨hP1, hK1⟩, hD1⟩ := hB
  rw [ht] at hP1 hz1
  obtain ⟨h3, h4⟩ := wF (wPs hP) (wDs hD) hA hS.1 hP1 hD1 hk
  exact kk H1 locs1 hz1 (wPs h3) (wDs h4) hS1
end ZI
/-! what the tables give -/
theorem st_ar {args : Array Value} {s : State} {ty : FieldType} (h : (Cond.arrayClass ty).before args s = true) : ∃ cA : ClassId, ArrOfT s cA ty ∧ s.vm.findClass ("[" ++ ty.toString) = some cA := by
  obtain ⟨cA, kA, comp, h1, h2, h3⟩ := Cond.arrayClass_spec h
  exact ⟨cA, fun n z => ⟨fun k h => (by cases h), kA, h2, comp, h3⟩, h1⟩
theorem st_ao {args : Array Value} {s : State} {C : String} (h : (Cond.arrayOver (.object C)).before args s = true) : ∃ cA : ClassId, ArrOfT s cA (.object C) ∧ va_RA s cA (.object C) := by
  obtain ⟨comp, cA, kA, h1, -, h2, h3, h4⟩ := Cond.arrayOver_spec h
  exact ⟨cA, fun n z => ⟨fun k h => (by cases h), kA, h2, comp, h3⟩, kA, comp, h2, h3, h1, h4⟩
theorem st_str {args : Array Value} {s : State} {own tx : String} {k : Nat} (h1 : (Cond.stringRef own k tx).before args s = true) (h2 : (Cond.exactly (.string own k) "java/lang/String").before args s = true) : ∃ a : Nat, vk_R own k tx a s := by
  obtain ⟨a, -, -, -, h3, -⟩ := Cond.exactly_spec (args := args) (first := s) (o := none) (s := s) (idx := []) (t := .string own k) (cls := "java/lang/String") h2
  exact ⟨a, vk_R.of h1 h3⟩
theorem st_zG {a : Array Value} {U : State} {g : JFrame} {mk : MethodId} (h : va_AO RX1 U ∧ va_AO RX0 U ∧ va_Nw (.methodLinkNest RX2 32 yX1_init RX2) U) : va_AO RX1 (U.calling g mk a) ∧ va_AO RX0 (U.calling g mk a) ∧ va_Nw (.methodLinkNest RX2 32 yX1_init RX2) (U.calling g mk a) :=
  ⟨va_AO.moved (u := U) (U := U.calling g mk a) (Vm.Alike.refl U.vm) h.1, va_AO.moved (u := U) (U := U.calling g mk a) (Vm.Alike.refl U.vm) h.2.1, va_Nw.same (u := U) (U := U.calling g mk a) rfl rfl h.2.2⟩
set_option maxRecDepth 100000 in
set_option maxHeartbeats 4000000 in
theorem st_K {args : Array Value} {s : State} (hts : ∀ w ∈ lw_tbl, w.before args s = true) : ∃ (D : va_G) (k : Nat → ClassId), va_K D vwCl (tyL k) s := by
  obtain ⟨c0, i0, hK0⟩ := u_known (C := RX0) (T := TX0) (N := 8) (n := 8) hts inX0 (hts (.instantiable RX0 8) (by decide +kernel))
  obtain ⟨c1, i1, hK1⟩ := u_known (C := RX1) (T := TX1) (N := 9) (n := 9) hts inX1 (hts (.instantiable RX1 9) (by decide +kernel))
  obtain ⟨c2, i2, hK2⟩ := u_known (C := RX2) (T := TX2) (N := 5) (n := 5) hts inX2 (hts (.instantiable RX2 5) (by decide +kernel))
  obtain ⟨a0, hA0, hR0⟩ := st_ar (hts (.arrayClass .int) (by decide +kernel))
  obtain ⟨a2, hA2, hR2⟩ := st_ao (hts (.arrayOver (.object RX1)) (by decide +kernel))
  obtain ⟨a3, hA3, hR3⟩ := st_ao (hts (.arrayOver (.object RX0)) (by decide +kernel))
  refine ⟨(fun j => if j = 0 then c0 else if j = 1 then c1 else c2, fun j => if j = 0 then i0 else if j = 1 then i1 else i2), fun j => if j = 0 then a0 else if j = 1 then a0 else if j = 2 then a2 else a3, ?_, ?_⟩
  · intro j q hq
    match j, hq with
    | 0, hq => cases hq; exact hK0
    | 1, hq => cases hq; exact hK1
    | 2, hq => cases hq; exact hK2
    | j + 3, hq => simp at hq
  · intro j q hq
    match j, hq with
    | 0, hq => cases hq; exact ⟨hA0, hR0⟩
    | 1, hq => cases hq; exact ⟨hA0, hR0⟩
    | 2, hq => cases hq; exact ⟨hA2, hR2⟩
    | 3, hq => cases hq; exact ⟨hA3, hR3⟩
    | j + 4, hq => simp at hq
set_option maxRecDepth 100000 in
set_option maxHeartbeats 4000000 in
theorem st_E {b : Nat} {s : State} (hts : ∀ w ∈ lw_tbl, w.before #[Value.ref b] s = true) (hgv : (Jvm.Cond.and given_1 narrow_1).before #[Value.ref b] s = true) : (∃ sa : Nat → Nat, zE (fun q => s.heap.size ≤ q) sa s s.heap) ∧ lwN s := by
  have hs := flat_of_before _ hgv
  obtain ⟨s0, h0⟩ := st_str (hts (.stringRef RX2 157 "no such site") (by decide +kernel)) (hs (.exactly (.string RX2 157) "java/lang/String") (by decide +kernel))
  obtain ⟨s1, h1⟩ := st_str (hts (.stringRef RX2 162 "no such case") (by decide +kernel)) (hs (.exactly (.string RX2 162) "java/lang/String") (by decide +kernel))
  obtain ⟨s2, h2⟩ := st_str (hts (.stringRef RX2 164 "no such kind") (by decide +kernel)) (hs (.exactly (.string RX2 164) "java/lang/String") (by decide +kernel))
  obtain ⟨s3, h3⟩ := st_str (hts (.stringRef RX2 168 "an argument is out of its range") (by decide +kernel)) (hs (.exactly (.string RX2 168) "java/lang/String") (by decide +kernel))
  obtain ⟨s4, h4⟩ := st_str (hts (.stringRef RX2 173 "not in this state") (by decide +kernel)) (hs (.exactly (.string RX2 173) "java/lang/String") (by decide +kernel))
  have hini := hts (.initialized Bundle.tN) (by decide +kernel)
  have hno : ∀ a : Nat, a < s.heap.size → ¬ (fun q : Nat => s.heap.size ≤ q) a := fun _ h => Nat.not_le.mpr h
  refine ⟨⟨fun j => if j = 0 then s0 else if j = 1 then s1 else if j = 2 then s2 else if j = 3 then s3 else s4, ⟨vx_Zqof (hts (.laysStatic Bundle.tN "UNASSIGNED_STACK" Bundle.steD) (by decide +kernel)) hini (hs (.isRef (.static Bundle.tN "UNASSIGNED_STACK" Bundle.steD)) (by decide +kernel)) hno, vx_Zqof (hts (.laysStatic Bundle.tN "SUPPRESSED_SENTINEL" Bundle.listD) (by decide +kernel)) hini (hs (.isRef (.static Bundle.tN "SUPPRESSED_SENTINEL" Bundle.listD)) (by decide +kernel)) hno⟩, ⟨h0, h1, h2, h3, h4⟩, ⟨va_Nw.of rfl (hts (.castable exI exI) (by decide +kernel)), va_Nw.of rfl (hts (.castable exA exA) (by decide +kernel)), va_Nw.of rfl (hts (.castable exS exS) (by decide +kernel))⟩, va_Nw.of rfl (hts (.declares exR) (by decide +kernel)), va_Nw.of rfl (hts (.declares exE) (by decide +kernel)), va_Nw.of rfl (hts (.declares exT) (by decide +kernel))⟩, ?_⟩
  exact ⟨va_Nc.of (hs (.not (.castable exA exI)) (by decide +kernel)), va_Nc.of (hs (.not (.castable exS exI)) (by decide +kernel)), va_Nc.of (hs (.not (.castable exS exA)) (by decide +kernel))⟩
set_option maxRecDepth 100000 in
set_option maxHeartbeats 4000000 in
/-- THE LAW, from its entry -/
theorem whole_start {p : Program} {e : Env} {s : State} {m : MethodId} {below : List Frame} {meth : Method} {c : Code} (l : Launch) (hflags : l.flags = flags0) {b L : Nat} {xs : Nat → Int32} (hL : L ≤ 260) (C0 : lw_At p s m meth c b L xs) : W p l e room_1 s m #[Value.ref b] below meth c s.heap [] 0 0 (lw_Z below #[Value.ref b] s) (entryFrame m ([Value.ref b] : List Value).toArray 16) := by
  obtain ⟨hx, hb, hr, hml, hown, hts0, hX, hbl, hlocks, hgv⟩ := id C0
  have hfl : l.stackTraces = false := by unfold Launch.stackTraces; rw [hflags]; decide
  have hts : ∀ w ∈ wsL_law, w.before #[Value.ref b] s = true := fun w h => hts0 w (wsL_law_in w h)
  have hown : s.vm.findClass RL = some m.cls := hown
  have F : CallFix p m c cL_law 16 s #[Value.ref b] wsL_law RL := ⟨hx, hb, hml, hown, hts⟩
  have F1 : CallFix p m c cL_law 16 s #[Value.ref b] lw_tbl RL := ⟨hx, hb, hml, hown, hts0⟩
  obtain ⟨D, k, hK⟩ := st_K hts0
  obtain ⟨⟨sa, hE⟩, hN⟩ := st_E hts0 hgv
  have hA : ∀ q : Nat, s.heap.size ≤ q → (fun q : Nat => s.heap.size ≤ q) q := fun _ h => h
  have hbA : ¬ (fun q : Nat => s.heap.size ≤ q) b := fun zz1 => absurd hbl (Nat.not_lt.mpr zz1)
  have hS : va_S (fun q : Nat => s.heap.size ≤ q) s.heap s.heap [] := va_S.rf
  have hP : va_P D vwCl (zw 0 (fun j => s.heap.size + j) (fun _ => .inr (2, []))) s.heap := fun i q h => by simp [zw] at h
  have hD : va_D (fun q : Nat => s.heap.size ≤ q) (zw 0 (fun j => s.heap.size + j) (fun _ => .inr (2, []))) := ⟨fun i j p q h => by simp [zw] at h, fun i q h => by simp [zw] at h⟩
  have hl := lv_entry ([.ref b]) (n := 16) (Nat.le_of_ble_eq_true rfl)
  rw [lg_entry_eq]
  generalize (lg_sl ([.ref b]) ++ List.replicate (16 - (lg_sl ([.ref b])).length) Slot.unset).toArray = ls at hl ⊢
  have hl : lv_has ls 16 [(0, .ref b)] := hl
  generalize hade : (fun j : Nat => s.heap.size + j) = ad at hP hD
  have had : ∀ j, ad j = s.heap.size + j := fun j => by rw [← hade]
  refine z_new F1 (C := RX2) (T := TX2) (N := 5) (ci := 2) (fs := [.null, .null, .null, .int (nI 0), .int (nI 0)]) inX2 tyX2 tyX2_ok (by decide +kernel) (by decide +kernel) (by decide +kernel) hK hP hD hS hA rfl (by decide) (had 0) (Nat.le_of_ble_eq_true rfl) (Nat.le_of_ble_eq_true rfl) dL_law_0 (fun H hz hP hD hS => ?_)
  refine lv_dup hx hb dL_law_3 rfl ?_
  refine law_IE (wb := []) (As := []) (rest := [.ref (ad 0)]) (EP := fun U => va_AO RX1 U ∧ va_AO RX0 U ∧ va_Nw (.methodLinkNest RX2 32 yX1_init RX2) U) (fun a U g mk h => st_zG h) (fun U hW => ⟨va_AO.moved hW.alike (va_AO.of (hts0 (.arrayOver (.object RX1)) (by decide +kernel))), va_AO.moved hW.alike (va_AO.of (hts0 (.arrayOver (.object RX0)) (by decide +kernel))), va_Nw.warmM hW (va_Nw.of rfl (hts0 (.methodLinkNest RX2 32 yX1_init RX2) (by decide +kernel)))⟩) F (c_X2_init l D k ad H.size (fun _ => .inr (2, [])) (fun j h1 h2 => by rw [had, hz]; omega)) (cwI 0 hts gL_law_X2_init rfl rfl rfl (hts0 (.initialized RX2) (by decide +kernel)) (hts0 (.methodLink RL 90 yX2_init) (by decide +kernel)) (hts0 (.instanceMethod yX2_init) (by decide +kernel)) rfl (by decide +kernel) ⟨Nat.le_of_ble_eq_true rfl, Nat.le_of_ble_eq_true rfl⟩) hK hP hD hS hA rfl hl.1 rfl (Nat.le_of_ble_eq_true rfl) dL_law_4 ⟨Nat.le_of_ble_eq_true rfl, Nat.le_of_ble_eq_true rfl⟩ (fun H2 locs hz2 hP hD hS => ?_)
  have hz3 : H2.size = s.heap.size + 20 := by rw [hz2, hz]
  refine lv_astore_n (lv' := [(1, .ref (ad 0)), (0, .ref b)]) hx hb dL_law_7 rfl hl (by decide) rfl (fun ls hl => ?_)
  have hP : va_P D vwCl (zw 20 ad (cX k ad M0 O0)) H2 := hP
  have hD : va_D (fun q : Nat => s.heap.size ≤ q) (zw 20 ad (cX k ad M0 O0)) := hD
  refine z_new F1 (C := RX2) (T := TX2) (N := 5) (ci := 2) (fs := [.null, .null, .null, .int (nI 0), .int (nI 0)]) inX2 tyX2 tyX2_ok (by decide +kernel) (by decide +kernel) (by decide +kernel) hK hP hD hS hA rfl (by decide) (by rw [had, hz3]) (Nat.le_of_ble_eq_true rfl) (Nat.le_of_ble_eq_true rfl) dL_law_8 (fun H3 hz4 hP hD hS => ?_)
  refine lv_dup hx hb dL_law_11 rfl ?_
  rw [← zw_pushA] at hP hD
  generalize hbde : (fun j : Nat => ad (20 + j)) = bd
  have hbd : ∀ j, bd j = s.heap.size + 20 + j := fun j => by rw [← hbde]; show ad (20 + j) = _; rw [had]; omega
  have hb0 : ad 20 = bd 0 := by rw [← hbde]
  rw [hb0] at hP hD ⊢
  have hP : va_P D vwCl (zw 20 ad (cX k ad M0 O0) ++ zw 1 bd (va_up (fun _ => .inr (2, [])) 0 (.inr (2, [.null, .null, .null, .int (nI 0), .int (nI 0)])))) H3 := hP
  have hD : va_D (fun q : Nat => s.heap.size ≤ q) (zw 20 ad (cX k ad M0 O0) ++ zw 1 bd (va_up (fun _ => .inr (2, [])) 0 (.inr (2, [.null, .null, .null, .int (nI 0), .int (nI 0)])))) := hD
  refine law_IE (wb := zw 20 ad (cX k ad M0 O0)) (As := []) (rest := [.ref (bd 0)]) (EP := fun U => va_AO RX1 U ∧ va_AO RX0 U ∧ va_Nw (.methodLinkNest RX2 32 yX1_init RX2) U) (fun a U g mk h => st_zG h) (fun U hW => ⟨va_AO.moved hW.alike (va_AO.of (hts0 (.arrayOver (.object RX1)) (by decide +kernel))), va_AO.moved hW.alike (va_AO.of (hts0 (.arrayOver (.object RX0)) (by decide +kernel))), va_Nw.warmM hW (va_Nw.of rfl (hts0 (.methodLinkNest RX2 32 yX1_init RX2) (by decide +kernel)))⟩) F (c_X2_init l D k bd H3.size (fun _ => .inr (2, [])) (fun j h1 h2 => by rw [hbd, hz4, hz3]; omega)) (cwI 0 hts gL_law_X2_init rfl rfl rfl (hts0 (.initialized RX2) (by decide +kernel)) (hts0 (.methodLink RL 90 yX2_init) (by decide +kernel)) (hts0 (.instanceMethod yX2_init) (by decide +kernel)) rfl (by decide +kernel) ⟨Nat.le_of_ble_eq_true rfl, Nat.le_of_ble_eq_true rfl⟩) hK hP hD hS hA rfl hl.1 rfl (Nat.le_of_ble_eq_true rfl) dL_law_12 ⟨Nat.le_of_ble_eq_true rfl, Nat.le_of_ble_eq_true rfl⟩ (fun H4 locs hz5 hP hD hS => ?_)
  refine lv_astore_n (lv' := [(2, .ref (bd 0)), (1, .ref (ad 0)), (0, .ref b)]) hx hb dL_law_15 rfl hl (by decide) rfl (fun ls hl => ?_)
  refine lv_iconst (v := nI 1) hx hb dL_law_16 (by decide) ?_
  refine lv_aload_n hx hb dL_law_17 rfl (lv_at hl 2 rfl) ?_
  refine lv_iconst (v := nI 0) hx hb dL_law_18 (by decide) ?_
  refine tw_drawn (rest := [.int (nI 1)]) F (c_L_drawn l (show 0 < 120 by omega) hL) (va_cwS 2 hts gL_law_L_drawn rfl rfl rfl (by decide +kernel) ⟨Nat.le_of_ble_eq_true rfl, Nat.le_of_ble_eq_true rfl⟩) hX hbl hbA hS rfl hl.1 rfl (Nat.le_of_ble_eq_true rfl) dL_law_19 ⟨Nat.le_of_ble_eq_true rfl, Nat.le_of_ble_eq_true rfl⟩ (fun d hd => ?_)
  refine lv_iconst (v := nI 3) hx hb dL_law_22 (by decide) ?_
  refine z_rem F (by omega) (by omega) (by omega) dL_law_23 ?_
  refine z_add F dL_law_24 ?_
  have hg4 : 1 + (d % 3) < 4 := by omega
  generalize 1 + (d % 3) = g at hg4 ⊢
  refine lv_istore_n (lv' := [(3, .int (nI g)), (2, .ref (bd 0)), (1, .ref (ad 0)), (0, .ref b)]) hx hb dL_law_25 rfl hl (by decide) rfl (fun ls hl => ?_)
  refine lv_iconst (v := nI 0) hx hb dL_law_26 (by decide) ?_
  refine lv_istore (lv' := [(4, .int (nI 0)), (3, .int (nI g)), (2, .ref (bd 0)), (1, .ref (ad 0)), (0, .ref b)]) hx hb dL_law_27 hl (by decide) rfl (fun ls hl => ?_)
  refine lv_iconst (v := nI 1) hx hb dL_law_29 (by decide) ?_
  refine lv_istore (lv' := [(5, .int (nI 1)), (4, .int (nI 0)), (3, .int (nI g)), (2, .ref (bd 0)), (1, .ref (ad 0)), (0, .ref b)]) hx hb dL_law_30 hl (by decide) rfl (fun ls hl => ?_)
  refine lv_iconst (v := nI 1) hx hb dL_law_32 (by decide) ?_
  refine lv_istore (lv' := [(6, .int (nI 1)), (5, .int (nI 1)), (4, .int (nI 0)), (3, .int (nI g)), (2, .ref (bd 0)), (1, .ref (ad 0)), (0, .ref b)]) hx hb dL_law_33 hl (by decide) rfl (fun ls hl => ?_)
  refine lp_loop F hK hN hE hfl hX hbl hL hg4 (fun H locs ls ad bd cs i hS hl => ?_) 119 1 _ _ M0 M0 O0 O0 ad bd (nI 0) _ _ ls rfl (Nat.le_of_ble_eq_true rfl) (Nat.le_of_ble_eq_true rfl) sy_0 zInv_0 zInv_0 hP hD hS (lv_sub hl [6, 5, 4, 3, 2, 1, 0] rfl)
  refine va_forget hS.2.2 ?_
  refine lv_iload hx hb dL_law_831 (lv_at hl 5 rfl) ?_
  refine z_top (show nI 1 = 1 from rfl) ?_
  exact lw_ret hx hb hr hlocks dL_law_833
